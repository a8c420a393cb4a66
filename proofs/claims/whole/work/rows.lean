section
-- ===== PART A: goes FIRST, ahead of the names: the tables' words, and 'selects' of the private methods out of them =====
/-- a private method of a class that the tables say can be made, by its rows of tables_1 -/
def lw_okq (q : MethodName × Nat) : Prop := (q.1.cls ≠ "java/lang/invoke/MethodHandle" ∧ q.1.cls ≠ "java/lang/invoke/VarHandle") ∧ Cond.instantiable q.1.cls q.2 ∈ tables_1 ∧ Cond.privateMethod q.1 ∈ tables_1 ∧ Cond.instanceMethod q.1 ∈ tables_1
theorem lw_p0 : lw_okq (⟨"TapeCounter", "weightSum", "()I"⟩, 6) := ⟨⟨by decide +kernel, by decide +kernel⟩, List.mem_of_getElem? (i := 8) (by decide +kernel), List.mem_of_getElem? (i := 106) (by decide +kernel), List.mem_of_getElem? (i := 107) (by decide +kernel)⟩
theorem lw_p1 : lw_okq (⟨"TapeCounter", "sample", "(LTapeCounter$Tape;III)I"⟩, 6) := ⟨⟨by decide +kernel, by decide +kernel⟩, List.mem_of_getElem? (i := 8) (by decide +kernel), List.mem_of_getElem? (i := 119) (by decide +kernel), List.mem_of_getElem? (i := 120) (by decide +kernel)⟩
theorem lw_p2 : lw_okq (⟨"TapeCounter", "order", "(LTapeCounter$Tape;I)I"⟩, 6) := ⟨⟨by decide +kernel, by decide +kernel⟩, List.mem_of_getElem? (i := 8) (by decide +kernel), List.mem_of_getElem? (i := 150) (by decide +kernel), List.mem_of_getElem? (i := 151) (by decide +kernel)⟩
theorem lw_p3 : lw_okq (⟨"TapeCounter", "ordersBeforeRow", "(I)I"⟩, 6) := ⟨⟨by decide +kernel, by decide +kernel⟩, List.mem_of_getElem? (i := 8) (by decide +kernel), List.mem_of_getElem? (i := 154) (by decide +kernel), List.mem_of_getElem? (i := 155) (by decide +kernel)⟩
theorem lw_p4 : lw_okq (⟨"TapeCounter", "share", "(LTapeCounter$Tape;)I"⟩, 6) := ⟨⟨by decide +kernel, by decide +kernel⟩, List.mem_of_getElem? (i := 8) (by decide +kernel), List.mem_of_getElem? (i := 161) (by decide +kernel), List.mem_of_getElem? (i := 162) (by decide +kernel)⟩
theorem lw_p5 : lw_okq (⟨"TapeCounter", "isCountable", "(IIII)Z"⟩, 6) := ⟨⟨by decide +kernel, by decide +kernel⟩, List.mem_of_getElem? (i := 8) (by decide +kernel), List.mem_of_getElem? (i := 184) (by decide +kernel), List.mem_of_getElem? (i := 185) (by decide +kernel)⟩
theorem lw_p6 : lw_okq (⟨"TapeCounter", "tryAllTapes", "(IIIII)V"⟩, 6) := ⟨⟨by decide +kernel, by decide +kernel⟩, List.mem_of_getElem? (i := 8) (by decide +kernel), List.mem_of_getElem? (i := 188) (by decide +kernel), List.mem_of_getElem? (i := 189) (by decide +kernel)⟩
theorem lw_p7 : lw_okq (⟨"TapeCounterModel", "sum", "()I"⟩, 12) := ⟨⟨by decide +kernel, by decide +kernel⟩, List.mem_of_getElem? (i := 219) (by decide +kernel), List.mem_of_getElem? (i := 282) (by decide +kernel), List.mem_of_getElem? (i := 283) (by decide +kernel)⟩
theorem lw_p8 : lw_okq (⟨"TapeCounterModel", "run", "(III)I"⟩, 12) := ⟨⟨by decide +kernel, by decide +kernel⟩, List.mem_of_getElem? (i := 219) (by decide +kernel), List.mem_of_getElem? (i := 291) (by decide +kernel), List.mem_of_getElem? (i := 292) (by decide +kernel)⟩
theorem lw_p9 : lw_okq (⟨"TapeCounterModel", "plain", "(I)I"⟩, 12) := ⟨⟨by decide +kernel, by decide +kernel⟩, List.mem_of_getElem? (i := 219) (by decide +kernel), List.mem_of_getElem? (i := 295) (by decide +kernel), List.mem_of_getElem? (i := 296) (by decide +kernel)⟩
theorem lw_p10 : lw_okq (⟨"TapeCounterModel", "bit", "()I"⟩, 12) := ⟨⟨by decide +kernel, by decide +kernel⟩, List.mem_of_getElem? (i := 219) (by decide +kernel), List.mem_of_getElem? (i := 299) (by decide +kernel), List.mem_of_getElem? (i := 300) (by decide +kernel)⟩
theorem lw_p11 : lw_okq (⟨"TapeCounterModel", "thrifty", "(I)I"⟩, 12) := ⟨⟨by decide +kernel, by decide +kernel⟩, List.mem_of_getElem? (i := 219) (by decide +kernel), List.mem_of_getElem? (i := 303) (by decide +kernel), List.mem_of_getElem? (i := 304) (by decide +kernel)⟩
theorem lw_p12 : lw_okq (⟨"TapeCounterModel", "coin", "(II)I"⟩, 12) := ⟨⟨by decide +kernel, by decide +kernel⟩, List.mem_of_getElem? (i := 219) (by decide +kernel), List.mem_of_getElem? (i := 307) (by decide +kernel), List.mem_of_getElem? (i := 308) (by decide +kernel)⟩
theorem lw_p13 : lw_okq (⟨"TapeCounterModel", "order", "(I)I"⟩, 12) := ⟨⟨by decide +kernel, by decide +kernel⟩, List.mem_of_getElem? (i := 219) (by decide +kernel), List.mem_of_getElem? (i := 311) (by decide +kernel), List.mem_of_getElem? (i := 312) (by decide +kernel)⟩
theorem lw_p14 : lw_okq (⟨"TapeCounterModel", "choice", "(II)I"⟩, 12) := ⟨⟨by decide +kernel, by decide +kernel⟩, List.mem_of_getElem? (i := 219) (by decide +kernel), List.mem_of_getElem? (i := 315) (by decide +kernel), List.mem_of_getElem? (i := 316) (by decide +kernel)⟩
theorem lw_p15 : lw_okq (⟨"TapeCounterModel", "share", "()I"⟩, 12) := ⟨⟨by decide +kernel, by decide +kernel⟩, List.mem_of_getElem? (i := 219) (by decide +kernel), List.mem_of_getElem? (i := 319) (by decide +kernel), List.mem_of_getElem? (i := 320) (by decide +kernel)⟩
def lw_privs_1 : List (MethodName × Nat) := [(⟨"TapeCounter", "weightSum", "()I"⟩, 6), (⟨"TapeCounter", "sample", "(LTapeCounter$Tape;III)I"⟩, 6), (⟨"TapeCounter", "order", "(LTapeCounter$Tape;I)I"⟩, 6), (⟨"TapeCounter", "ordersBeforeRow", "(I)I"⟩, 6), (⟨"TapeCounter", "share", "(LTapeCounter$Tape;)I"⟩, 6), (⟨"TapeCounter", "isCountable", "(IIII)Z"⟩, 6), (⟨"TapeCounter", "tryAllTapes", "(IIIII)V"⟩, 6), (⟨"TapeCounterModel", "sum", "()I"⟩, 12), (⟨"TapeCounterModel", "run", "(III)I"⟩, 12), (⟨"TapeCounterModel", "plain", "(I)I"⟩, 12), (⟨"TapeCounterModel", "bit", "()I"⟩, 12), (⟨"TapeCounterModel", "thrifty", "(I)I"⟩, 12), (⟨"TapeCounterModel", "coin", "(II)I"⟩, 12), (⟨"TapeCounterModel", "order", "(I)I"⟩, 12), (⟨"TapeCounterModel", "choice", "(II)I"⟩, 12), (⟨"TapeCounterModel", "share", "()I"⟩, 12)]
theorem lw_r1 : ∀ q ∈ lw_privs_1, lw_okq q := List.forall_mem_cons.mpr ⟨lw_p0, List.forall_mem_cons.mpr ⟨lw_p1, List.forall_mem_cons.mpr ⟨lw_p2, List.forall_mem_cons.mpr ⟨lw_p3, List.forall_mem_cons.mpr ⟨lw_p4, List.forall_mem_cons.mpr ⟨lw_p5, List.forall_mem_cons.mpr ⟨lw_p6, List.forall_mem_cons.mpr ⟨lw_p7, List.forall_mem_cons.mpr ⟨lw_p8, List.forall_mem_cons.mpr ⟨lw_p9, List.forall_mem_cons.mpr ⟨lw_p10, List.forall_mem_cons.mpr ⟨lw_p11, List.forall_mem_cons.mpr ⟨lw_p12, List.forall_mem_cons.mpr ⟨lw_p13, List.forall_mem_cons.mpr ⟨lw_p14, List.forall_mem_cons.mpr ⟨lw_p15, fun _ h => absurd h List.not_mem_nil⟩⟩⟩⟩⟩⟩⟩⟩⟩⟩⟩⟩⟩⟩⟩⟩
theorem lw_p16 : lw_okq (⟨"TapeCounterModel", "isAll", "(IIII)Z"⟩, 12) := ⟨⟨by decide +kernel, by decide +kernel⟩, List.mem_of_getElem? (i := 219) (by decide +kernel), List.mem_of_getElem? (i := 331) (by decide +kernel), List.mem_of_getElem? (i := 332) (by decide +kernel)⟩
theorem lw_p17 : lw_okq (⟨"TapeCounterModel", "tryAll", "(IIIII)V"⟩, 12) := ⟨⟨by decide +kernel, by decide +kernel⟩, List.mem_of_getElem? (i := 219) (by decide +kernel), List.mem_of_getElem? (i := 335) (by decide +kernel), List.mem_of_getElem? (i := 336) (by decide +kernel)⟩
def lw_privs_2 : List (MethodName × Nat) := [(⟨"TapeCounterModel", "isAll", "(IIII)Z"⟩, 12), (⟨"TapeCounterModel", "tryAll", "(IIIII)V"⟩, 12)]
theorem lw_r2 : ∀ q ∈ lw_privs_2, lw_okq q := List.forall_mem_cons.mpr ⟨lw_p16, List.forall_mem_cons.mpr ⟨lw_p17, fun _ h => absurd h List.not_mem_nil⟩⟩
def lw_privs : List (MethodName × Nat) := lw_privs_1 ++ (lw_privs_2)
def lw_tbl : List Cond := k2_sels lw_privs ++ tables_1
theorem lw_privs_ok : ∀ q ∈ lw_privs, lw_okq q := by
  show ∀ q ∈ lw_privs_1 ++ (lw_privs_2), lw_okq q
  exact List.forall_mem_append.mpr ⟨lw_r1, lw_r2⟩
end
section
/-! the words of the tables that every method may use: one list for all methods -/
def gG : List Cond := lw_tbl.filter goodWord
theorem gT1 {w : Cond} (i : Nat) (h : tables_1_1[i]? = some w) : w ∈ tables_1 := List.mem_append_left _ (List.mem_of_getElem? h)
theorem gT2 {w : Cond} (i : Nat) (h : tables_1_2[i]? = some w) : w ∈ tables_1 := List.mem_append_right _ (List.mem_of_getElem? h)
theorem gG1 {w : Cond} (i : Nat) (h : tables_1_1[i]? = some w) (hg : goodWord w = true) : w ∈ gG := List.mem_filter.mpr ⟨List.mem_append_right _ (gT1 i h), hg⟩
theorem gG2 {w : Cond} (i : Nat) (h : tables_1_2[i]? = some w) (hg : goodWord w = true) : w ∈ gG := List.mem_filter.mpr ⟨List.mem_append_right _ (gT2 i h), hg⟩
theorem gGs {q : MethodName × Nat} (h : q ∈ lw_privs) (hg : goodWord (Cond.selects q.1.cls q.1 q.1) = true) : Cond.selects q.1.cls q.1 q.1 ∈ gG := List.mem_filter.mpr ⟨List.mem_append_left _ (List.mem_map.mpr ⟨q, h, rfl⟩), hg⟩
theorem lw_r1_in {q : MethodName × Nat} (i : Nat) (h : lw_privs_1[i]? = some q) : q ∈ lw_privs := List.mem_append_left _ (List.mem_of_getElem? h)
theorem lw_r2_in {q : MethodName × Nat} (i : Nat) (h : lw_privs_2[i]? = some q) : q ∈ lw_privs := List.mem_append_right _ (List.mem_of_getElem? h)
theorem w_0 : (Cond.initialized "TapeCounterLaw" : Cond) ∈ gG := gG1 0 rfl rfl
theorem w_1 : (Cond.initialized "TapeCounter" : Cond) ∈ gG := gG1 1 rfl rfl
theorem w_2 : (Cond.initialized "TapeCounter$Tape" : Cond) ∈ gG := gG1 2 rfl rfl
theorem w_3 : (Cond.initialized "TapeCounter$Tally" : Cond) ∈ gG := gG1 3 rfl rfl
theorem w_4 : (Cond.initialized "TapeCounterModel" : Cond) ∈ gG := gG1 4 rfl rfl
theorem w_5 : (Cond.initialized "java/lang/System" : Cond) ∈ gG := gG1 5 rfl rfl
theorem w_6 : (Cond.initialized "java/lang/Math" : Cond) ∈ gG := gG1 6 rfl rfl
theorem w_7 : (Cond.classLink "TapeCounterLaw" 7 "TapeCounter" : Cond) ∈ gG := gG1 7 rfl rfl
theorem w_8 : (Cond.instantiable "TapeCounter" 6 : Cond) ∈ gG := gG1 8 rfl rfl
theorem w_9 : (Cond.methodLink "TapeCounterLaw" 9 ⟨"TapeCounter", "<init>", "()V"⟩ : Cond) ∈ gG := gG1 9 rfl rfl
theorem w_10 : (Cond.instanceMethod ⟨"TapeCounter", "<init>", "()V"⟩ : Cond) ∈ gG := gG1 10 rfl rfl
theorem w_11 : (Cond.code ⟨"TapeCounter", "<init>", "()V"⟩ prog_1_method_1_code 2 none : Cond) ∈ gG := gG1 11 rfl rfl
theorem w_12 : (Cond.methodLink "TapeCounter" 1 ⟨"java/lang/Object", "<init>", "()V"⟩ : Cond) ∈ gG := gG1 12 rfl rfl
theorem w_13 : (Cond.instanceMethod ⟨"java/lang/Object", "<init>", "()V"⟩ : Cond) ∈ gG := gG1 13 rfl rfl
theorem w_14 : (Cond.code ⟨"java/lang/Object", "<init>", "()V"⟩ object_method_1_code 1 none : Cond) ∈ gG := gG1 14 rfl rfl
theorem w_15 : (Cond.classLink "TapeCounter" 16 "TapeCounter$Tape" : Cond) ∈ gG := gG1 15 rfl rfl
theorem w_16 : (Cond.instantiable "TapeCounter$Tape" 3 : Cond) ∈ gG := gG1 16 rfl rfl
theorem w_17 : (Cond.methodLink "TapeCounter" 18 ⟨"TapeCounter$Tape", "<init>", "(I)V"⟩ : Cond) ∈ gG := gG1 17 rfl rfl
theorem w_18 : (Cond.instanceMethod ⟨"TapeCounter$Tape", "<init>", "(I)V"⟩ : Cond) ∈ gG := gG1 18 rfl rfl
theorem w_19 : (Cond.code ⟨"TapeCounter$Tape", "<init>", "(I)V"⟩ prog_3_method_1_code 2 none : Cond) ∈ gG := gG1 19 rfl rfl
theorem w_20 : (Cond.methodLink "TapeCounter$Tape" 3 ⟨"java/lang/Object", "<init>", "()V"⟩ : Cond) ∈ gG := gG1 20 rfl rfl
theorem w_21 : (Cond.fieldLink "TapeCounter$Tape" 9 "TapeCounter$Tape" "bits" "[I" : Cond) ∈ gG := gG1 21 rfl rfl
theorem w_22 : (Cond.fieldLink "TapeCounter$Tape" 15 "TapeCounter$Tape" "size" "I" : Cond) ∈ gG := gG1 22 rfl rfl
theorem w_23 : (Cond.fieldLink "TapeCounter$Tape" 19 "TapeCounter$Tape" "at" "I" : Cond) ∈ gG := gG1 23 rfl rfl
theorem w_24 : (Cond.laysFinal "TapeCounter$Tape" "TapeCounter$Tape" "bits" "[I" : Cond) ∈ gG := gG1 24 rfl rfl
theorem w_26 : (Cond.lays "TapeCounter$Tape" "TapeCounter$Tape" "size" "I" : Cond) ∈ gG := gG1 26 rfl rfl
theorem w_28 : (Cond.lays "TapeCounter$Tape" "TapeCounter$Tape" "at" "I" : Cond) ∈ gG := gG1 28 rfl rfl
theorem w_31 : (Cond.arrayClass .int : Cond) ∈ gG := gG1 31 rfl rfl
theorem w_32 : (Cond.classLink "TapeCounter" 28 "TapeCounter$Tally" : Cond) ∈ gG := gG1 32 rfl rfl
theorem w_33 : (Cond.instantiable "TapeCounter$Tally" 4 : Cond) ∈ gG := gG1 33 rfl rfl
theorem w_34 : (Cond.methodLinkNest "TapeCounter" 30 ⟨"TapeCounter$Tally", "<init>", "()V"⟩ "TapeCounter" : Cond) ∈ tables_1 := gT1 34 rfl
theorem w_35 : (Cond.instanceMethod ⟨"TapeCounter$Tally", "<init>", "()V"⟩ : Cond) ∈ gG := gG1 35 rfl rfl
theorem w_36 : (Cond.code ⟨"TapeCounter$Tally", "<init>", "()V"⟩ prog_2_method_1_code 1 none : Cond) ∈ gG := gG1 36 rfl rfl
theorem w_37 : (Cond.methodLink "TapeCounter$Tally" 3 ⟨"java/lang/Object", "<init>", "()V"⟩ : Cond) ∈ gG := gG1 37 rfl rfl
theorem w_38 : (Cond.fieldLink "TapeCounter$Tally" 9 "TapeCounter$Tally" "hits" "I" : Cond) ∈ gG := gG1 38 rfl rfl
theorem w_39 : (Cond.fieldLinkNest "TapeCounter" 78 "TapeCounter$Tally" "hits" "I" "TapeCounter" : Cond) ∈ tables_1 := gT1 39 rfl
theorem w_40 : (Cond.fieldLink "TapeCounter$Tally" 15 "TapeCounter$Tally" "runOuts" "I" : Cond) ∈ gG := gG1 40 rfl rfl
theorem w_41 : (Cond.fieldLinkNest "TapeCounter" 81 "TapeCounter$Tally" "runOuts" "I" "TapeCounter" : Cond) ∈ tables_1 := gT1 41 rfl
theorem w_42 : (Cond.fieldLink "TapeCounter$Tally" 18 "TapeCounter$Tally" "bitsRead" "I" : Cond) ∈ gG := gG1 42 rfl rfl
theorem w_43 : (Cond.fieldLinkNest "TapeCounter" 84 "TapeCounter$Tally" "bitsRead" "I" "TapeCounter" : Cond) ∈ tables_1 := gT1 43 rfl
theorem w_44 : (Cond.fieldLink "TapeCounter$Tally" 21 "TapeCounter$Tally" "fewestBits" "I" : Cond) ∈ gG := gG1 44 rfl rfl
theorem w_45 : (Cond.fieldLinkNest "TapeCounter" 87 "TapeCounter$Tally" "fewestBits" "I" "TapeCounter" : Cond) ∈ tables_1 := gT1 45 rfl
theorem w_46 : (Cond.lays "TapeCounter$Tally" "TapeCounter$Tally" "hits" "I" : Cond) ∈ gG := gG1 46 rfl rfl
theorem w_48 : (Cond.lays "TapeCounter$Tally" "TapeCounter$Tally" "runOuts" "I" : Cond) ∈ gG := gG1 48 rfl rfl
theorem w_50 : (Cond.lays "TapeCounter$Tally" "TapeCounter$Tally" "bitsRead" "I" : Cond) ∈ gG := gG1 50 rfl rfl
theorem w_52 : (Cond.lays "TapeCounter$Tally" "TapeCounter$Tally" "fewestBits" "I" : Cond) ∈ gG := gG1 52 rfl rfl
theorem w_55 : (Cond.fieldLink "TapeCounter" 9 "TapeCounter" "weights" "[I" : Cond) ∈ gG := gG1 55 rfl rfl
theorem w_56 : (Cond.fieldLink "TapeCounter" 13 "TapeCounter" "row" "[I" : Cond) ∈ gG := gG1 56 rfl rfl
theorem w_57 : (Cond.fieldLink "TapeCounter" 21 "TapeCounter" "tape" "LTapeCounter$Tape;" : Cond) ∈ gG := gG1 57 rfl rfl
theorem w_58 : (Cond.fieldLink "TapeCounter" 25 "TapeCounter" "trial" "LTapeCounter$Tape;" : Cond) ∈ gG := gG1 58 rfl rfl
theorem w_59 : (Cond.fieldLink "TapeCounter" 31 "TapeCounter" "tally" "LTapeCounter$Tally;" : Cond) ∈ gG := gG1 59 rfl rfl
theorem w_60 : (Cond.fieldLink "TapeCounter" 35 "TapeCounter" "latestSpent" "I" : Cond) ∈ gG := gG1 60 rfl rfl
theorem w_61 : (Cond.laysFinal "TapeCounter" "TapeCounter" "weights" "[I" : Cond) ∈ gG := gG1 61 rfl rfl
theorem w_63 : (Cond.laysFinal "TapeCounter" "TapeCounter" "row" "[I" : Cond) ∈ gG := gG1 63 rfl rfl
theorem w_65 : (Cond.laysFinal "TapeCounter" "TapeCounter" "tape" "LTapeCounter$Tape;" : Cond) ∈ gG := gG1 65 rfl rfl
theorem w_67 : (Cond.laysFinal "TapeCounter" "TapeCounter" "trial" "LTapeCounter$Tape;" : Cond) ∈ gG := gG1 67 rfl rfl
theorem w_69 : (Cond.laysFinal "TapeCounter" "TapeCounter" "tally" "LTapeCounter$Tally;" : Cond) ∈ gG := gG1 69 rfl rfl
theorem w_71 : (Cond.lays "TapeCounter" "TapeCounter" "latestSpent" "I" : Cond) ∈ gG := gG1 71 rfl rfl
theorem w_74 : (Cond.methodLink "TapeCounterLaw" 13 ⟨"TapeCounter", "weigh", "(II)Z"⟩ : Cond) ∈ gG := gG1 74 rfl rfl
theorem w_75 : (Cond.instanceMethod ⟨"TapeCounter", "weigh", "(II)Z"⟩ : Cond) ∈ gG := gG1 75 rfl rfl
theorem w_76 : (Cond.selects "TapeCounter" ⟨"TapeCounter", "weigh", "(II)Z"⟩ ⟨"TapeCounter", "weigh", "(II)Z"⟩ : Cond) ∈ gG := gG1 76 rfl rfl
theorem w_77 : (Cond.code ⟨"TapeCounter", "weigh", "(II)Z"⟩ prog_1_method_2_code 3 (some .boolean) : Cond) ∈ gG := gG1 77 rfl rfl
theorem w_78 : (Cond.methodLink "TapeCounter" 39 ⟨"TapeCounter", "isWithin", "(III)Z"⟩ : Cond) ∈ gG := gG1 78 rfl rfl
theorem w_79 : (Cond.static ⟨"TapeCounter", "isWithin", "(III)Z"⟩ : Cond) ∈ gG := gG1 79 rfl rfl
theorem w_80 : (Cond.code ⟨"TapeCounter", "isWithin", "(III)Z"⟩ prog_1_method_13_code 3 (some .boolean) : Cond) ∈ gG := gG1 80 rfl rfl
theorem w_81 : (Cond.methodLink "TapeCounterLaw" 18 ⟨"TapeCounter", "weight", "(I)I"⟩ : Cond) ∈ gG := gG1 81 rfl rfl
theorem w_82 : (Cond.instanceMethod ⟨"TapeCounter", "weight", "(I)I"⟩ : Cond) ∈ gG := gG1 82 rfl rfl
theorem w_83 : (Cond.selects "TapeCounter" ⟨"TapeCounter", "weight", "(I)I"⟩ ⟨"TapeCounter", "weight", "(I)I"⟩ : Cond) ∈ gG := gG1 83 rfl rfl
theorem w_84 : (Cond.code ⟨"TapeCounter", "weight", "(I)I"⟩ prog_1_method_3_code 2 (some .int) : Cond) ∈ gG := gG1 84 rfl rfl
theorem w_85 : (Cond.methodLink "TapeCounterLaw" 23 ⟨"TapeCounter", "feed", "(II)I"⟩ : Cond) ∈ gG := gG1 85 rfl rfl
theorem w_86 : (Cond.instanceMethod ⟨"TapeCounter", "feed", "(II)I"⟩ : Cond) ∈ gG := gG1 86 rfl rfl
theorem w_87 : (Cond.selects "TapeCounter" ⟨"TapeCounter", "feed", "(II)I"⟩ ⟨"TapeCounter", "feed", "(II)I"⟩ : Cond) ∈ gG := gG1 87 rfl rfl
theorem w_88 : (Cond.code ⟨"TapeCounter", "feed", "(II)I"⟩ prog_1_method_4_code 3 (some .int) : Cond) ∈ gG := gG1 88 rfl rfl
theorem w_89 : (Cond.methodLink "TapeCounter" 43 ⟨"TapeCounter$Tape", "append", "(II)Z"⟩ : Cond) ∈ gG := gG1 89 rfl rfl
theorem w_90 : (Cond.instanceMethod ⟨"TapeCounter$Tape", "append", "(II)Z"⟩ : Cond) ∈ gG := gG1 90 rfl rfl
theorem w_91 : (Cond.selects "TapeCounter$Tape" ⟨"TapeCounter$Tape", "append", "(II)Z"⟩ ⟨"TapeCounter$Tape", "append", "(II)Z"⟩ : Cond) ∈ gG := gG1 91 rfl rfl
theorem w_92 : (Cond.code ⟨"TapeCounter$Tape", "append", "(II)Z"⟩ prog_3_method_6_code 4 (some .boolean) : Cond) ∈ gG := gG1 92 rfl rfl
theorem w_93 : (Cond.methodLink "TapeCounter" 47 ⟨"TapeCounter$Tape", "size", "()I"⟩ : Cond) ∈ gG := gG1 93 rfl rfl
theorem w_94 : (Cond.instanceMethod ⟨"TapeCounter$Tape", "size", "()I"⟩ : Cond) ∈ gG := gG1 94 rfl rfl
theorem w_95 : (Cond.selects "TapeCounter$Tape" ⟨"TapeCounter$Tape", "size", "()I"⟩ ⟨"TapeCounter$Tape", "size", "()I"⟩ : Cond) ∈ gG := gG1 95 rfl rfl
theorem w_96 : (Cond.code ⟨"TapeCounter$Tape", "size", "()I"⟩ prog_3_method_2_code 1 (some .int) : Cond) ∈ gG := gG1 96 rfl rfl
theorem w_97 : (Cond.methodLink "TapeCounterLaw" 28 ⟨"TapeCounter", "left", "()I"⟩ : Cond) ∈ gG := gG1 97 rfl rfl
theorem w_98 : (Cond.instanceMethod ⟨"TapeCounter", "left", "()I"⟩ : Cond) ∈ gG := gG1 98 rfl rfl
theorem w_99 : (Cond.selects "TapeCounter" ⟨"TapeCounter", "left", "()I"⟩ ⟨"TapeCounter", "left", "()I"⟩ : Cond) ∈ gG := gG1 99 rfl rfl
theorem w_100 : (Cond.code ⟨"TapeCounter", "left", "()I"⟩ prog_1_method_5_code 1 (some .int) : Cond) ∈ gG := gG1 100 rfl rfl
theorem w_101 : (Cond.methodLink "TapeCounterLaw" 33 ⟨"TapeCounter", "isOne", "(III)Z"⟩ : Cond) ∈ gG := gG1 101 rfl rfl
theorem w_102 : (Cond.instanceMethod ⟨"TapeCounter", "isOne", "(III)Z"⟩ : Cond) ∈ gG := gG1 102 rfl rfl
theorem w_103 : (Cond.selects "TapeCounter" ⟨"TapeCounter", "isOne", "(III)Z"⟩ ⟨"TapeCounter", "isOne", "(III)Z"⟩ : Cond) ∈ gG := gG1 103 rfl rfl
theorem w_104 : (Cond.code ⟨"TapeCounter", "isOne", "(III)Z"⟩ prog_1_method_6_code 4 (some .boolean) : Cond) ∈ gG := gG1 104 rfl rfl
theorem w_105 : (Cond.methodLink "TapeCounter" 51 ⟨"TapeCounter", "weightSum", "()I"⟩ : Cond) ∈ gG := gG1 105 rfl rfl
theorem w_107 : (Cond.instanceMethod ⟨"TapeCounter", "weightSum", "()I"⟩ : Cond) ∈ gG := gG1 107 rfl rfl
theorem w_108 : (Cond.code ⟨"TapeCounter", "weightSum", "()I"⟩ prog_1_method_15_code 3 (some .int) : Cond) ∈ gG := gG1 108 rfl rfl
theorem w_109 : (Cond.methodLink "TapeCounterLaw" 38 ⟨"TapeCounter", "draw", "(III)I"⟩ : Cond) ∈ gG := gG1 109 rfl rfl
theorem w_110 : (Cond.instanceMethod ⟨"TapeCounter", "draw", "(III)I"⟩ : Cond) ∈ gG := gG1 110 rfl rfl
theorem w_111 : (Cond.selects "TapeCounter" ⟨"TapeCounter", "draw", "(III)I"⟩ ⟨"TapeCounter", "draw", "(III)I"⟩ : Cond) ∈ gG := gG1 111 rfl rfl
theorem w_112 : (Cond.code ⟨"TapeCounter", "draw", "(III)I"⟩ prog_1_method_7_code 5 (some .int) : Cond) ∈ gG := gG1 112 rfl rfl
theorem w_113 : (Cond.methodLink "TapeCounter" 54 ⟨"TapeCounter", "isOne", "(III)Z"⟩ : Cond) ∈ gG := gG1 113 rfl rfl
theorem w_114 : (Cond.methodLink "TapeCounter" 57 ⟨"TapeCounter$Tape", "rewind", "()V"⟩ : Cond) ∈ gG := gG1 114 rfl rfl
theorem w_115 : (Cond.instanceMethod ⟨"TapeCounter$Tape", "rewind", "()V"⟩ : Cond) ∈ gG := gG1 115 rfl rfl
theorem w_116 : (Cond.selects "TapeCounter$Tape" ⟨"TapeCounter$Tape", "rewind", "()V"⟩ ⟨"TapeCounter$Tape", "rewind", "()V"⟩ : Cond) ∈ gG := gG1 116 rfl rfl
theorem w_117 : (Cond.code ⟨"TapeCounter$Tape", "rewind", "()V"⟩ prog_3_method_5_code 1 none : Cond) ∈ gG := gG1 117 rfl rfl
theorem w_118 : (Cond.methodLink "TapeCounter" 60 ⟨"TapeCounter", "sample", "(LTapeCounter$Tape;III)I"⟩ : Cond) ∈ gG := gG1 118 rfl rfl
theorem w_120 : (Cond.instanceMethod ⟨"TapeCounter", "sample", "(LTapeCounter$Tape;III)I"⟩ : Cond) ∈ gG := gG1 120 rfl rfl
theorem w_121 : (Cond.code ⟨"TapeCounter", "sample", "(LTapeCounter$Tape;III)I"⟩ prog_1_method_17_code 5 (some .int) : Cond) ∈ gG := gG1 121 rfl rfl
theorem w_122 : (Cond.methodLink "TapeCounter" 98 ⟨"TapeCounter", "plain", "(LTapeCounter$Tape;I)I"⟩ : Cond) ∈ gG := gG1 122 rfl rfl
theorem w_123 : (Cond.static ⟨"TapeCounter", "plain", "(LTapeCounter$Tape;I)I"⟩ : Cond) ∈ gG := gG1 123 rfl rfl
theorem w_124 : (Cond.code ⟨"TapeCounter", "plain", "(LTapeCounter$Tape;I)I"⟩ prog_1_method_18_code 5 (some .int) : Cond) ∈ gG := gG1 124 rfl rfl
theorem w_125 : (Cond.methodLink "TapeCounter" 125 ⟨"TapeCounter", "bitsFor", "(I)I"⟩ : Cond) ∈ gG := gG1 125 rfl rfl
theorem w_126 : (Cond.static ⟨"TapeCounter", "bitsFor", "(I)I"⟩ : Cond) ∈ gG := gG1 126 rfl rfl
theorem w_127 : (Cond.code ⟨"TapeCounter", "bitsFor", "(I)I"⟩ prog_1_method_19_code 2 (some .int) : Cond) ∈ gG := gG1 127 rfl rfl
theorem w_128 : (Cond.methodLink "TapeCounter" 129 ⟨"TapeCounter$Tape", "readNumber", "(I)I"⟩ : Cond) ∈ gG := gG1 128 rfl rfl
theorem w_129 : (Cond.instanceMethod ⟨"TapeCounter$Tape", "readNumber", "(I)I"⟩ : Cond) ∈ gG := gG1 129 rfl rfl
theorem w_130 : (Cond.selects "TapeCounter$Tape" ⟨"TapeCounter$Tape", "readNumber", "(I)I"⟩ ⟨"TapeCounter$Tape", "readNumber", "(I)I"⟩ : Cond) ∈ gG := gG1 130 rfl rfl
theorem w_131 : (Cond.code ⟨"TapeCounter$Tape", "readNumber", "(I)I"⟩ prog_3_method_8_code 5 (some .int) : Cond) ∈ gG := gG1 131 rfl rfl
theorem w_132 : (Cond.methodLink "TapeCounter$Tape" 22 ⟨"TapeCounter$Tape", "readBit", "()I"⟩ : Cond) ∈ gG := gG1 132 rfl rfl
theorem w_133 : (Cond.instanceMethod ⟨"TapeCounter$Tape", "readBit", "()I"⟩ : Cond) ∈ gG := gG1 133 rfl rfl
theorem w_134 : (Cond.selects "TapeCounter$Tape" ⟨"TapeCounter$Tape", "readBit", "()I"⟩ ⟨"TapeCounter$Tape", "readBit", "()I"⟩ : Cond) ∈ gG := gG1 134 rfl rfl
theorem w_135 : (Cond.code ⟨"TapeCounter$Tape", "readBit", "()I"⟩ prog_3_method_7_code 2 (some .int) : Cond) ∈ gG := gG1 135 rfl rfl
theorem w_136 : (Cond.methodLink "TapeCounter" 102 ⟨"TapeCounter", "thrifty", "(LTapeCounter$Tape;I)I"⟩ : Cond) ∈ gG := gG1 136 rfl rfl
theorem w_137 : (Cond.static ⟨"TapeCounter", "thrifty", "(LTapeCounter$Tape;I)I"⟩ : Cond) ∈ gG := gG1 137 rfl rfl
theorem w_138 : (Cond.code ⟨"TapeCounter", "thrifty", "(LTapeCounter$Tape;I)I"⟩ prog_1_method_20_code 6 (some .int) : Cond) ∈ gG := gG1 138 rfl rfl
theorem w_139 : (Cond.methodLink "TapeCounter" 132 ⟨"TapeCounter$Tape", "readBit", "()I"⟩ : Cond) ∈ gG := gG1 139 rfl rfl
theorem w_140 : (Cond.methodLink "TapeCounter" 105 ⟨"TapeCounter", "coin", "(LTapeCounter$Tape;II)I"⟩ : Cond) ∈ gG := gG1 140 rfl rfl
theorem w_141 : (Cond.static ⟨"TapeCounter", "coin", "(LTapeCounter$Tape;II)I"⟩ : Cond) ∈ gG := gG1 141 rfl rfl
theorem w_142 : (Cond.code ⟨"TapeCounter", "coin", "(LTapeCounter$Tape;II)I"⟩ prog_1_method_21_code 7 (some .int) : Cond) ∈ gG := gG1 142 rfl rfl
theorem w_143 : (Cond.methodLink "TapeCounter" 109 ⟨"TapeCounter", "tosses", "(LTapeCounter$Tape;I)I"⟩ : Cond) ∈ gG := gG1 143 rfl rfl
theorem w_144 : (Cond.static ⟨"TapeCounter", "tosses", "(LTapeCounter$Tape;I)I"⟩ : Cond) ∈ gG := gG1 144 rfl rfl
theorem w_145 : (Cond.code ⟨"TapeCounter", "tosses", "(LTapeCounter$Tape;I)I"⟩ prog_1_method_22_code 5 (some .int) : Cond) ∈ gG := gG1 145 rfl rfl
theorem w_146 : (Cond.methodLink "TapeCounter" 112 ⟨"TapeCounter", "zerosBeforeOne", "(LTapeCounter$Tape;I)I"⟩ : Cond) ∈ gG := gG1 146 rfl rfl
theorem w_147 : (Cond.static ⟨"TapeCounter", "zerosBeforeOne", "(LTapeCounter$Tape;I)I"⟩ : Cond) ∈ gG := gG1 147 rfl rfl
theorem w_148 : (Cond.code ⟨"TapeCounter", "zerosBeforeOne", "(LTapeCounter$Tape;I)I"⟩ prog_1_method_23_code 4 (some .int) : Cond) ∈ gG := gG1 148 rfl rfl
theorem w_149 : (Cond.methodLink "TapeCounter" 115 ⟨"TapeCounter", "order", "(LTapeCounter$Tape;I)I"⟩ : Cond) ∈ gG := gG1 149 rfl rfl
theorem w_151 : (Cond.instanceMethod ⟨"TapeCounter", "order", "(LTapeCounter$Tape;I)I"⟩ : Cond) ∈ gG := gG1 151 rfl rfl
theorem w_152 : (Cond.code ⟨"TapeCounter", "order", "(LTapeCounter$Tape;I)I"⟩ prog_1_method_24_code 6 (some .int) : Cond) ∈ gG := gG1 152 rfl rfl
theorem w_153 : (Cond.methodLink "TapeCounter" 135 ⟨"TapeCounter", "ordersBeforeRow", "(I)I"⟩ : Cond) ∈ gG := gG1 153 rfl rfl
theorem w_155 : (Cond.instanceMethod ⟨"TapeCounter", "ordersBeforeRow", "(I)I"⟩ : Cond) ∈ gG := gG1 155 rfl rfl
theorem w_156 : (Cond.code ⟨"TapeCounter", "ordersBeforeRow", "(I)I"⟩ prog_1_method_25_code 6 (some .int) : Cond) ∈ gG := gG1 156 rfl rfl
theorem w_157 : (Cond.methodLink "TapeCounter" 118 ⟨"TapeCounter", "choice", "(LTapeCounter$Tape;II)I"⟩ : Cond) ∈ gG := gG1 157 rfl rfl
theorem w_158 : (Cond.static ⟨"TapeCounter", "choice", "(LTapeCounter$Tape;II)I"⟩ : Cond) ∈ gG := gG1 158 rfl rfl
theorem w_159 : (Cond.code ⟨"TapeCounter", "choice", "(LTapeCounter$Tape;II)I"⟩ prog_1_method_26_code 7 (some .int) : Cond) ∈ gG := gG1 159 rfl rfl
theorem w_160 : (Cond.methodLink "TapeCounter" 121 ⟨"TapeCounter", "share", "(LTapeCounter$Tape;)I"⟩ : Cond) ∈ gG := gG1 160 rfl rfl
theorem w_162 : (Cond.instanceMethod ⟨"TapeCounter", "share", "(LTapeCounter$Tape;)I"⟩ : Cond) ∈ gG := gG1 162 rfl rfl
theorem w_163 : (Cond.code ⟨"TapeCounter", "share", "(LTapeCounter$Tape;)I"⟩ prog_1_method_27_code 5 (some .int) : Cond) ∈ gG := gG1 163 rfl rfl
theorem w_164 : (Cond.methodLink "TapeCounter" 64 ⟨"TapeCounter$Tape", "readSoFar", "()I"⟩ : Cond) ∈ gG := gG1 164 rfl rfl
theorem w_165 : (Cond.instanceMethod ⟨"TapeCounter$Tape", "readSoFar", "()I"⟩ : Cond) ∈ gG := gG1 165 rfl rfl
theorem w_166 : (Cond.selects "TapeCounter$Tape" ⟨"TapeCounter$Tape", "readSoFar", "()I"⟩ ⟨"TapeCounter$Tape", "readSoFar", "()I"⟩ : Cond) ∈ gG := gG1 166 rfl rfl
theorem w_167 : (Cond.code ⟨"TapeCounter$Tape", "readSoFar", "()I"⟩ prog_3_method_3_code 1 (some .int) : Cond) ∈ gG := gG1 167 rfl rfl
theorem w_168 : (Cond.methodLink "TapeCounter" 67 ⟨"TapeCounter$Tape", "dropRead", "()V"⟩ : Cond) ∈ gG := gG1 168 rfl rfl
theorem w_169 : (Cond.instanceMethod ⟨"TapeCounter$Tape", "dropRead", "()V"⟩ : Cond) ∈ gG := gG1 169 rfl rfl
theorem w_170 : (Cond.selects "TapeCounter$Tape" ⟨"TapeCounter$Tape", "dropRead", "()V"⟩ ⟨"TapeCounter$Tape", "dropRead", "()V"⟩ : Cond) ∈ gG := gG1 170 rfl rfl
theorem w_171 : (Cond.code ⟨"TapeCounter$Tape", "dropRead", "()V"⟩ prog_3_method_9_code 1 none : Cond) ∈ gG := gG1 171 rfl rfl
theorem w_172 : (Cond.methodLink "TapeCounter$Tape" 26 ⟨"java/lang/System", "arraycopy", "(Ljava/lang/Object;ILjava/lang/Object;II)V"⟩ : Cond) ∈ gG := gG1 172 rfl rfl
theorem w_173 : (Cond.static ⟨"java/lang/System", "arraycopy", "(Ljava/lang/Object;ILjava/lang/Object;II)V"⟩ : Cond) ∈ gG := gG1 173 rfl rfl
theorem w_174 : (Cond.native ⟨"java/lang/System", "arraycopy", "(Ljava/lang/Object;ILjava/lang/Object;II)V"⟩ : Cond) ∈ gG := gG1 174 rfl rfl
theorem w_175 : (Cond.methodLink "TapeCounterLaw" 43 ⟨"TapeCounter", "spent", "()I"⟩ : Cond) ∈ gG := gG1 175 rfl rfl
theorem w_176 : (Cond.instanceMethod ⟨"TapeCounter", "spent", "()I"⟩ : Cond) ∈ gG := gG1 176 rfl rfl
theorem w_177 : (Cond.selects "TapeCounter" ⟨"TapeCounter", "spent", "()I"⟩ ⟨"TapeCounter", "spent", "()I"⟩ : Cond) ∈ gG := gG1 177 rfl rfl
theorem w_178 : (Cond.code ⟨"TapeCounter", "spent", "()I"⟩ prog_1_method_8_code 1 (some .int) : Cond) ∈ gG := gG1 178 rfl rfl
theorem w_179 : (Cond.methodLink "TapeCounterLaw" 47 ⟨"TapeCounter", "count", "(IIIII)I"⟩ : Cond) ∈ gG := gG1 179 rfl rfl
theorem w_180 : (Cond.instanceMethod ⟨"TapeCounter", "count", "(IIIII)I"⟩ : Cond) ∈ gG := gG1 180 rfl rfl
theorem w_181 : (Cond.selects "TapeCounter" ⟨"TapeCounter", "count", "(IIIII)I"⟩ ⟨"TapeCounter", "count", "(IIIII)I"⟩ : Cond) ∈ gG := gG1 181 rfl rfl
theorem w_182 : (Cond.code ⟨"TapeCounter", "count", "(IIIII)I"⟩ prog_1_method_9_code 6 (some .int) : Cond) ∈ gG := gG1 182 rfl rfl
theorem w_183 : (Cond.methodLink "TapeCounter" 70 ⟨"TapeCounter", "isCountable", "(IIII)Z"⟩ : Cond) ∈ gG := gG1 183 rfl rfl
theorem w_185 : (Cond.instanceMethod ⟨"TapeCounter", "isCountable", "(IIII)Z"⟩ : Cond) ∈ gG := gG1 185 rfl rfl
theorem w_186 : (Cond.code ⟨"TapeCounter", "isCountable", "(IIII)Z"⟩ prog_1_method_14_code 5 (some .boolean) : Cond) ∈ gG := gG1 186 rfl rfl
theorem w_187 : (Cond.methodLink "TapeCounter" 74 ⟨"TapeCounter", "tryAllTapes", "(IIIII)V"⟩ : Cond) ∈ gG := gG1 187 rfl rfl
theorem w_189 : (Cond.instanceMethod ⟨"TapeCounter", "tryAllTapes", "(IIIII)V"⟩ : Cond) ∈ gG := gG1 189 rfl rfl
theorem w_190 : (Cond.code ⟨"TapeCounter", "tryAllTapes", "(IIIII)V"⟩ prog_1_method_16_code 10 none : Cond) ∈ gG := gG1 190 rfl rfl
theorem w_191 : (Cond.methodLink "TapeCounter" 90 ⟨"TapeCounter$Tally", "clear", "()V"⟩ : Cond) ∈ gG := gG1 191 rfl rfl
theorem w_192 : (Cond.instanceMethod ⟨"TapeCounter$Tally", "clear", "()V"⟩ : Cond) ∈ gG := gG1 192 rfl rfl
theorem w_193 : (Cond.selects "TapeCounter$Tally" ⟨"TapeCounter$Tally", "clear", "()V"⟩ ⟨"TapeCounter$Tally", "clear", "()V"⟩ : Cond) ∈ gG := gG1 193 rfl rfl
theorem w_194 : (Cond.code ⟨"TapeCounter$Tally", "clear", "()V"⟩ prog_2_method_2_code 1 none : Cond) ∈ gG := gG1 194 rfl rfl
theorem w_195 : (Cond.methodLink "TapeCounter" 93 ⟨"TapeCounter$Tape", "clear", "()V"⟩ : Cond) ∈ gG := gG1 195 rfl rfl
theorem w_196 : (Cond.instanceMethod ⟨"TapeCounter$Tape", "clear", "()V"⟩ : Cond) ∈ gG := gG1 196 rfl rfl
theorem w_197 : (Cond.selects "TapeCounter$Tape" ⟨"TapeCounter$Tape", "clear", "()V"⟩ ⟨"TapeCounter$Tape", "clear", "()V"⟩ : Cond) ∈ gG := gG1 197 rfl rfl
theorem w_198 : (Cond.code ⟨"TapeCounter$Tape", "clear", "()V"⟩ prog_3_method_4_code 1 none : Cond) ∈ gG := gG1 198 rfl rfl
theorem w_199 : (Cond.methodLink "TapeCounter" 94 ⟨"TapeCounter$Tally", "add", "(IIII)V"⟩ : Cond) ∈ gG := gG1 199 rfl rfl
theorem w_200 : (Cond.instanceMethod ⟨"TapeCounter$Tally", "add", "(IIII)V"⟩ : Cond) ∈ gG := gG1 200 rfl rfl
theorem w_201 : (Cond.selects "TapeCounter$Tally" ⟨"TapeCounter$Tally", "add", "(IIII)V"⟩ ⟨"TapeCounter$Tally", "add", "(IIII)V"⟩ : Cond) ∈ gG := gG1 201 rfl rfl
theorem w_202 : (Cond.code ⟨"TapeCounter$Tally", "add", "(IIII)V"⟩ prog_2_method_3_code 5 none : Cond) ∈ gG := gG1 202 rfl rfl
theorem w_203 : (Cond.methodLink "TapeCounter$Tally" 24 ⟨"java/lang/Math", "min", "(II)I"⟩ : Cond) ∈ gG := gG1 203 rfl rfl
theorem w_204 : (Cond.static ⟨"java/lang/Math", "min", "(II)I"⟩ : Cond) ∈ gG := gG1 204 rfl rfl
theorem w_205 : (Cond.code ⟨"java/lang/Math", "min", "(II)I"⟩ prog_6_method_69_code 2 (some .int) : Cond) ∈ gG := gG1 205 rfl rfl
theorem w_206 : (Cond.methodLink "TapeCounterLaw" 52 ⟨"TapeCounter", "fails", "(IIII)I"⟩ : Cond) ∈ gG := gG1 206 rfl rfl
theorem w_207 : (Cond.instanceMethod ⟨"TapeCounter", "fails", "(IIII)I"⟩ : Cond) ∈ gG := gG1 207 rfl rfl
theorem w_208 : (Cond.selects "TapeCounter" ⟨"TapeCounter", "fails", "(IIII)I"⟩ ⟨"TapeCounter", "fails", "(IIII)I"⟩ : Cond) ∈ gG := gG1 208 rfl rfl
theorem w_209 : (Cond.code ⟨"TapeCounter", "fails", "(IIII)I"⟩ prog_1_method_10_code 5 (some .int) : Cond) ∈ gG := gG1 209 rfl rfl
theorem w_210 : (Cond.methodLink "TapeCounterLaw" 57 ⟨"TapeCounter", "work", "(IIII)I"⟩ : Cond) ∈ gG := gG1 210 rfl rfl
theorem w_211 : (Cond.instanceMethod ⟨"TapeCounter", "work", "(IIII)I"⟩ : Cond) ∈ gG := gG1 211 rfl rfl
theorem w_212 : (Cond.selects "TapeCounter" ⟨"TapeCounter", "work", "(IIII)I"⟩ ⟨"TapeCounter", "work", "(IIII)I"⟩ : Cond) ∈ gG := gG1 212 rfl rfl
theorem w_213 : (Cond.code ⟨"TapeCounter", "work", "(IIII)I"⟩ prog_1_method_11_code 5 (some .int) : Cond) ∈ gG := gG1 213 rfl rfl
theorem w_214 : (Cond.methodLink "TapeCounterLaw" 61 ⟨"TapeCounter", "first", "(IIII)I"⟩ : Cond) ∈ gG := gG1 214 rfl rfl
theorem w_215 : (Cond.instanceMethod ⟨"TapeCounter", "first", "(IIII)I"⟩ : Cond) ∈ gG := gG1 215 rfl rfl
theorem w_216 : (Cond.selects "TapeCounter" ⟨"TapeCounter", "first", "(IIII)I"⟩ ⟨"TapeCounter", "first", "(IIII)I"⟩ : Cond) ∈ gG := gG1 216 rfl rfl
theorem w_217 : (Cond.code ⟨"TapeCounter", "first", "(IIII)I"⟩ prog_1_method_12_code 5 (some .int) : Cond) ∈ gG := gG1 217 rfl rfl
theorem w_218 : (Cond.classLink "TapeCounterLaw" 10 "TapeCounterModel" : Cond) ∈ gG := gG1 218 rfl rfl
theorem w_219 : (Cond.instantiable "TapeCounterModel" 12 : Cond) ∈ gG := gG1 219 rfl rfl
theorem w_220 : (Cond.methodLink "TapeCounterLaw" 12 ⟨"TapeCounterModel", "<init>", "()V"⟩ : Cond) ∈ gG := gG1 220 rfl rfl
theorem w_221 : (Cond.instanceMethod ⟨"TapeCounterModel", "<init>", "()V"⟩ : Cond) ∈ gG := gG1 221 rfl rfl
theorem w_222 : (Cond.code ⟨"TapeCounterModel", "<init>", "()V"⟩ prog_5_method_1_code 2 none : Cond) ∈ gG := gG1 222 rfl rfl
theorem w_223 : (Cond.methodLink "TapeCounterModel" 1 ⟨"java/lang/Object", "<init>", "()V"⟩ : Cond) ∈ gG := gG1 223 rfl rfl
theorem w_224 : (Cond.fieldLink "TapeCounterModel" 7 "TapeCounterModel" "weights" "[I" : Cond) ∈ gG := gG1 224 rfl rfl
theorem w_225 : (Cond.fieldLink "TapeCounterModel" 13 "TapeCounterModel" "tape" "[I" : Cond) ∈ gG := gG1 225 rfl rfl
theorem w_226 : (Cond.fieldLink "TapeCounterModel" 22 "TapeCounterModel" "length" "I" : Cond) ∈ gG := gG1 226 rfl rfl
theorem w_227 : (Cond.fieldLink "TapeCounterModel" 71 "TapeCounterModel" "spent" "I" : Cond) ∈ gG := gG1 227 rfl rfl
theorem w_228 : (Cond.fieldLink "TapeCounterModel" 16 "TapeCounterModel" "bits" "[I" : Cond) ∈ gG := gG1 228 rfl rfl
theorem w_229 : (Cond.fieldLink "TapeCounterModel" 33 "TapeCounterModel" "many" "I" : Cond) ∈ gG := gG1 229 rfl rfl
theorem w_230 : (Cond.fieldLink "TapeCounterModel" 30 "TapeCounterModel" "at" "I" : Cond) ∈ gG := gG1 230 rfl rfl
theorem w_231 : (Cond.fieldLink "TapeCounterModel" 36 "TapeCounterModel" "isOut" "Z" : Cond) ∈ gG := gG1 231 rfl rfl
theorem w_232 : (Cond.fieldLink "TapeCounterModel" 19 "TapeCounterModel" "row" "[I" : Cond) ∈ gG := gG1 232 rfl rfl
theorem w_233 : (Cond.fieldLink "TapeCounterModel" 74 "TapeCounterModel" "values" "I" : Cond) ∈ gG := gG1 233 rfl rfl
theorem w_234 : (Cond.fieldLink "TapeCounterModel" 77 "TapeCounterModel" "failures" "I" : Cond) ∈ gG := gG1 234 rfl rfl
theorem w_235 : (Cond.fieldLink "TapeCounterModel" 80 "TapeCounterModel" "works" "I" : Cond) ∈ gG := gG1 235 rfl rfl
theorem w_236 : (Cond.laysFinal "TapeCounterModel" "TapeCounterModel" "weights" "[I" : Cond) ∈ gG := gG1 236 rfl rfl
theorem w_238 : (Cond.laysFinal "TapeCounterModel" "TapeCounterModel" "tape" "[I" : Cond) ∈ gG := gG1 238 rfl rfl
theorem w_240 : (Cond.lays "TapeCounterModel" "TapeCounterModel" "length" "I" : Cond) ∈ gG := gG2 0 rfl rfl
theorem w_242 : (Cond.lays "TapeCounterModel" "TapeCounterModel" "spent" "I" : Cond) ∈ gG := gG2 2 rfl rfl
theorem w_244 : (Cond.laysFinal "TapeCounterModel" "TapeCounterModel" "bits" "[I" : Cond) ∈ gG := gG2 4 rfl rfl
theorem w_246 : (Cond.lays "TapeCounterModel" "TapeCounterModel" "many" "I" : Cond) ∈ gG := gG2 6 rfl rfl
theorem w_248 : (Cond.lays "TapeCounterModel" "TapeCounterModel" "at" "I" : Cond) ∈ gG := gG2 8 rfl rfl
theorem w_250 : (Cond.lays "TapeCounterModel" "TapeCounterModel" "isOut" "Z" : Cond) ∈ gG := gG2 10 rfl rfl
theorem w_252 : (Cond.laysFinal "TapeCounterModel" "TapeCounterModel" "row" "[I" : Cond) ∈ gG := gG2 12 rfl rfl
theorem w_254 : (Cond.lays "TapeCounterModel" "TapeCounterModel" "values" "I" : Cond) ∈ gG := gG2 14 rfl rfl
theorem w_256 : (Cond.lays "TapeCounterModel" "TapeCounterModel" "failures" "I" : Cond) ∈ gG := gG2 16 rfl rfl
theorem w_258 : (Cond.lays "TapeCounterModel" "TapeCounterModel" "works" "I" : Cond) ∈ gG := gG2 18 rfl rfl
theorem w_261 : (Cond.methodLink "TapeCounterLaw" 17 ⟨"TapeCounterModel", "weigh", "(II)Z"⟩ : Cond) ∈ gG := gG2 21 rfl rfl
theorem w_262 : (Cond.instanceMethod ⟨"TapeCounterModel", "weigh", "(II)Z"⟩ : Cond) ∈ gG := gG2 22 rfl rfl
theorem w_263 : (Cond.selects "TapeCounterModel" ⟨"TapeCounterModel", "weigh", "(II)Z"⟩ ⟨"TapeCounterModel", "weigh", "(II)Z"⟩ : Cond) ∈ gG := gG2 23 rfl rfl
theorem w_264 : (Cond.code ⟨"TapeCounterModel", "weigh", "(II)Z"⟩ prog_5_method_3_code 3 (some .boolean) : Cond) ∈ gG := gG2 24 rfl rfl
theorem w_265 : (Cond.methodLink "TapeCounterLaw" 22 ⟨"TapeCounterModel", "weight", "(I)I"⟩ : Cond) ∈ gG := gG2 25 rfl rfl
theorem w_266 : (Cond.instanceMethod ⟨"TapeCounterModel", "weight", "(I)I"⟩ : Cond) ∈ gG := gG2 26 rfl rfl
theorem w_267 : (Cond.selects "TapeCounterModel" ⟨"TapeCounterModel", "weight", "(I)I"⟩ ⟨"TapeCounterModel", "weight", "(I)I"⟩ : Cond) ∈ gG := gG2 27 rfl rfl
theorem w_268 : (Cond.code ⟨"TapeCounterModel", "weight", "(I)I"⟩ prog_5_method_4_code 2 (some .int) : Cond) ∈ gG := gG2 28 rfl rfl
theorem w_269 : (Cond.methodLink "TapeCounterLaw" 27 ⟨"TapeCounterModel", "feed", "(II)I"⟩ : Cond) ∈ gG := gG2 29 rfl rfl
theorem w_270 : (Cond.instanceMethod ⟨"TapeCounterModel", "feed", "(II)I"⟩ : Cond) ∈ gG := gG2 30 rfl rfl
theorem w_271 : (Cond.selects "TapeCounterModel" ⟨"TapeCounterModel", "feed", "(II)I"⟩ ⟨"TapeCounterModel", "feed", "(II)I"⟩ : Cond) ∈ gG := gG2 31 rfl rfl
theorem w_272 : (Cond.code ⟨"TapeCounterModel", "feed", "(II)I"⟩ prog_5_method_5_code 4 (some .int) : Cond) ∈ gG := gG2 32 rfl rfl
theorem w_273 : (Cond.methodLink "TapeCounterLaw" 32 ⟨"TapeCounterModel", "left", "()I"⟩ : Cond) ∈ gG := gG2 33 rfl rfl
theorem w_274 : (Cond.instanceMethod ⟨"TapeCounterModel", "left", "()I"⟩ : Cond) ∈ gG := gG2 34 rfl rfl
theorem w_275 : (Cond.selects "TapeCounterModel" ⟨"TapeCounterModel", "left", "()I"⟩ ⟨"TapeCounterModel", "left", "()I"⟩ : Cond) ∈ gG := gG2 35 rfl rfl
theorem w_276 : (Cond.code ⟨"TapeCounterModel", "left", "()I"⟩ prog_5_method_6_code 1 (some .int) : Cond) ∈ gG := gG2 36 rfl rfl
theorem w_277 : (Cond.methodLink "TapeCounterLaw" 37 ⟨"TapeCounterModel", "isOne", "(III)Z"⟩ : Cond) ∈ gG := gG2 37 rfl rfl
theorem w_278 : (Cond.instanceMethod ⟨"TapeCounterModel", "isOne", "(III)Z"⟩ : Cond) ∈ gG := gG2 38 rfl rfl
theorem w_279 : (Cond.selects "TapeCounterModel" ⟨"TapeCounterModel", "isOne", "(III)Z"⟩ ⟨"TapeCounterModel", "isOne", "(III)Z"⟩ : Cond) ∈ gG := gG2 39 rfl rfl
theorem w_280 : (Cond.code ⟨"TapeCounterModel", "isOne", "(III)Z"⟩ prog_5_method_8_code 4 (some .boolean) : Cond) ∈ gG := gG2 40 rfl rfl
theorem w_281 : (Cond.methodLink "TapeCounterModel" 26 ⟨"TapeCounterModel", "sum", "()I"⟩ : Cond) ∈ gG := gG2 41 rfl rfl
theorem w_283 : (Cond.instanceMethod ⟨"TapeCounterModel", "sum", "()I"⟩ : Cond) ∈ gG := gG2 43 rfl rfl
theorem w_284 : (Cond.code ⟨"TapeCounterModel", "sum", "()I"⟩ prog_5_method_7_code 3 (some .int) : Cond) ∈ gG := gG2 44 rfl rfl
theorem w_285 : (Cond.methodLink "TapeCounterLaw" 42 ⟨"TapeCounterModel", "draw", "(III)I"⟩ : Cond) ∈ gG := gG2 45 rfl rfl
theorem w_286 : (Cond.instanceMethod ⟨"TapeCounterModel", "draw", "(III)I"⟩ : Cond) ∈ gG := gG2 46 rfl rfl
theorem w_287 : (Cond.selects "TapeCounterModel" ⟨"TapeCounterModel", "draw", "(III)I"⟩ ⟨"TapeCounterModel", "draw", "(III)I"⟩ : Cond) ∈ gG := gG2 47 rfl rfl
theorem w_288 : (Cond.code ⟨"TapeCounterModel", "draw", "(III)I"⟩ prog_5_method_17_code 6 (some .int) : Cond) ∈ gG := gG2 48 rfl rfl
theorem w_289 : (Cond.methodLink "TapeCounterModel" 63 ⟨"TapeCounterModel", "isOne", "(III)Z"⟩ : Cond) ∈ gG := gG2 49 rfl rfl
theorem w_290 : (Cond.methodLink "TapeCounterModel" 67 ⟨"TapeCounterModel", "run", "(III)I"⟩ : Cond) ∈ gG := gG2 50 rfl rfl
theorem w_292 : (Cond.instanceMethod ⟨"TapeCounterModel", "run", "(III)I"⟩ : Cond) ∈ gG := gG2 52 rfl rfl
theorem w_293 : (Cond.code ⟨"TapeCounterModel", "run", "(III)I"⟩ prog_5_method_16_code 6 (some .int) : Cond) ∈ gG := gG2 53 rfl rfl
theorem w_294 : (Cond.methodLink "TapeCounterModel" 43 ⟨"TapeCounterModel", "plain", "(I)I"⟩ : Cond) ∈ gG := gG2 54 rfl rfl
theorem w_296 : (Cond.instanceMethod ⟨"TapeCounterModel", "plain", "(I)I"⟩ : Cond) ∈ gG := gG2 56 rfl rfl
theorem w_297 : (Cond.code ⟨"TapeCounterModel", "plain", "(I)I"⟩ prog_5_method_10_code 4 (some .int) : Cond) ∈ gG := gG2 57 rfl rfl
theorem w_298 : (Cond.methodLink "TapeCounterModel" 40 ⟨"TapeCounterModel", "bit", "()I"⟩ : Cond) ∈ gG := gG2 58 rfl rfl
theorem w_300 : (Cond.instanceMethod ⟨"TapeCounterModel", "bit", "()I"⟩ : Cond) ∈ gG := gG2 60 rfl rfl
theorem w_301 : (Cond.code ⟨"TapeCounterModel", "bit", "()I"⟩ prog_5_method_9_code 1 (some .int) : Cond) ∈ gG := gG2 61 rfl rfl
theorem w_302 : (Cond.methodLink "TapeCounterModel" 51 ⟨"TapeCounterModel", "thrifty", "(I)I"⟩ : Cond) ∈ gG := gG2 62 rfl rfl
theorem w_304 : (Cond.instanceMethod ⟨"TapeCounterModel", "thrifty", "(I)I"⟩ : Cond) ∈ gG := gG2 64 rfl rfl
theorem w_305 : (Cond.code ⟨"TapeCounterModel", "thrifty", "(I)I"⟩ prog_5_method_11_code 4 (some .int) : Cond) ∈ gG := gG2 65 rfl rfl
theorem w_306 : (Cond.methodLink "TapeCounterModel" 47 ⟨"TapeCounterModel", "coin", "(II)I"⟩ : Cond) ∈ gG := gG2 66 rfl rfl
theorem w_308 : (Cond.instanceMethod ⟨"TapeCounterModel", "coin", "(II)I"⟩ : Cond) ∈ gG := gG2 68 rfl rfl
theorem w_309 : (Cond.code ⟨"TapeCounterModel", "coin", "(II)I"⟩ prog_5_method_12_code 6 (some .int) : Cond) ∈ gG := gG2 69 rfl rfl
theorem w_310 : (Cond.methodLink "TapeCounterModel" 54 ⟨"TapeCounterModel", "order", "(I)I"⟩ : Cond) ∈ gG := gG2 70 rfl rfl
theorem w_312 : (Cond.instanceMethod ⟨"TapeCounterModel", "order", "(I)I"⟩ : Cond) ∈ gG := gG2 72 rfl rfl
theorem w_313 : (Cond.code ⟨"TapeCounterModel", "order", "(I)I"⟩ prog_5_method_13_code 7 (some .int) : Cond) ∈ gG := gG2 73 rfl rfl
theorem w_314 : (Cond.methodLink "TapeCounterModel" 57 ⟨"TapeCounterModel", "choice", "(II)I"⟩ : Cond) ∈ gG := gG2 74 rfl rfl
theorem w_316 : (Cond.instanceMethod ⟨"TapeCounterModel", "choice", "(II)I"⟩ : Cond) ∈ gG := gG2 76 rfl rfl
theorem w_317 : (Cond.code ⟨"TapeCounterModel", "choice", "(II)I"⟩ prog_5_method_14_code 6 (some .int) : Cond) ∈ gG := gG2 77 rfl rfl
theorem w_318 : (Cond.methodLink "TapeCounterModel" 60 ⟨"TapeCounterModel", "share", "()I"⟩ : Cond) ∈ gG := gG2 78 rfl rfl
theorem w_320 : (Cond.instanceMethod ⟨"TapeCounterModel", "share", "()I"⟩ : Cond) ∈ gG := gG2 80 rfl rfl
theorem w_321 : (Cond.code ⟨"TapeCounterModel", "share", "()I"⟩ prog_5_method_15_code 4 (some .int) : Cond) ∈ gG := gG2 81 rfl rfl
theorem w_322 : (Cond.methodLink "TapeCounterLaw" 46 ⟨"TapeCounterModel", "spent", "()I"⟩ : Cond) ∈ gG := gG2 82 rfl rfl
theorem w_323 : (Cond.instanceMethod ⟨"TapeCounterModel", "spent", "()I"⟩ : Cond) ∈ gG := gG2 83 rfl rfl
theorem w_324 : (Cond.selects "TapeCounterModel" ⟨"TapeCounterModel", "spent", "()I"⟩ ⟨"TapeCounterModel", "spent", "()I"⟩ : Cond) ∈ gG := gG2 84 rfl rfl
theorem w_325 : (Cond.code ⟨"TapeCounterModel", "spent", "()I"⟩ prog_5_method_18_code 1 (some .int) : Cond) ∈ gG := gG2 85 rfl rfl
theorem w_326 : (Cond.methodLink "TapeCounterLaw" 51 ⟨"TapeCounterModel", "count", "(IIIII)I"⟩ : Cond) ∈ gG := gG2 86 rfl rfl
theorem w_327 : (Cond.instanceMethod ⟨"TapeCounterModel", "count", "(IIIII)I"⟩ : Cond) ∈ gG := gG2 87 rfl rfl
theorem w_328 : (Cond.selects "TapeCounterModel" ⟨"TapeCounterModel", "count", "(IIIII)I"⟩ ⟨"TapeCounterModel", "count", "(IIIII)I"⟩ : Cond) ∈ gG := gG2 88 rfl rfl
theorem w_329 : (Cond.code ⟨"TapeCounterModel", "count", "(IIIII)I"⟩ prog_5_method_21_code 6 (some .int) : Cond) ∈ gG := gG2 89 rfl rfl
theorem w_330 : (Cond.methodLink "TapeCounterModel" 83 ⟨"TapeCounterModel", "isAll", "(IIII)Z"⟩ : Cond) ∈ gG := gG2 90 rfl rfl
theorem w_332 : (Cond.instanceMethod ⟨"TapeCounterModel", "isAll", "(IIII)Z"⟩ : Cond) ∈ gG := gG2 92 rfl rfl
theorem w_333 : (Cond.code ⟨"TapeCounterModel", "isAll", "(IIII)Z"⟩ prog_5_method_20_code 5 (some .boolean) : Cond) ∈ gG := gG2 93 rfl rfl
theorem w_334 : (Cond.methodLink "TapeCounterModel" 87 ⟨"TapeCounterModel", "tryAll", "(IIIII)V"⟩ : Cond) ∈ gG := gG2 94 rfl rfl
theorem w_336 : (Cond.instanceMethod ⟨"TapeCounterModel", "tryAll", "(IIIII)V"⟩ : Cond) ∈ gG := gG2 96 rfl rfl
theorem w_337 : (Cond.code ⟨"TapeCounterModel", "tryAll", "(IIIII)V"⟩ prog_5_method_19_code 8 none : Cond) ∈ gG := gG2 97 rfl rfl
theorem w_338 : (Cond.methodLink "TapeCounterLaw" 56 ⟨"TapeCounterModel", "fails", "(IIII)I"⟩ : Cond) ∈ gG := gG2 98 rfl rfl
theorem w_339 : (Cond.instanceMethod ⟨"TapeCounterModel", "fails", "(IIII)I"⟩ : Cond) ∈ gG := gG2 99 rfl rfl
theorem w_340 : (Cond.selects "TapeCounterModel" ⟨"TapeCounterModel", "fails", "(IIII)I"⟩ ⟨"TapeCounterModel", "fails", "(IIII)I"⟩ : Cond) ∈ gG := gG2 100 rfl rfl
theorem w_341 : (Cond.code ⟨"TapeCounterModel", "fails", "(IIII)I"⟩ prog_5_method_22_code 5 (some .int) : Cond) ∈ gG := gG2 101 rfl rfl
theorem w_342 : (Cond.methodLink "TapeCounterLaw" 60 ⟨"TapeCounterModel", "work", "(IIII)I"⟩ : Cond) ∈ gG := gG2 102 rfl rfl
theorem w_343 : (Cond.instanceMethod ⟨"TapeCounterModel", "work", "(IIII)I"⟩ : Cond) ∈ gG := gG2 103 rfl rfl
theorem w_344 : (Cond.selects "TapeCounterModel" ⟨"TapeCounterModel", "work", "(IIII)I"⟩ ⟨"TapeCounterModel", "work", "(IIII)I"⟩ : Cond) ∈ gG := gG2 104 rfl rfl
theorem w_345 : (Cond.code ⟨"TapeCounterModel", "work", "(IIII)I"⟩ prog_5_method_23_code 5 (some .int) : Cond) ∈ gG := gG2 105 rfl rfl
theorem w_346 : (Cond.methodLink "TapeCounterLaw" 64 ⟨"TapeCounterModel", "first", "(IIII)I"⟩ : Cond) ∈ gG := gG2 106 rfl rfl
theorem w_347 : (Cond.instanceMethod ⟨"TapeCounterModel", "first", "(IIII)I"⟩ : Cond) ∈ gG := gG2 107 rfl rfl
theorem w_348 : (Cond.selects "TapeCounterModel" ⟨"TapeCounterModel", "first", "(IIII)I"⟩ ⟨"TapeCounterModel", "first", "(IIII)I"⟩ : Cond) ∈ gG := gG2 108 rfl rfl
theorem w_349 : (Cond.code ⟨"TapeCounterModel", "first", "(IIII)I"⟩ prog_5_method_24_code 6 (some .int) : Cond) ∈ gG := gG2 109 rfl rfl
theorem ws_1_0 : (Cond.selects "TapeCounter" ⟨"TapeCounter", "weightSum", "()I"⟩ ⟨"TapeCounter", "weightSum", "()I"⟩ : Cond) ∈ gG := gGs (q := (⟨"TapeCounter", "weightSum", "()I"⟩, 6)) (lw_r1_in 0 rfl) rfl
theorem ws_1_1 : (Cond.selects "TapeCounter" ⟨"TapeCounter", "sample", "(LTapeCounter$Tape;III)I"⟩ ⟨"TapeCounter", "sample", "(LTapeCounter$Tape;III)I"⟩ : Cond) ∈ gG := gGs (q := (⟨"TapeCounter", "sample", "(LTapeCounter$Tape;III)I"⟩, 6)) (lw_r1_in 1 rfl) rfl
theorem ws_1_2 : (Cond.selects "TapeCounter" ⟨"TapeCounter", "order", "(LTapeCounter$Tape;I)I"⟩ ⟨"TapeCounter", "order", "(LTapeCounter$Tape;I)I"⟩ : Cond) ∈ gG := gGs (q := (⟨"TapeCounter", "order", "(LTapeCounter$Tape;I)I"⟩, 6)) (lw_r1_in 2 rfl) rfl
theorem ws_1_3 : (Cond.selects "TapeCounter" ⟨"TapeCounter", "ordersBeforeRow", "(I)I"⟩ ⟨"TapeCounter", "ordersBeforeRow", "(I)I"⟩ : Cond) ∈ gG := gGs (q := (⟨"TapeCounter", "ordersBeforeRow", "(I)I"⟩, 6)) (lw_r1_in 3 rfl) rfl
theorem ws_1_4 : (Cond.selects "TapeCounter" ⟨"TapeCounter", "share", "(LTapeCounter$Tape;)I"⟩ ⟨"TapeCounter", "share", "(LTapeCounter$Tape;)I"⟩ : Cond) ∈ gG := gGs (q := (⟨"TapeCounter", "share", "(LTapeCounter$Tape;)I"⟩, 6)) (lw_r1_in 4 rfl) rfl
theorem ws_1_5 : (Cond.selects "TapeCounter" ⟨"TapeCounter", "isCountable", "(IIII)Z"⟩ ⟨"TapeCounter", "isCountable", "(IIII)Z"⟩ : Cond) ∈ gG := gGs (q := (⟨"TapeCounter", "isCountable", "(IIII)Z"⟩, 6)) (lw_r1_in 5 rfl) rfl
theorem ws_1_6 : (Cond.selects "TapeCounter" ⟨"TapeCounter", "tryAllTapes", "(IIIII)V"⟩ ⟨"TapeCounter", "tryAllTapes", "(IIIII)V"⟩ : Cond) ∈ gG := gGs (q := (⟨"TapeCounter", "tryAllTapes", "(IIIII)V"⟩, 6)) (lw_r1_in 6 rfl) rfl
theorem ws_1_7 : (Cond.selects "TapeCounterModel" ⟨"TapeCounterModel", "sum", "()I"⟩ ⟨"TapeCounterModel", "sum", "()I"⟩ : Cond) ∈ gG := gGs (q := (⟨"TapeCounterModel", "sum", "()I"⟩, 12)) (lw_r1_in 7 rfl) rfl
theorem ws_1_8 : (Cond.selects "TapeCounterModel" ⟨"TapeCounterModel", "run", "(III)I"⟩ ⟨"TapeCounterModel", "run", "(III)I"⟩ : Cond) ∈ gG := gGs (q := (⟨"TapeCounterModel", "run", "(III)I"⟩, 12)) (lw_r1_in 8 rfl) rfl
theorem ws_1_9 : (Cond.selects "TapeCounterModel" ⟨"TapeCounterModel", "plain", "(I)I"⟩ ⟨"TapeCounterModel", "plain", "(I)I"⟩ : Cond) ∈ gG := gGs (q := (⟨"TapeCounterModel", "plain", "(I)I"⟩, 12)) (lw_r1_in 9 rfl) rfl
theorem ws_1_10 : (Cond.selects "TapeCounterModel" ⟨"TapeCounterModel", "bit", "()I"⟩ ⟨"TapeCounterModel", "bit", "()I"⟩ : Cond) ∈ gG := gGs (q := (⟨"TapeCounterModel", "bit", "()I"⟩, 12)) (lw_r1_in 10 rfl) rfl
theorem ws_1_11 : (Cond.selects "TapeCounterModel" ⟨"TapeCounterModel", "thrifty", "(I)I"⟩ ⟨"TapeCounterModel", "thrifty", "(I)I"⟩ : Cond) ∈ gG := gGs (q := (⟨"TapeCounterModel", "thrifty", "(I)I"⟩, 12)) (lw_r1_in 11 rfl) rfl
theorem ws_1_12 : (Cond.selects "TapeCounterModel" ⟨"TapeCounterModel", "coin", "(II)I"⟩ ⟨"TapeCounterModel", "coin", "(II)I"⟩ : Cond) ∈ gG := gGs (q := (⟨"TapeCounterModel", "coin", "(II)I"⟩, 12)) (lw_r1_in 12 rfl) rfl
theorem ws_1_13 : (Cond.selects "TapeCounterModel" ⟨"TapeCounterModel", "order", "(I)I"⟩ ⟨"TapeCounterModel", "order", "(I)I"⟩ : Cond) ∈ gG := gGs (q := (⟨"TapeCounterModel", "order", "(I)I"⟩, 12)) (lw_r1_in 13 rfl) rfl
theorem ws_1_14 : (Cond.selects "TapeCounterModel" ⟨"TapeCounterModel", "choice", "(II)I"⟩ ⟨"TapeCounterModel", "choice", "(II)I"⟩ : Cond) ∈ gG := gGs (q := (⟨"TapeCounterModel", "choice", "(II)I"⟩, 12)) (lw_r1_in 14 rfl) rfl
theorem ws_1_15 : (Cond.selects "TapeCounterModel" ⟨"TapeCounterModel", "share", "()I"⟩ ⟨"TapeCounterModel", "share", "()I"⟩ : Cond) ∈ gG := gGs (q := (⟨"TapeCounterModel", "share", "()I"⟩, 12)) (lw_r1_in 15 rfl) rfl
theorem ws_2_0 : (Cond.selects "TapeCounterModel" ⟨"TapeCounterModel", "isAll", "(IIII)Z"⟩ ⟨"TapeCounterModel", "isAll", "(IIII)Z"⟩ : Cond) ∈ gG := gGs (q := (⟨"TapeCounterModel", "isAll", "(IIII)Z"⟩, 12)) (lw_r2_in 0 rfl) rfl
theorem ws_2_1 : (Cond.selects "TapeCounterModel" ⟨"TapeCounterModel", "tryAll", "(IIIII)V"⟩ ⟨"TapeCounterModel", "tryAll", "(IIIII)V"⟩ : Cond) ∈ gG := gGs (q := (⟨"TapeCounterModel", "tryAll", "(IIIII)V"⟩, 12)) (lw_r2_in 1 rfl) rfl
def gN : List Cond := [Cond.methodLinkNest "TapeCounter" 30 ⟨"TapeCounter$Tally", "<init>", "()V"⟩ "TapeCounter", Cond.fieldLinkNest "TapeCounter" 78 "TapeCounter$Tally" "hits" "I" "TapeCounter", Cond.fieldLinkNest "TapeCounter" 81 "TapeCounter$Tally" "runOuts" "I" "TapeCounter", Cond.fieldLinkNest "TapeCounter" 84 "TapeCounter$Tally" "bitsRead" "I" "TapeCounter", Cond.fieldLinkNest "TapeCounter" 87 "TapeCounter$Tally" "fewestBits" "I" "TapeCounter"]
theorem gN_0 : (Cond.methodLinkNest "TapeCounter" 30 ⟨"TapeCounter$Tally", "<init>", "()V"⟩ "TapeCounter" : Cond) ∈ gN := List.mem_of_getElem? (i := 0) rfl
theorem gN_1 : (Cond.fieldLinkNest "TapeCounter" 78 "TapeCounter$Tally" "hits" "I" "TapeCounter" : Cond) ∈ gN := List.mem_of_getElem? (i := 1) rfl
theorem gN_2 : (Cond.fieldLinkNest "TapeCounter" 81 "TapeCounter$Tally" "runOuts" "I" "TapeCounter" : Cond) ∈ gN := List.mem_of_getElem? (i := 2) rfl
theorem gN_3 : (Cond.fieldLinkNest "TapeCounter" 84 "TapeCounter$Tally" "bitsRead" "I" "TapeCounter" : Cond) ∈ gN := List.mem_of_getElem? (i := 3) rfl
theorem gN_4 : (Cond.fieldLinkNest "TapeCounter" 87 "TapeCounter$Tally" "fewestBits" "I" "TapeCounter" : Cond) ∈ gN := List.mem_of_getElem? (i := 4) rfl
def gNest (U : State) : Prop := ∀ w ∈ gN, va_Nw w U
theorem gNest.warm {s U : State} (hW : s.WarmedH U.vm) (h : gNest s) : gNest U := by
  intro w hw
  have h1 := h w hw
  simp only [gN, List.mem_cons, List.not_mem_nil, or_false] at hw
  rcases hw with rfl | rfl | rfl | rfl | rfl
  · exact va_Nw.warmM hW h1
  · exact va_Nw.warmF hW h1
  · exact va_Nw.warmF hW h1
  · exact va_Nw.warmF hW h1
  · exact va_Nw.warmF hW h1
theorem gNest.same {u U : State} (e : u.vm = U.vm) (h : gNest u) : gNest U := by
  intro w hw
  have h1 := h w hw
  simp only [gN, List.mem_cons, List.not_mem_nil, or_false] at hw
  rcases hw with rfl | rfl | rfl | rfl | rfl <;> exact va_Nw.same rfl e h1
theorem gN_tab : ∀ w ∈ gN, w ∈ tables_1 := by
  intro w hw
  simp only [gN, List.mem_cons, List.not_mem_nil, or_false] at hw
  rcases hw with rfl | rfl | rfl | rfl | rfl
  · exact w_34
  · exact w_39
  · exact w_41
  · exact w_43
  · exact w_45
def TfY : u_T := fun k => match k with
  | 0 => ("TapeCounter$Tally", "hits", "I", false)
  | 1 => ("TapeCounter$Tally", "runOuts", "I", false)
  | 2 => ("TapeCounter$Tally", "bitsRead", "I", false)
  | _ => ("TapeCounter$Tally", "fewestBits", "I", false)
def TyY : Nat → FieldType := fun k => match k with
  | 0 => .int
  | 1 => .int
  | 2 => .int
  | _ => .int
theorem nmY : ∀ a, a < 4 → ∀ b, b < 4 → a ≠ b → (TfY a).2.1 ≠ (TfY b).2.1 := by decide +kernel
theorem tyY : ∀ k, k < 4 → parseFieldDescriptor (TfY k).2.2.1 = some (TyY k) := by decide +kernel
theorem inY : ∀ w ∈ u_ws "TapeCounter$Tally" TfY 4, w ∈ gG := (List.forall_mem_cons.mpr ⟨w_46, List.forall_mem_cons.mpr ⟨w_48, List.forall_mem_cons.mpr ⟨w_50, List.forall_mem_cons.mpr ⟨w_52, fun _ h => absurd h List.not_mem_nil⟩⟩⟩⟩ : ∀ w ∈ ([(.lays "TapeCounter$Tally" "TapeCounter$Tally" "hits" "I"), (.lays "TapeCounter$Tally" "TapeCounter$Tally" "runOuts" "I"), (.lays "TapeCounter$Tally" "TapeCounter$Tally" "bitsRead" "I"), (.lays "TapeCounter$Tally" "TapeCounter$Tally" "fewestBits" "I")] : List Cond), w ∈ gG)
def TfT : u_T := fun k => match k with
  | 0 => ("TapeCounter$Tape", "bits", "[I", true)
  | 1 => ("TapeCounter$Tape", "size", "I", false)
  | _ => ("TapeCounter$Tape", "at", "I", false)
def TyT : Nat → FieldType := fun k => match k with
  | 0 => .array .int
  | 1 => .int
  | _ => .int
theorem nmT : ∀ a, a < 3 → ∀ b, b < 3 → a ≠ b → (TfT a).2.1 ≠ (TfT b).2.1 := by decide +kernel
theorem tyT : ∀ k, k < 3 → parseFieldDescriptor (TfT k).2.2.1 = some (TyT k) := by decide +kernel
theorem inT : ∀ w ∈ u_ws "TapeCounter$Tape" TfT 3, w ∈ gG := (List.forall_mem_cons.mpr ⟨w_24, List.forall_mem_cons.mpr ⟨w_26, List.forall_mem_cons.mpr ⟨w_28, fun _ h => absurd h List.not_mem_nil⟩⟩⟩ : ∀ w ∈ ([(.laysFinal "TapeCounter$Tape" "TapeCounter$Tape" "bits" "[I"), (.lays "TapeCounter$Tape" "TapeCounter$Tape" "size" "I"), (.lays "TapeCounter$Tape" "TapeCounter$Tape" "at" "I")] : List Cond), w ∈ gG)
def TfC : u_T := fun k => match k with
  | 0 => ("TapeCounter", "weights", "[I", true)
  | 1 => ("TapeCounter", "row", "[I", true)
  | 2 => ("TapeCounter", "tape", "LTapeCounter$Tape;", true)
  | 3 => ("TapeCounter", "trial", "LTapeCounter$Tape;", true)
  | 4 => ("TapeCounter", "tally", "LTapeCounter$Tally;", true)
  | _ => ("TapeCounter", "latestSpent", "I", false)
def TyC : Nat → FieldType := fun k => match k with
  | 0 => .array .int
  | 1 => .array .int
  | 2 => .object "TapeCounter$Tape"
  | 3 => .object "TapeCounter$Tape"
  | 4 => .object "TapeCounter$Tally"
  | _ => .int
theorem nmC : ∀ a, a < 6 → ∀ b, b < 6 → a ≠ b → (TfC a).2.1 ≠ (TfC b).2.1 := by decide +kernel
theorem tyC : ∀ k, k < 6 → parseFieldDescriptor (TfC k).2.2.1 = some (TyC k) := by decide +kernel
theorem inC : ∀ w ∈ u_ws "TapeCounter" TfC 6, w ∈ gG := (List.forall_mem_cons.mpr ⟨w_61, List.forall_mem_cons.mpr ⟨w_63, List.forall_mem_cons.mpr ⟨w_65, List.forall_mem_cons.mpr ⟨w_67, List.forall_mem_cons.mpr ⟨w_69, List.forall_mem_cons.mpr ⟨w_71, fun _ h => absurd h List.not_mem_nil⟩⟩⟩⟩⟩⟩ : ∀ w ∈ ([(.laysFinal "TapeCounter" "TapeCounter" "weights" "[I"), (.laysFinal "TapeCounter" "TapeCounter" "row" "[I"), (.laysFinal "TapeCounter" "TapeCounter" "tape" "LTapeCounter$Tape;"), (.laysFinal "TapeCounter" "TapeCounter" "trial" "LTapeCounter$Tape;"), (.laysFinal "TapeCounter" "TapeCounter" "tally" "LTapeCounter$Tally;"), (.lays "TapeCounter" "TapeCounter" "latestSpent" "I")] : List Cond), w ∈ gG)
def TfM : u_T := fun k => match k with
  | 0 => ("TapeCounterModel", "weights", "[I", true)
  | 1 => ("TapeCounterModel", "tape", "[I", true)
  | 2 => ("TapeCounterModel", "length", "I", false)
  | 3 => ("TapeCounterModel", "spent", "I", false)
  | 4 => ("TapeCounterModel", "bits", "[I", true)
  | 5 => ("TapeCounterModel", "many", "I", false)
  | 6 => ("TapeCounterModel", "at", "I", false)
  | 7 => ("TapeCounterModel", "isOut", "Z", false)
  | 8 => ("TapeCounterModel", "row", "[I", true)
  | 9 => ("TapeCounterModel", "values", "I", false)
  | 10 => ("TapeCounterModel", "failures", "I", false)
  | _ => ("TapeCounterModel", "works", "I", false)
def TyM : Nat → FieldType := fun k => match k with
  | 0 => .array .int
  | 1 => .array .int
  | 2 => .int
  | 3 => .int
  | 4 => .array .int
  | 5 => .int
  | 6 => .int
  | 7 => .boolean
  | 8 => .array .int
  | 9 => .int
  | 10 => .int
  | _ => .int
theorem nmM : ∀ a, a < 12 → ∀ b, b < 12 → a ≠ b → (TfM a).2.1 ≠ (TfM b).2.1 := by decide +kernel
theorem tyM : ∀ k, k < 12 → parseFieldDescriptor (TfM k).2.2.1 = some (TyM k) := by decide +kernel
theorem inM : ∀ w ∈ u_ws "TapeCounterModel" TfM 12, w ∈ gG := (List.forall_mem_cons.mpr ⟨w_236, List.forall_mem_cons.mpr ⟨w_238, List.forall_mem_cons.mpr ⟨w_240, List.forall_mem_cons.mpr ⟨w_242, List.forall_mem_cons.mpr ⟨w_244, List.forall_mem_cons.mpr ⟨w_246, List.forall_mem_cons.mpr ⟨w_248, List.forall_mem_cons.mpr ⟨w_250, List.forall_mem_cons.mpr ⟨w_252, List.forall_mem_cons.mpr ⟨w_254, List.forall_mem_cons.mpr ⟨w_256, List.forall_mem_cons.mpr ⟨w_258, fun _ h => absurd h List.not_mem_nil⟩⟩⟩⟩⟩⟩⟩⟩⟩⟩⟩⟩ : ∀ w ∈ ([(.laysFinal "TapeCounterModel" "TapeCounterModel" "weights" "[I"), (.laysFinal "TapeCounterModel" "TapeCounterModel" "tape" "[I"), (.lays "TapeCounterModel" "TapeCounterModel" "length" "I"), (.lays "TapeCounterModel" "TapeCounterModel" "spent" "I"), (.laysFinal "TapeCounterModel" "TapeCounterModel" "bits" "[I"), (.lays "TapeCounterModel" "TapeCounterModel" "many" "I"), (.lays "TapeCounterModel" "TapeCounterModel" "at" "I"), (.lays "TapeCounterModel" "TapeCounterModel" "isOut" "Z"), (.laysFinal "TapeCounterModel" "TapeCounterModel" "row" "[I"), (.lays "TapeCounterModel" "TapeCounterModel" "values" "I"), (.lays "TapeCounterModel" "TapeCounterModel" "failures" "I"), (.lays "TapeCounterModel" "TapeCounterModel" "works" "I")] : List Cond), w ∈ gG)
abbrev gCl : List vw_C := [("TapeCounter$Tally", TfY, 4), ("TapeCounter$Tape", TfT, 3), ("TapeCounter", TfC, 6), ("TapeCounterModel", TfM, 12)]
abbrev b_C_init : ByteArray := prog_1_method_1_code
abbrev y_C_init : MethodName := ⟨"TapeCounter", "<init>", "()V"⟩
abbrev b_C_weigh : ByteArray := prog_1_method_2_code
abbrev y_C_weigh : MethodName := ⟨"TapeCounter", "weigh", "(II)Z"⟩
abbrev b_C_weight : ByteArray := prog_1_method_3_code
abbrev y_C_weight : MethodName := ⟨"TapeCounter", "weight", "(I)I"⟩
abbrev b_C_feed : ByteArray := prog_1_method_4_code
abbrev y_C_feed : MethodName := ⟨"TapeCounter", "feed", "(II)I"⟩
abbrev b_C_left : ByteArray := prog_1_method_5_code
abbrev y_C_left : MethodName := ⟨"TapeCounter", "left", "()I"⟩
abbrev b_C_isOne : ByteArray := prog_1_method_6_code
abbrev y_C_isOne : MethodName := ⟨"TapeCounter", "isOne", "(III)Z"⟩
abbrev b_C_draw : ByteArray := prog_1_method_7_code
abbrev y_C_draw : MethodName := ⟨"TapeCounter", "draw", "(III)I"⟩
abbrev b_C_spent : ByteArray := prog_1_method_8_code
abbrev y_C_spent : MethodName := ⟨"TapeCounter", "spent", "()I"⟩
abbrev b_C_count : ByteArray := prog_1_method_9_code
abbrev y_C_count : MethodName := ⟨"TapeCounter", "count", "(IIIII)I"⟩
abbrev b_C_fails : ByteArray := prog_1_method_10_code
abbrev y_C_fails : MethodName := ⟨"TapeCounter", "fails", "(IIII)I"⟩
abbrev b_C_work : ByteArray := prog_1_method_11_code
abbrev y_C_work : MethodName := ⟨"TapeCounter", "work", "(IIII)I"⟩
abbrev b_C_first : ByteArray := prog_1_method_12_code
abbrev y_C_first : MethodName := ⟨"TapeCounter", "first", "(IIII)I"⟩
abbrev b_C_isWithin : ByteArray := prog_1_method_13_code
abbrev y_C_isWithin : MethodName := ⟨"TapeCounter", "isWithin", "(III)Z"⟩
abbrev b_C_isCountable : ByteArray := prog_1_method_14_code
abbrev y_C_isCountable : MethodName := ⟨"TapeCounter", "isCountable", "(IIII)Z"⟩
abbrev b_C_weightSum : ByteArray := prog_1_method_15_code
abbrev y_C_weightSum : MethodName := ⟨"TapeCounter", "weightSum", "()I"⟩
abbrev b_C_tryAllTapes : ByteArray := prog_1_method_16_code
abbrev y_C_tryAllTapes : MethodName := ⟨"TapeCounter", "tryAllTapes", "(IIIII)V"⟩
abbrev b_C_sample : ByteArray := prog_1_method_17_code
abbrev y_C_sample : MethodName := ⟨"TapeCounter", "sample", "(LTapeCounter$Tape;III)I"⟩
abbrev b_C_plain : ByteArray := prog_1_method_18_code
abbrev y_C_plain : MethodName := ⟨"TapeCounter", "plain", "(LTapeCounter$Tape;I)I"⟩
abbrev b_C_bitsFor : ByteArray := prog_1_method_19_code
abbrev y_C_bitsFor : MethodName := ⟨"TapeCounter", "bitsFor", "(I)I"⟩
abbrev b_C_thrifty : ByteArray := prog_1_method_20_code
abbrev y_C_thrifty : MethodName := ⟨"TapeCounter", "thrifty", "(LTapeCounter$Tape;I)I"⟩
abbrev b_C_coin : ByteArray := prog_1_method_21_code
abbrev y_C_coin : MethodName := ⟨"TapeCounter", "coin", "(LTapeCounter$Tape;II)I"⟩
abbrev b_C_tosses : ByteArray := prog_1_method_22_code
abbrev y_C_tosses : MethodName := ⟨"TapeCounter", "tosses", "(LTapeCounter$Tape;I)I"⟩
abbrev b_C_zerosBeforeOne : ByteArray := prog_1_method_23_code
abbrev y_C_zerosBeforeOne : MethodName := ⟨"TapeCounter", "zerosBeforeOne", "(LTapeCounter$Tape;I)I"⟩
abbrev b_C_order : ByteArray := prog_1_method_24_code
abbrev y_C_order : MethodName := ⟨"TapeCounter", "order", "(LTapeCounter$Tape;I)I"⟩
abbrev b_C_ordersBeforeRow : ByteArray := prog_1_method_25_code
abbrev y_C_ordersBeforeRow : MethodName := ⟨"TapeCounter", "ordersBeforeRow", "(I)I"⟩
abbrev b_C_choice : ByteArray := prog_1_method_26_code
abbrev y_C_choice : MethodName := ⟨"TapeCounter", "choice", "(LTapeCounter$Tape;II)I"⟩
abbrev b_C_share : ByteArray := prog_1_method_27_code
abbrev y_C_share : MethodName := ⟨"TapeCounter", "share", "(LTapeCounter$Tape;)I"⟩
abbrev b_M_init : ByteArray := prog_5_method_1_code
abbrev y_M_init : MethodName := ⟨"TapeCounterModel", "<init>", "()V"⟩
abbrev b_M_weigh : ByteArray := prog_5_method_3_code
abbrev y_M_weigh : MethodName := ⟨"TapeCounterModel", "weigh", "(II)Z"⟩
abbrev b_M_weight : ByteArray := prog_5_method_4_code
abbrev y_M_weight : MethodName := ⟨"TapeCounterModel", "weight", "(I)I"⟩
abbrev b_M_feed : ByteArray := prog_5_method_5_code
abbrev y_M_feed : MethodName := ⟨"TapeCounterModel", "feed", "(II)I"⟩
abbrev b_M_left : ByteArray := prog_5_method_6_code
abbrev y_M_left : MethodName := ⟨"TapeCounterModel", "left", "()I"⟩
abbrev b_M_sum : ByteArray := prog_5_method_7_code
abbrev y_M_sum : MethodName := ⟨"TapeCounterModel", "sum", "()I"⟩
abbrev b_M_isOne : ByteArray := prog_5_method_8_code
abbrev y_M_isOne : MethodName := ⟨"TapeCounterModel", "isOne", "(III)Z"⟩
abbrev b_M_bit : ByteArray := prog_5_method_9_code
abbrev y_M_bit : MethodName := ⟨"TapeCounterModel", "bit", "()I"⟩
abbrev b_M_plain : ByteArray := prog_5_method_10_code
abbrev y_M_plain : MethodName := ⟨"TapeCounterModel", "plain", "(I)I"⟩
abbrev b_M_thrifty : ByteArray := prog_5_method_11_code
abbrev y_M_thrifty : MethodName := ⟨"TapeCounterModel", "thrifty", "(I)I"⟩
abbrev b_M_coin : ByteArray := prog_5_method_12_code
abbrev y_M_coin : MethodName := ⟨"TapeCounterModel", "coin", "(II)I"⟩
abbrev b_M_order : ByteArray := prog_5_method_13_code
abbrev y_M_order : MethodName := ⟨"TapeCounterModel", "order", "(I)I"⟩
abbrev b_M_choice : ByteArray := prog_5_method_14_code
abbrev y_M_choice : MethodName := ⟨"TapeCounterModel", "choice", "(II)I"⟩
abbrev b_M_share : ByteArray := prog_5_method_15_code
abbrev y_M_share : MethodName := ⟨"TapeCounterModel", "share", "()I"⟩
abbrev b_M_run : ByteArray := prog_5_method_16_code
abbrev y_M_run : MethodName := ⟨"TapeCounterModel", "run", "(III)I"⟩
abbrev b_M_draw : ByteArray := prog_5_method_17_code
abbrev y_M_draw : MethodName := ⟨"TapeCounterModel", "draw", "(III)I"⟩
abbrev b_M_spent : ByteArray := prog_5_method_18_code
abbrev y_M_spent : MethodName := ⟨"TapeCounterModel", "spent", "()I"⟩
abbrev b_M_tryAll : ByteArray := prog_5_method_19_code
abbrev y_M_tryAll : MethodName := ⟨"TapeCounterModel", "tryAll", "(IIIII)V"⟩
abbrev b_M_isAll : ByteArray := prog_5_method_20_code
abbrev y_M_isAll : MethodName := ⟨"TapeCounterModel", "isAll", "(IIII)Z"⟩
abbrev b_M_count : ByteArray := prog_5_method_21_code
abbrev y_M_count : MethodName := ⟨"TapeCounterModel", "count", "(IIIII)I"⟩
abbrev b_M_fails : ByteArray := prog_5_method_22_code
abbrev y_M_fails : MethodName := ⟨"TapeCounterModel", "fails", "(IIII)I"⟩
abbrev b_M_work : ByteArray := prog_5_method_23_code
abbrev y_M_work : MethodName := ⟨"TapeCounterModel", "work", "(IIII)I"⟩
abbrev b_M_first : ByteArray := prog_5_method_24_code
abbrev y_M_first : MethodName := ⟨"TapeCounterModel", "first", "(IIII)I"⟩
abbrev b_Y_init : ByteArray := prog_2_method_1_code
abbrev y_Y_init : MethodName := ⟨"TapeCounter$Tally", "<init>", "()V"⟩
abbrev b_Y_clear : ByteArray := prog_2_method_2_code
abbrev y_Y_clear : MethodName := ⟨"TapeCounter$Tally", "clear", "()V"⟩
abbrev b_Y_add : ByteArray := prog_2_method_3_code
abbrev y_Y_add : MethodName := ⟨"TapeCounter$Tally", "add", "(IIII)V"⟩
abbrev b_T_init : ByteArray := prog_3_method_1_code
abbrev y_T_init : MethodName := ⟨"TapeCounter$Tape", "<init>", "(I)V"⟩
abbrev b_T_size : ByteArray := prog_3_method_2_code
abbrev y_T_size : MethodName := ⟨"TapeCounter$Tape", "size", "()I"⟩
abbrev b_T_readSoFar : ByteArray := prog_3_method_3_code
abbrev y_T_readSoFar : MethodName := ⟨"TapeCounter$Tape", "readSoFar", "()I"⟩
abbrev b_T_clear : ByteArray := prog_3_method_4_code
abbrev y_T_clear : MethodName := ⟨"TapeCounter$Tape", "clear", "()V"⟩
abbrev b_T_rewind : ByteArray := prog_3_method_5_code
abbrev y_T_rewind : MethodName := ⟨"TapeCounter$Tape", "rewind", "()V"⟩
abbrev b_T_append : ByteArray := prog_3_method_6_code
abbrev y_T_append : MethodName := ⟨"TapeCounter$Tape", "append", "(II)Z"⟩
abbrev b_T_readBit : ByteArray := prog_3_method_7_code
abbrev y_T_readBit : MethodName := ⟨"TapeCounter$Tape", "readBit", "()I"⟩
abbrev b_T_readNumber : ByteArray := prog_3_method_8_code
abbrev y_T_readNumber : MethodName := ⟨"TapeCounter$Tape", "readNumber", "(I)I"⟩
abbrev b_T_dropRead : ByteArray := prog_3_method_9_code
abbrev y_T_dropRead : MethodName := ⟨"TapeCounter$Tape", "dropRead", "()V"⟩
abbrev b_L_law : ByteArray := code
abbrev y_L_law : MethodName := ⟨"TapeCounterLaw", "law", "([I)Z"⟩
end
section
theorem d_C_init_0 : decode b_C_init 0 = .ok (.aload_n 0, 1) := by decide +kernel
theorem d_C_init_1 : decode b_C_init 1 = .ok (.invokespecial 1, 3) := by decide +kernel
theorem d_C_init_4 : decode b_C_init 4 = .ok (.aload_n 0, 1) := by decide +kernel
theorem d_C_init_5 : decode b_C_init 5 = .ok (.bipush 8, 2) := by decide +kernel
theorem d_C_init_7 : decode b_C_init 7 = .ok (.newarray .int, 2) := by decide +kernel
theorem d_C_init_9 : decode b_C_init 9 = .ok (.putfield 9, 3) := by decide +kernel
theorem d_C_init_12 : decode b_C_init 12 = .ok (.iconst 0, 1) := by decide +kernel
theorem d_C_init_13 : decode b_C_init 13 = .ok (.istore_n 1, 1) := by decide +kernel
theorem d_C_init_14 : decode b_C_init 14 = .ok (.iload_n 1, 1) := by decide +kernel
theorem d_C_init_15 : decode b_C_init 15 = .ok (.bipush 8, 2) := by decide +kernel
theorem d_C_init_17 : decode b_C_init 17 = .ok (.if_icmp .ge 16, 3) := by decide +kernel
theorem d_C_init_20 : decode b_C_init 20 = .ok (.aload_n 0, 1) := by decide +kernel
theorem d_C_init_21 : decode b_C_init 21 = .ok (.getfield 9, 3) := by decide +kernel
theorem d_C_init_24 : decode b_C_init 24 = .ok (.iload_n 1, 1) := by decide +kernel
theorem d_C_init_25 : decode b_C_init 25 = .ok (.iconst 1, 1) := by decide +kernel
theorem d_C_init_26 : decode b_C_init 26 = .ok (.iastore, 1) := by decide +kernel
theorem d_C_init_27 : decode b_C_init 27 = .ok (.iinc 1 1, 3) := by decide +kernel
theorem d_C_init_30 : decode b_C_init 30 = .ok (.goto (-16), 3) := by decide +kernel
theorem d_C_init_33 : decode b_C_init 33 = .ok (.aload_n 0, 1) := by decide +kernel
theorem d_C_init_34 : decode b_C_init 34 = .ok (.iconst 4, 1) := by decide +kernel
theorem d_C_init_35 : decode b_C_init 35 = .ok (.newarray .int, 2) := by decide +kernel
theorem d_C_init_37 : decode b_C_init 37 = .ok (.putfield 13, 3) := by decide +kernel
theorem d_C_init_40 : decode b_C_init 40 = .ok (.aload_n 0, 1) := by decide +kernel
theorem d_C_init_41 : decode b_C_init 41 = .ok (.new 16, 3) := by decide +kernel
theorem d_C_init_44 : decode b_C_init 44 = .ok (.dup, 1) := by decide +kernel
theorem d_C_init_45 : decode b_C_init 45 = .ok (.sipush 256, 3) := by decide +kernel
theorem d_C_init_48 : decode b_C_init 48 = .ok (.invokespecial 18, 3) := by decide +kernel
theorem d_C_init_51 : decode b_C_init 51 = .ok (.putfield 21, 3) := by decide +kernel
theorem d_C_init_54 : decode b_C_init 54 = .ok (.aload_n 0, 1) := by decide +kernel
theorem d_C_init_55 : decode b_C_init 55 = .ok (.new 16, 3) := by decide +kernel
theorem d_C_init_58 : decode b_C_init 58 = .ok (.dup, 1) := by decide +kernel
theorem d_C_init_59 : decode b_C_init 59 = .ok (.bipush 12, 2) := by decide +kernel
theorem d_C_init_61 : decode b_C_init 61 = .ok (.invokespecial 18, 3) := by decide +kernel
theorem d_C_init_64 : decode b_C_init 64 = .ok (.putfield 25, 3) := by decide +kernel
theorem d_C_init_67 : decode b_C_init 67 = .ok (.aload_n 0, 1) := by decide +kernel
theorem d_C_init_68 : decode b_C_init 68 = .ok (.new 28, 3) := by decide +kernel
theorem d_C_init_71 : decode b_C_init 71 = .ok (.dup, 1) := by decide +kernel
theorem d_C_init_72 : decode b_C_init 72 = .ok (.invokespecial 30, 3) := by decide +kernel
theorem d_C_init_75 : decode b_C_init 75 = .ok (.putfield 31, 3) := by decide +kernel
theorem d_C_init_78 : decode b_C_init 78 = .ok (.aload_n 0, 1) := by decide +kernel
theorem d_C_init_79 : decode b_C_init 79 = .ok (.iconst 0, 1) := by decide +kernel
theorem d_C_init_80 : decode b_C_init 80 = .ok (.putfield 35, 3) := by decide +kernel
theorem d_C_init_83 : decode b_C_init 83 = .ok (.return_, 1) := by decide +kernel
theorem d_C_weigh_0 : decode b_C_weigh 0 = .ok (.iload_n 1, 1) := by decide +kernel
theorem d_C_weigh_1 : decode b_C_weigh 1 = .ok (.iconst 0, 1) := by decide +kernel
theorem d_C_weigh_2 : decode b_C_weigh 2 = .ok (.bipush 7, 2) := by decide +kernel
theorem d_C_weigh_4 : decode b_C_weigh 4 = .ok (.invokestatic 39, 3) := by decide +kernel
theorem d_C_weigh_7 : decode b_C_weigh 7 = .ok (.ifCond .eq 13, 3) := by decide +kernel
theorem d_C_weigh_10 : decode b_C_weigh 10 = .ok (.iload_n 2, 1) := by decide +kernel
theorem d_C_weigh_11 : decode b_C_weigh 11 = .ok (.iconst 0, 1) := by decide +kernel
theorem d_C_weigh_12 : decode b_C_weigh 12 = .ok (.bipush 15, 2) := by decide +kernel
theorem d_C_weigh_14 : decode b_C_weigh 14 = .ok (.invokestatic 39, 3) := by decide +kernel
theorem d_C_weigh_17 : decode b_C_weigh 17 = .ok (.ifCond .ne 5, 3) := by decide +kernel
theorem d_C_weigh_20 : decode b_C_weigh 20 = .ok (.iconst 0, 1) := by decide +kernel
theorem d_C_weigh_21 : decode b_C_weigh 21 = .ok (.ireturn, 1) := by decide +kernel
theorem d_C_weigh_22 : decode b_C_weigh 22 = .ok (.aload_n 0, 1) := by decide +kernel
theorem d_C_weigh_23 : decode b_C_weigh 23 = .ok (.getfield 9, 3) := by decide +kernel
theorem d_C_weigh_26 : decode b_C_weigh 26 = .ok (.iload_n 1, 1) := by decide +kernel
theorem d_C_weigh_27 : decode b_C_weigh 27 = .ok (.iload_n 2, 1) := by decide +kernel
theorem d_C_weigh_28 : decode b_C_weigh 28 = .ok (.iastore, 1) := by decide +kernel
theorem d_C_weigh_29 : decode b_C_weigh 29 = .ok (.iconst 1, 1) := by decide +kernel
theorem d_C_weigh_30 : decode b_C_weigh 30 = .ok (.ireturn, 1) := by decide +kernel
theorem d_C_weight_0 : decode b_C_weight 0 = .ok (.iload_n 1, 1) := by decide +kernel
theorem d_C_weight_1 : decode b_C_weight 1 = .ok (.iconst 0, 1) := by decide +kernel
theorem d_C_weight_2 : decode b_C_weight 2 = .ok (.bipush 7, 2) := by decide +kernel
theorem d_C_weight_4 : decode b_C_weight 4 = .ok (.invokestatic 39, 3) := by decide +kernel
theorem d_C_weight_7 : decode b_C_weight 7 = .ok (.ifCond .eq 12, 3) := by decide +kernel
theorem d_C_weight_10 : decode b_C_weight 10 = .ok (.aload_n 0, 1) := by decide +kernel
theorem d_C_weight_11 : decode b_C_weight 11 = .ok (.getfield 9, 3) := by decide +kernel
theorem d_C_weight_14 : decode b_C_weight 14 = .ok (.iload_n 1, 1) := by decide +kernel
theorem d_C_weight_15 : decode b_C_weight 15 = .ok (.iaload, 1) := by decide +kernel
theorem d_C_weight_16 : decode b_C_weight 16 = .ok (.goto 4, 3) := by decide +kernel
theorem d_C_weight_19 : decode b_C_weight 19 = .ok (.iconst (-1), 1) := by decide +kernel
theorem d_C_weight_20 : decode b_C_weight 20 = .ok (.ireturn, 1) := by decide +kernel
theorem d_C_feed_0 : decode b_C_feed 0 = .ok (.aload_n 0, 1) := by decide +kernel
theorem d_C_feed_1 : decode b_C_feed 1 = .ok (.getfield 21, 3) := by decide +kernel
theorem d_C_feed_4 : decode b_C_feed 4 = .ok (.iload_n 1, 1) := by decide +kernel
theorem d_C_feed_5 : decode b_C_feed 5 = .ok (.iload_n 2, 1) := by decide +kernel
theorem d_C_feed_6 : decode b_C_feed 6 = .ok (.invokevirtual 43, 3) := by decide +kernel
theorem d_C_feed_9 : decode b_C_feed 9 = .ok (.ifCond .eq 13, 3) := by decide +kernel
theorem d_C_feed_12 : decode b_C_feed 12 = .ok (.aload_n 0, 1) := by decide +kernel
theorem d_C_feed_13 : decode b_C_feed 13 = .ok (.getfield 21, 3) := by decide +kernel
theorem d_C_feed_16 : decode b_C_feed 16 = .ok (.invokevirtual 47, 3) := by decide +kernel
theorem d_C_feed_19 : decode b_C_feed 19 = .ok (.goto 4, 3) := by decide +kernel
theorem d_C_feed_22 : decode b_C_feed 22 = .ok (.iconst (-1), 1) := by decide +kernel
theorem d_C_feed_23 : decode b_C_feed 23 = .ok (.ireturn, 1) := by decide +kernel
theorem d_C_left_0 : decode b_C_left 0 = .ok (.aload_n 0, 1) := by decide +kernel
theorem d_C_left_1 : decode b_C_left 1 = .ok (.getfield 21, 3) := by decide +kernel
theorem d_C_left_4 : decode b_C_left 4 = .ok (.invokevirtual 47, 3) := by decide +kernel
theorem d_C_left_7 : decode b_C_left 7 = .ok (.ireturn, 1) := by decide +kernel
theorem d_C_isOne_0 : decode b_C_isOne 0 = .ok (.iload_n 1, 1) := by decide +kernel
theorem d_C_isOne_1 : decode b_C_isOne 1 = .ok (.tableswitch 131 0 7 #[47, 47, 55, 80, 80, 88, 95, 120], 47) := by decide +kernel
theorem d_C_isOne_48 : decode b_C_isOne 48 = .ok (.iload_n 2, 1) := by decide +kernel
theorem d_C_isOne_49 : decode b_C_isOne 49 = .ok (.iconst 1, 1) := by decide +kernel
theorem d_C_isOne_50 : decode b_C_isOne 50 = .ok (.bipush 64, 2) := by decide +kernel
theorem d_C_isOne_52 : decode b_C_isOne 52 = .ok (.invokestatic 39, 3) := by decide +kernel
theorem d_C_isOne_55 : decode b_C_isOne 55 = .ok (.ireturn, 1) := by decide +kernel
theorem d_C_isOne_56 : decode b_C_isOne 56 = .ok (.iload_n 3, 1) := by decide +kernel
theorem d_C_isOne_57 : decode b_C_isOne 57 = .ok (.iconst 1, 1) := by decide +kernel
theorem d_C_isOne_58 : decode b_C_isOne 58 = .ok (.bipush 64, 2) := by decide +kernel
theorem d_C_isOne_60 : decode b_C_isOne 60 = .ok (.invokestatic 39, 3) := by decide +kernel
theorem d_C_isOne_63 : decode b_C_isOne 63 = .ok (.ifCond .eq 16, 3) := by decide +kernel
theorem d_C_isOne_66 : decode b_C_isOne 66 = .ok (.iload_n 2, 1) := by decide +kernel
theorem d_C_isOne_67 : decode b_C_isOne 67 = .ok (.iconst 0, 1) := by decide +kernel
theorem d_C_isOne_68 : decode b_C_isOne 68 = .ok (.iload_n 3, 1) := by decide +kernel
theorem d_C_isOne_69 : decode b_C_isOne 69 = .ok (.invokestatic 39, 3) := by decide +kernel
theorem d_C_isOne_72 : decode b_C_isOne 72 = .ok (.ifCond .eq 7, 3) := by decide +kernel
theorem d_C_isOne_75 : decode b_C_isOne 75 = .ok (.iconst 1, 1) := by decide +kernel
theorem d_C_isOne_76 : decode b_C_isOne 76 = .ok (.goto 4, 3) := by decide +kernel
theorem d_C_isOne_79 : decode b_C_isOne 79 = .ok (.iconst 0, 1) := by decide +kernel
theorem d_C_isOne_80 : decode b_C_isOne 80 = .ok (.ireturn, 1) := by decide +kernel
theorem d_C_isOne_81 : decode b_C_isOne 81 = .ok (.iload_n 2, 1) := by decide +kernel
theorem d_C_isOne_82 : decode b_C_isOne 82 = .ok (.iconst 0, 1) := by decide +kernel
theorem d_C_isOne_83 : decode b_C_isOne 83 = .ok (.bipush 12, 2) := by decide +kernel
theorem d_C_isOne_85 : decode b_C_isOne 85 = .ok (.invokestatic 39, 3) := by decide +kernel
theorem d_C_isOne_88 : decode b_C_isOne 88 = .ok (.ireturn, 1) := by decide +kernel
theorem d_C_isOne_89 : decode b_C_isOne 89 = .ok (.iload_n 2, 1) := by decide +kernel
theorem d_C_isOne_90 : decode b_C_isOne 90 = .ok (.iconst 1, 1) := by decide +kernel
theorem d_C_isOne_91 : decode b_C_isOne 91 = .ok (.iconst 4, 1) := by decide +kernel
theorem d_C_isOne_92 : decode b_C_isOne 92 = .ok (.invokestatic 39, 3) := by decide +kernel
theorem d_C_isOne_95 : decode b_C_isOne 95 = .ok (.ireturn, 1) := by decide +kernel
theorem d_C_isOne_96 : decode b_C_isOne 96 = .ok (.iload_n 2, 1) := by decide +kernel
theorem d_C_isOne_97 : decode b_C_isOne 97 = .ok (.iconst 1, 1) := by decide +kernel
theorem d_C_isOne_98 : decode b_C_isOne 98 = .ok (.bipush 6, 2) := by decide +kernel
theorem d_C_isOne_100 : decode b_C_isOne 100 = .ok (.invokestatic 39, 3) := by decide +kernel
theorem d_C_isOne_103 : decode b_C_isOne 103 = .ok (.ifCond .eq 16, 3) := by decide +kernel
theorem d_C_isOne_106 : decode b_C_isOne 106 = .ok (.iload_n 3, 1) := by decide +kernel
theorem d_C_isOne_107 : decode b_C_isOne 107 = .ok (.iconst 0, 1) := by decide +kernel
theorem d_C_isOne_108 : decode b_C_isOne 108 = .ok (.iload_n 2, 1) := by decide +kernel
theorem d_C_isOne_109 : decode b_C_isOne 109 = .ok (.invokestatic 39, 3) := by decide +kernel
theorem d_C_isOne_112 : decode b_C_isOne 112 = .ok (.ifCond .eq 7, 3) := by decide +kernel
theorem d_C_isOne_115 : decode b_C_isOne 115 = .ok (.iconst 1, 1) := by decide +kernel
theorem d_C_isOne_116 : decode b_C_isOne 116 = .ok (.goto 4, 3) := by decide +kernel
theorem d_C_isOne_119 : decode b_C_isOne 119 = .ok (.iconst 0, 1) := by decide +kernel
theorem d_C_isOne_120 : decode b_C_isOne 120 = .ok (.ireturn, 1) := by decide +kernel
theorem d_C_isOne_121 : decode b_C_isOne 121 = .ok (.aload_n 0, 1) := by decide +kernel
theorem d_C_isOne_122 : decode b_C_isOne 122 = .ok (.invokevirtual 51, 3) := by decide +kernel
theorem d_C_isOne_125 : decode b_C_isOne 125 = .ok (.iconst 1, 1) := by decide +kernel
theorem d_C_isOne_126 : decode b_C_isOne 126 = .ok (.bipush 64, 2) := by decide +kernel
theorem d_C_isOne_128 : decode b_C_isOne 128 = .ok (.invokestatic 39, 3) := by decide +kernel
theorem d_C_isOne_131 : decode b_C_isOne 131 = .ok (.ireturn, 1) := by decide +kernel
theorem d_C_isOne_132 : decode b_C_isOne 132 = .ok (.iconst 0, 1) := by decide +kernel
theorem d_C_isOne_133 : decode b_C_isOne 133 = .ok (.ireturn, 1) := by decide +kernel
theorem d_C_draw_0 : decode b_C_draw 0 = .ok (.aload_n 0, 1) := by decide +kernel
theorem d_C_draw_1 : decode b_C_draw 1 = .ok (.iload_n 1, 1) := by decide +kernel
theorem d_C_draw_2 : decode b_C_draw 2 = .ok (.iload_n 2, 1) := by decide +kernel
theorem d_C_draw_3 : decode b_C_draw 3 = .ok (.iload_n 3, 1) := by decide +kernel
theorem d_C_draw_4 : decode b_C_draw 4 = .ok (.invokevirtual 54, 3) := by decide +kernel
theorem d_C_draw_7 : decode b_C_draw 7 = .ok (.ifCond .ne 5, 3) := by decide +kernel
theorem d_C_draw_10 : decode b_C_draw 10 = .ok (.iconst (-1), 1) := by decide +kernel
theorem d_C_draw_11 : decode b_C_draw 11 = .ok (.ireturn, 1) := by decide +kernel
theorem d_C_draw_12 : decode b_C_draw 12 = .ok (.aload_n 0, 1) := by decide +kernel
theorem d_C_draw_13 : decode b_C_draw 13 = .ok (.getfield 21, 3) := by decide +kernel
theorem d_C_draw_16 : decode b_C_draw 16 = .ok (.invokevirtual 57, 3) := by decide +kernel
theorem d_C_draw_19 : decode b_C_draw 19 = .ok (.aload_n 0, 1) := by decide +kernel
theorem d_C_draw_20 : decode b_C_draw 20 = .ok (.aload_n 0, 1) := by decide +kernel
theorem d_C_draw_21 : decode b_C_draw 21 = .ok (.getfield 21, 3) := by decide +kernel
theorem d_C_draw_24 : decode b_C_draw 24 = .ok (.iload_n 1, 1) := by decide +kernel
theorem d_C_draw_25 : decode b_C_draw 25 = .ok (.iload_n 2, 1) := by decide +kernel
theorem d_C_draw_26 : decode b_C_draw 26 = .ok (.iload_n 3, 1) := by decide +kernel
theorem d_C_draw_27 : decode b_C_draw 27 = .ok (.invokevirtual 60, 3) := by decide +kernel
theorem d_C_draw_30 : decode b_C_draw 30 = .ok (.istore 4, 2) := by decide +kernel
theorem d_C_draw_32 : decode b_C_draw 32 = .ok (.iload 4, 2) := by decide +kernel
theorem d_C_draw_34 : decode b_C_draw 34 = .ok (.iconst (-1), 1) := by decide +kernel
theorem d_C_draw_35 : decode b_C_draw 35 = .ok (.if_icmp .ne 5, 3) := by decide +kernel
theorem d_C_draw_38 : decode b_C_draw 38 = .ok (.iconst (-1), 1) := by decide +kernel
theorem d_C_draw_39 : decode b_C_draw 39 = .ok (.ireturn, 1) := by decide +kernel
theorem d_C_draw_40 : decode b_C_draw 40 = .ok (.aload_n 0, 1) := by decide +kernel
theorem d_C_draw_41 : decode b_C_draw 41 = .ok (.aload_n 0, 1) := by decide +kernel
theorem d_C_draw_42 : decode b_C_draw 42 = .ok (.getfield 21, 3) := by decide +kernel
theorem d_C_draw_45 : decode b_C_draw 45 = .ok (.invokevirtual 64, 3) := by decide +kernel
theorem d_C_draw_48 : decode b_C_draw 48 = .ok (.putfield 35, 3) := by decide +kernel
theorem d_C_draw_51 : decode b_C_draw 51 = .ok (.aload_n 0, 1) := by decide +kernel
theorem d_C_draw_52 : decode b_C_draw 52 = .ok (.getfield 21, 3) := by decide +kernel
theorem d_C_draw_55 : decode b_C_draw 55 = .ok (.invokevirtual 67, 3) := by decide +kernel
theorem d_C_draw_58 : decode b_C_draw 58 = .ok (.iload 4, 2) := by decide +kernel
theorem d_C_draw_60 : decode b_C_draw 60 = .ok (.ireturn, 1) := by decide +kernel
theorem d_C_spent_0 : decode b_C_spent 0 = .ok (.aload_n 0, 1) := by decide +kernel
theorem d_C_spent_1 : decode b_C_spent 1 = .ok (.getfield 35, 3) := by decide +kernel
theorem d_C_spent_4 : decode b_C_spent 4 = .ok (.ireturn, 1) := by decide +kernel
theorem d_C_count_0 : decode b_C_count 0 = .ok (.aload_n 0, 1) := by decide +kernel
theorem d_C_count_1 : decode b_C_count 1 = .ok (.iload_n 1, 1) := by decide +kernel
theorem d_C_count_2 : decode b_C_count 2 = .ok (.iload_n 2, 1) := by decide +kernel
theorem d_C_count_3 : decode b_C_count 3 = .ok (.iload_n 3, 1) := by decide +kernel
theorem d_C_count_4 : decode b_C_count 4 = .ok (.iload 4, 2) := by decide +kernel
theorem d_C_count_6 : decode b_C_count 6 = .ok (.invokevirtual 70, 3) := by decide +kernel
theorem d_C_count_9 : decode b_C_count 9 = .ok (.ifCond .ne 5, 3) := by decide +kernel
theorem d_C_count_12 : decode b_C_count 12 = .ok (.iconst (-1), 1) := by decide +kernel
theorem d_C_count_13 : decode b_C_count 13 = .ok (.ireturn, 1) := by decide +kernel
theorem d_C_count_14 : decode b_C_count 14 = .ok (.aload_n 0, 1) := by decide +kernel
theorem d_C_count_15 : decode b_C_count 15 = .ok (.iload_n 1, 1) := by decide +kernel
theorem d_C_count_16 : decode b_C_count 16 = .ok (.iload_n 2, 1) := by decide +kernel
theorem d_C_count_17 : decode b_C_count 17 = .ok (.iload_n 3, 1) := by decide +kernel
theorem d_C_count_18 : decode b_C_count 18 = .ok (.iload 4, 2) := by decide +kernel
theorem d_C_count_20 : decode b_C_count 20 = .ok (.iload 5, 2) := by decide +kernel
theorem d_C_count_22 : decode b_C_count 22 = .ok (.invokevirtual 74, 3) := by decide +kernel
theorem d_C_count_25 : decode b_C_count 25 = .ok (.aload_n 0, 1) := by decide +kernel
theorem d_C_count_26 : decode b_C_count 26 = .ok (.getfield 31, 3) := by decide +kernel
theorem d_C_count_29 : decode b_C_count 29 = .ok (.getfield 78, 3) := by decide +kernel
theorem d_C_count_32 : decode b_C_count 32 = .ok (.ireturn, 1) := by decide +kernel
theorem d_C_fails_0 : decode b_C_fails 0 = .ok (.aload_n 0, 1) := by decide +kernel
theorem d_C_fails_1 : decode b_C_fails 1 = .ok (.iload_n 1, 1) := by decide +kernel
theorem d_C_fails_2 : decode b_C_fails 2 = .ok (.iload_n 2, 1) := by decide +kernel
theorem d_C_fails_3 : decode b_C_fails 3 = .ok (.iload_n 3, 1) := by decide +kernel
theorem d_C_fails_4 : decode b_C_fails 4 = .ok (.iload 4, 2) := by decide +kernel
theorem d_C_fails_6 : decode b_C_fails 6 = .ok (.invokevirtual 70, 3) := by decide +kernel
theorem d_C_fails_9 : decode b_C_fails 9 = .ok (.ifCond .ne 5, 3) := by decide +kernel
theorem d_C_fails_12 : decode b_C_fails 12 = .ok (.iconst (-1), 1) := by decide +kernel
theorem d_C_fails_13 : decode b_C_fails 13 = .ok (.ireturn, 1) := by decide +kernel
theorem d_C_fails_14 : decode b_C_fails 14 = .ok (.aload_n 0, 1) := by decide +kernel
theorem d_C_fails_15 : decode b_C_fails 15 = .ok (.iload_n 1, 1) := by decide +kernel
theorem d_C_fails_16 : decode b_C_fails 16 = .ok (.iload_n 2, 1) := by decide +kernel
theorem d_C_fails_17 : decode b_C_fails 17 = .ok (.iload_n 3, 1) := by decide +kernel
theorem d_C_fails_18 : decode b_C_fails 18 = .ok (.iload 4, 2) := by decide +kernel
theorem d_C_fails_20 : decode b_C_fails 20 = .ok (.iconst (-1), 1) := by decide +kernel
theorem d_C_fails_21 : decode b_C_fails 21 = .ok (.invokevirtual 74, 3) := by decide +kernel
theorem d_C_fails_24 : decode b_C_fails 24 = .ok (.aload_n 0, 1) := by decide +kernel
theorem d_C_fails_25 : decode b_C_fails 25 = .ok (.getfield 31, 3) := by decide +kernel
theorem d_C_fails_28 : decode b_C_fails 28 = .ok (.getfield 81, 3) := by decide +kernel
theorem d_C_fails_31 : decode b_C_fails 31 = .ok (.ireturn, 1) := by decide +kernel
theorem d_C_work_0 : decode b_C_work 0 = .ok (.aload_n 0, 1) := by decide +kernel
theorem d_C_work_1 : decode b_C_work 1 = .ok (.iload_n 1, 1) := by decide +kernel
theorem d_C_work_2 : decode b_C_work 2 = .ok (.iload_n 2, 1) := by decide +kernel
theorem d_C_work_3 : decode b_C_work 3 = .ok (.iload_n 3, 1) := by decide +kernel
theorem d_C_work_4 : decode b_C_work 4 = .ok (.iload 4, 2) := by decide +kernel
theorem d_C_work_6 : decode b_C_work 6 = .ok (.invokevirtual 70, 3) := by decide +kernel
theorem d_C_work_9 : decode b_C_work 9 = .ok (.ifCond .ne 5, 3) := by decide +kernel
theorem d_C_work_12 : decode b_C_work 12 = .ok (.iconst (-1), 1) := by decide +kernel
theorem d_C_work_13 : decode b_C_work 13 = .ok (.ireturn, 1) := by decide +kernel
theorem d_C_work_14 : decode b_C_work 14 = .ok (.aload_n 0, 1) := by decide +kernel
theorem d_C_work_15 : decode b_C_work 15 = .ok (.iload_n 1, 1) := by decide +kernel
theorem d_C_work_16 : decode b_C_work 16 = .ok (.iload_n 2, 1) := by decide +kernel
theorem d_C_work_17 : decode b_C_work 17 = .ok (.iload_n 3, 1) := by decide +kernel
theorem d_C_work_18 : decode b_C_work 18 = .ok (.iload 4, 2) := by decide +kernel
theorem d_C_work_20 : decode b_C_work 20 = .ok (.iconst (-1), 1) := by decide +kernel
theorem d_C_work_21 : decode b_C_work 21 = .ok (.invokevirtual 74, 3) := by decide +kernel
theorem d_C_work_24 : decode b_C_work 24 = .ok (.aload_n 0, 1) := by decide +kernel
theorem d_C_work_25 : decode b_C_work 25 = .ok (.getfield 31, 3) := by decide +kernel
theorem d_C_work_28 : decode b_C_work 28 = .ok (.getfield 84, 3) := by decide +kernel
theorem d_C_work_31 : decode b_C_work 31 = .ok (.ireturn, 1) := by decide +kernel
theorem d_C_first_0 : decode b_C_first 0 = .ok (.aload_n 0, 1) := by decide +kernel
theorem d_C_first_1 : decode b_C_first 1 = .ok (.iload_n 1, 1) := by decide +kernel
theorem d_C_first_2 : decode b_C_first 2 = .ok (.iload_n 2, 1) := by decide +kernel
theorem d_C_first_3 : decode b_C_first 3 = .ok (.iload_n 3, 1) := by decide +kernel
theorem d_C_first_4 : decode b_C_first 4 = .ok (.invokevirtual 54, 3) := by decide +kernel
theorem d_C_first_7 : decode b_C_first 7 = .ok (.ifCond .ne 5, 3) := by decide +kernel
theorem d_C_first_10 : decode b_C_first 10 = .ok (.iconst (-1), 1) := by decide +kernel
theorem d_C_first_11 : decode b_C_first 11 = .ok (.ireturn, 1) := by decide +kernel
theorem d_C_first_12 : decode b_C_first 12 = .ok (.aload_n 0, 1) := by decide +kernel
theorem d_C_first_13 : decode b_C_first 13 = .ok (.iload_n 1, 1) := by decide +kernel
theorem d_C_first_14 : decode b_C_first 14 = .ok (.iload_n 2, 1) := by decide +kernel
theorem d_C_first_15 : decode b_C_first 15 = .ok (.iload_n 3, 1) := by decide +kernel
theorem d_C_first_16 : decode b_C_first 16 = .ok (.bipush 12, 2) := by decide +kernel
theorem d_C_first_18 : decode b_C_first 18 = .ok (.iload 4, 2) := by decide +kernel
theorem d_C_first_20 : decode b_C_first 20 = .ok (.invokevirtual 74, 3) := by decide +kernel
theorem d_C_first_23 : decode b_C_first 23 = .ok (.aload_n 0, 1) := by decide +kernel
theorem d_C_first_24 : decode b_C_first 24 = .ok (.getfield 31, 3) := by decide +kernel
theorem d_C_first_27 : decode b_C_first 27 = .ok (.getfield 87, 3) := by decide +kernel
theorem d_C_first_30 : decode b_C_first 30 = .ok (.ireturn, 1) := by decide +kernel
theorem d_C_isWithin_0 : decode b_C_isWithin 0 = .ok (.iload_n 0, 1) := by decide +kernel
theorem d_C_isWithin_1 : decode b_C_isWithin 1 = .ok (.iload_n 1, 1) := by decide +kernel
theorem d_C_isWithin_2 : decode b_C_isWithin 2 = .ok (.if_icmp .lt 12, 3) := by decide +kernel
theorem d_C_isWithin_5 : decode b_C_isWithin 5 = .ok (.iload_n 0, 1) := by decide +kernel
theorem d_C_isWithin_6 : decode b_C_isWithin 6 = .ok (.iload_n 2, 1) := by decide +kernel
theorem d_C_isWithin_7 : decode b_C_isWithin 7 = .ok (.if_icmp .gt 7, 3) := by decide +kernel
theorem d_C_isWithin_10 : decode b_C_isWithin 10 = .ok (.iconst 1, 1) := by decide +kernel
theorem d_C_isWithin_11 : decode b_C_isWithin 11 = .ok (.goto 4, 3) := by decide +kernel
theorem d_C_isWithin_14 : decode b_C_isWithin 14 = .ok (.iconst 0, 1) := by decide +kernel
theorem d_C_isWithin_15 : decode b_C_isWithin 15 = .ok (.ireturn, 1) := by decide +kernel
theorem d_C_isCountable_0 : decode b_C_isCountable 0 = .ok (.iload 4, 2) := by decide +kernel
theorem d_C_isCountable_2 : decode b_C_isCountable 2 = .ok (.iconst 0, 1) := by decide +kernel
theorem d_C_isCountable_3 : decode b_C_isCountable 3 = .ok (.bipush 12, 2) := by decide +kernel
theorem d_C_isCountable_5 : decode b_C_isCountable 5 = .ok (.invokestatic 39, 3) := by decide +kernel
theorem d_C_isCountable_8 : decode b_C_isCountable 8 = .ok (.ifCond .eq 17, 3) := by decide +kernel
theorem d_C_isCountable_11 : decode b_C_isCountable 11 = .ok (.aload_n 0, 1) := by decide +kernel
theorem d_C_isCountable_12 : decode b_C_isCountable 12 = .ok (.iload_n 1, 1) := by decide +kernel
theorem d_C_isCountable_13 : decode b_C_isCountable 13 = .ok (.iload_n 2, 1) := by decide +kernel
theorem d_C_isCountable_14 : decode b_C_isCountable 14 = .ok (.iload_n 3, 1) := by decide +kernel
theorem d_C_isCountable_15 : decode b_C_isCountable 15 = .ok (.invokevirtual 54, 3) := by decide +kernel
theorem d_C_isCountable_18 : decode b_C_isCountable 18 = .ok (.ifCond .eq 7, 3) := by decide +kernel
theorem d_C_isCountable_21 : decode b_C_isCountable 21 = .ok (.iconst 1, 1) := by decide +kernel
theorem d_C_isCountable_22 : decode b_C_isCountable 22 = .ok (.goto 4, 3) := by decide +kernel
theorem d_C_isCountable_25 : decode b_C_isCountable 25 = .ok (.iconst 0, 1) := by decide +kernel
theorem d_C_isCountable_26 : decode b_C_isCountable 26 = .ok (.ireturn, 1) := by decide +kernel
theorem d_C_weightSum_0 : decode b_C_weightSum 0 = .ok (.iconst 0, 1) := by decide +kernel
theorem d_C_weightSum_1 : decode b_C_weightSum 1 = .ok (.istore_n 1, 1) := by decide +kernel
theorem d_C_weightSum_2 : decode b_C_weightSum 2 = .ok (.iconst 0, 1) := by decide +kernel
theorem d_C_weightSum_3 : decode b_C_weightSum 3 = .ok (.istore_n 2, 1) := by decide +kernel
theorem d_C_weightSum_4 : decode b_C_weightSum 4 = .ok (.iload_n 2, 1) := by decide +kernel
theorem d_C_weightSum_5 : decode b_C_weightSum 5 = .ok (.bipush 8, 2) := by decide +kernel
theorem d_C_weightSum_7 : decode b_C_weightSum 7 = .ok (.if_icmp .ge 18, 3) := by decide +kernel
theorem d_C_weightSum_10 : decode b_C_weightSum 10 = .ok (.iload_n 1, 1) := by decide +kernel
theorem d_C_weightSum_11 : decode b_C_weightSum 11 = .ok (.aload_n 0, 1) := by decide +kernel
theorem d_C_weightSum_12 : decode b_C_weightSum 12 = .ok (.getfield 9, 3) := by decide +kernel
theorem d_C_weightSum_15 : decode b_C_weightSum 15 = .ok (.iload_n 2, 1) := by decide +kernel
theorem d_C_weightSum_16 : decode b_C_weightSum 16 = .ok (.iaload, 1) := by decide +kernel
theorem d_C_weightSum_17 : decode b_C_weightSum 17 = .ok (.iadd, 1) := by decide +kernel
theorem d_C_weightSum_18 : decode b_C_weightSum 18 = .ok (.istore_n 1, 1) := by decide +kernel
theorem d_C_weightSum_19 : decode b_C_weightSum 19 = .ok (.iinc 2 1, 3) := by decide +kernel
theorem d_C_weightSum_22 : decode b_C_weightSum 22 = .ok (.goto (-18), 3) := by decide +kernel
theorem d_C_weightSum_25 : decode b_C_weightSum 25 = .ok (.iload_n 1, 1) := by decide +kernel
theorem d_C_weightSum_26 : decode b_C_weightSum 26 = .ok (.ireturn, 1) := by decide +kernel
theorem d_C_tryAllTapes_0 : decode b_C_tryAllTapes 0 = .ok (.aload_n 0, 1) := by decide +kernel
theorem d_C_tryAllTapes_1 : decode b_C_tryAllTapes 1 = .ok (.getfield 31, 3) := by decide +kernel
theorem d_C_tryAllTapes_4 : decode b_C_tryAllTapes 4 = .ok (.invokevirtual 90, 3) := by decide +kernel
theorem d_C_tryAllTapes_7 : decode b_C_tryAllTapes 7 = .ok (.iconst 1, 1) := by decide +kernel
theorem d_C_tryAllTapes_8 : decode b_C_tryAllTapes 8 = .ok (.iload 4, 2) := by decide +kernel
theorem d_C_tryAllTapes_10 : decode b_C_tryAllTapes 10 = .ok (.ishl, 1) := by decide +kernel
theorem d_C_tryAllTapes_11 : decode b_C_tryAllTapes 11 = .ok (.istore 6, 2) := by decide +kernel
theorem d_C_tryAllTapes_13 : decode b_C_tryAllTapes 13 = .ok (.iconst 0, 1) := by decide +kernel
theorem d_C_tryAllTapes_14 : decode b_C_tryAllTapes 14 = .ok (.istore 8, 2) := by decide +kernel
theorem d_C_tryAllTapes_16 : decode b_C_tryAllTapes 16 = .ok (.iload 8, 2) := by decide +kernel
theorem d_C_tryAllTapes_18 : decode b_C_tryAllTapes 18 = .ok (.iload 6, 2) := by decide +kernel
theorem d_C_tryAllTapes_20 : decode b_C_tryAllTapes 20 = .ok (.if_icmp .ge 79, 3) := by decide +kernel
theorem d_C_tryAllTapes_23 : decode b_C_tryAllTapes 23 = .ok (.aload_n 0, 1) := by decide +kernel
theorem d_C_tryAllTapes_24 : decode b_C_tryAllTapes 24 = .ok (.getfield 25, 3) := by decide +kernel
theorem d_C_tryAllTapes_27 : decode b_C_tryAllTapes 27 = .ok (.invokevirtual 93, 3) := by decide +kernel
theorem d_C_tryAllTapes_30 : decode b_C_tryAllTapes 30 = .ok (.aload_n 0, 1) := by decide +kernel
theorem d_C_tryAllTapes_31 : decode b_C_tryAllTapes 31 = .ok (.getfield 25, 3) := by decide +kernel
theorem d_C_tryAllTapes_34 : decode b_C_tryAllTapes 34 = .ok (.iload 8, 2) := by decide +kernel
theorem d_C_tryAllTapes_36 : decode b_C_tryAllTapes 36 = .ok (.iload 4, 2) := by decide +kernel
theorem d_C_tryAllTapes_38 : decode b_C_tryAllTapes 38 = .ok (.invokevirtual 43, 3) := by decide +kernel
theorem d_C_tryAllTapes_41 : decode b_C_tryAllTapes 41 = .ok (.pop, 1) := by decide +kernel
theorem d_C_tryAllTapes_42 : decode b_C_tryAllTapes 42 = .ok (.aload_n 0, 1) := by decide +kernel
theorem d_C_tryAllTapes_43 : decode b_C_tryAllTapes 43 = .ok (.aload_n 0, 1) := by decide +kernel
theorem d_C_tryAllTapes_44 : decode b_C_tryAllTapes 44 = .ok (.getfield 25, 3) := by decide +kernel
theorem d_C_tryAllTapes_47 : decode b_C_tryAllTapes 47 = .ok (.iload_n 1, 1) := by decide +kernel
theorem d_C_tryAllTapes_48 : decode b_C_tryAllTapes 48 = .ok (.iload_n 2, 1) := by decide +kernel
theorem d_C_tryAllTapes_49 : decode b_C_tryAllTapes 49 = .ok (.iload_n 3, 1) := by decide +kernel
theorem d_C_tryAllTapes_50 : decode b_C_tryAllTapes 50 = .ok (.invokevirtual 60, 3) := by decide +kernel
theorem d_C_tryAllTapes_53 : decode b_C_tryAllTapes 53 = .ok (.istore 9, 2) := by decide +kernel
theorem d_C_tryAllTapes_55 : decode b_C_tryAllTapes 55 = .ok (.iconst 1, 1) := by decide +kernel
theorem d_C_tryAllTapes_56 : decode b_C_tryAllTapes 56 = .ok (.iload 4, 2) := by decide +kernel
theorem d_C_tryAllTapes_58 : decode b_C_tryAllTapes 58 = .ok (.aload_n 0, 1) := by decide +kernel
theorem d_C_tryAllTapes_59 : decode b_C_tryAllTapes 59 = .ok (.getfield 25, 3) := by decide +kernel
theorem d_C_tryAllTapes_62 : decode b_C_tryAllTapes 62 = .ok (.invokevirtual 64, 3) := by decide +kernel
theorem d_C_tryAllTapes_65 : decode b_C_tryAllTapes 65 = .ok (.isub, 1) := by decide +kernel
theorem d_C_tryAllTapes_66 : decode b_C_tryAllTapes 66 = .ok (.ishl, 1) := by decide +kernel
theorem d_C_tryAllTapes_67 : decode b_C_tryAllTapes 67 = .ok (.istore 7, 2) := by decide +kernel
theorem d_C_tryAllTapes_69 : decode b_C_tryAllTapes 69 = .ok (.aload_n 0, 1) := by decide +kernel
theorem d_C_tryAllTapes_70 : decode b_C_tryAllTapes 70 = .ok (.getfield 31, 3) := by decide +kernel
theorem d_C_tryAllTapes_73 : decode b_C_tryAllTapes 73 = .ok (.iload 9, 2) := by decide +kernel
theorem d_C_tryAllTapes_75 : decode b_C_tryAllTapes 75 = .ok (.iload 5, 2) := by decide +kernel
theorem d_C_tryAllTapes_77 : decode b_C_tryAllTapes 77 = .ok (.aload_n 0, 1) := by decide +kernel
theorem d_C_tryAllTapes_78 : decode b_C_tryAllTapes 78 = .ok (.getfield 25, 3) := by decide +kernel
theorem d_C_tryAllTapes_81 : decode b_C_tryAllTapes 81 = .ok (.invokevirtual 64, 3) := by decide +kernel
theorem d_C_tryAllTapes_84 : decode b_C_tryAllTapes 84 = .ok (.iload 7, 2) := by decide +kernel
theorem d_C_tryAllTapes_86 : decode b_C_tryAllTapes 86 = .ok (.invokevirtual 94, 3) := by decide +kernel
theorem d_C_tryAllTapes_89 : decode b_C_tryAllTapes 89 = .ok (.iload 8, 2) := by decide +kernel
theorem d_C_tryAllTapes_91 : decode b_C_tryAllTapes 91 = .ok (.iload 7, 2) := by decide +kernel
theorem d_C_tryAllTapes_93 : decode b_C_tryAllTapes 93 = .ok (.iadd, 1) := by decide +kernel
theorem d_C_tryAllTapes_94 : decode b_C_tryAllTapes 94 = .ok (.istore 8, 2) := by decide +kernel
theorem d_C_tryAllTapes_96 : decode b_C_tryAllTapes 96 = .ok (.goto (-80), 3) := by decide +kernel
theorem d_C_tryAllTapes_99 : decode b_C_tryAllTapes 99 = .ok (.return_, 1) := by decide +kernel
theorem d_C_sample_0 : decode b_C_sample 0 = .ok (.iload_n 2, 1) := by decide +kernel
theorem d_C_sample_1 : decode b_C_sample 1 = .ok (.tableswitch 100 0 7 #[47, 53, 59, 67, 73, 79, 86, 94], 47) := by decide +kernel
theorem d_C_sample_48 : decode b_C_sample 48 = .ok (.aload_n 1, 1) := by decide +kernel
theorem d_C_sample_49 : decode b_C_sample 49 = .ok (.iload_n 3, 1) := by decide +kernel
theorem d_C_sample_50 : decode b_C_sample 50 = .ok (.invokestatic 98, 3) := by decide +kernel
theorem d_C_sample_53 : decode b_C_sample 53 = .ok (.ireturn, 1) := by decide +kernel
theorem d_C_sample_54 : decode b_C_sample 54 = .ok (.aload_n 1, 1) := by decide +kernel
theorem d_C_sample_55 : decode b_C_sample 55 = .ok (.iload_n 3, 1) := by decide +kernel
theorem d_C_sample_56 : decode b_C_sample 56 = .ok (.invokestatic 102, 3) := by decide +kernel
theorem d_C_sample_59 : decode b_C_sample 59 = .ok (.ireturn, 1) := by decide +kernel
theorem d_C_sample_60 : decode b_C_sample 60 = .ok (.aload_n 1, 1) := by decide +kernel
theorem d_C_sample_61 : decode b_C_sample 61 = .ok (.iload_n 3, 1) := by decide +kernel
theorem d_C_sample_62 : decode b_C_sample 62 = .ok (.iload 4, 2) := by decide +kernel
theorem d_C_sample_64 : decode b_C_sample 64 = .ok (.invokestatic 105, 3) := by decide +kernel
theorem d_C_sample_67 : decode b_C_sample 67 = .ok (.ireturn, 1) := by decide +kernel
theorem d_C_sample_68 : decode b_C_sample 68 = .ok (.aload_n 1, 1) := by decide +kernel
theorem d_C_sample_69 : decode b_C_sample 69 = .ok (.iload_n 3, 1) := by decide +kernel
theorem d_C_sample_70 : decode b_C_sample 70 = .ok (.invokestatic 109, 3) := by decide +kernel
theorem d_C_sample_73 : decode b_C_sample 73 = .ok (.ireturn, 1) := by decide +kernel
theorem d_C_sample_74 : decode b_C_sample 74 = .ok (.aload_n 1, 1) := by decide +kernel
theorem d_C_sample_75 : decode b_C_sample 75 = .ok (.iload_n 3, 1) := by decide +kernel
theorem d_C_sample_76 : decode b_C_sample 76 = .ok (.invokestatic 112, 3) := by decide +kernel
theorem d_C_sample_79 : decode b_C_sample 79 = .ok (.ireturn, 1) := by decide +kernel
theorem d_C_sample_80 : decode b_C_sample 80 = .ok (.aload_n 0, 1) := by decide +kernel
theorem d_C_sample_81 : decode b_C_sample 81 = .ok (.aload_n 1, 1) := by decide +kernel
theorem d_C_sample_82 : decode b_C_sample 82 = .ok (.iload_n 3, 1) := by decide +kernel
theorem d_C_sample_83 : decode b_C_sample 83 = .ok (.invokevirtual 115, 3) := by decide +kernel
theorem d_C_sample_86 : decode b_C_sample 86 = .ok (.ireturn, 1) := by decide +kernel
theorem d_C_sample_87 : decode b_C_sample 87 = .ok (.aload_n 1, 1) := by decide +kernel
theorem d_C_sample_88 : decode b_C_sample 88 = .ok (.iload_n 3, 1) := by decide +kernel
theorem d_C_sample_89 : decode b_C_sample 89 = .ok (.iload 4, 2) := by decide +kernel
theorem d_C_sample_91 : decode b_C_sample 91 = .ok (.invokestatic 118, 3) := by decide +kernel
theorem d_C_sample_94 : decode b_C_sample 94 = .ok (.ireturn, 1) := by decide +kernel
theorem d_C_sample_95 : decode b_C_sample 95 = .ok (.aload_n 0, 1) := by decide +kernel
theorem d_C_sample_96 : decode b_C_sample 96 = .ok (.aload_n 1, 1) := by decide +kernel
theorem d_C_sample_97 : decode b_C_sample 97 = .ok (.invokevirtual 121, 3) := by decide +kernel
theorem d_C_sample_100 : decode b_C_sample 100 = .ok (.ireturn, 1) := by decide +kernel
theorem d_C_sample_101 : decode b_C_sample 101 = .ok (.iconst (-1), 1) := by decide +kernel
theorem d_C_sample_102 : decode b_C_sample 102 = .ok (.ireturn, 1) := by decide +kernel
theorem d_C_plain_0 : decode b_C_plain 0 = .ok (.iload_n 1, 1) := by decide +kernel
theorem d_C_plain_1 : decode b_C_plain 1 = .ok (.invokestatic 125, 3) := by decide +kernel
theorem d_C_plain_4 : decode b_C_plain 4 = .ok (.istore_n 2, 1) := by decide +kernel
theorem d_C_plain_5 : decode b_C_plain 5 = .ok (.iconst 0, 1) := by decide +kernel
theorem d_C_plain_6 : decode b_C_plain 6 = .ok (.istore_n 3, 1) := by decide +kernel
theorem d_C_plain_7 : decode b_C_plain 7 = .ok (.iload_n 3, 1) := by decide +kernel
theorem d_C_plain_8 : decode b_C_plain 8 = .ok (.sipush 256, 3) := by decide +kernel
end
section
theorem d_C_plain_11 : decode b_C_plain 11 = .ok (.if_icmp .gt 31, 3) := by decide +kernel
theorem d_C_plain_14 : decode b_C_plain 14 = .ok (.aload_n 0, 1) := by decide +kernel
theorem d_C_plain_15 : decode b_C_plain 15 = .ok (.iload_n 2, 1) := by decide +kernel
theorem d_C_plain_16 : decode b_C_plain 16 = .ok (.invokevirtual 129, 3) := by decide +kernel
theorem d_C_plain_19 : decode b_C_plain 19 = .ok (.istore 4, 2) := by decide +kernel
theorem d_C_plain_21 : decode b_C_plain 21 = .ok (.iload 4, 2) := by decide +kernel
theorem d_C_plain_23 : decode b_C_plain 23 = .ok (.iconst (-1), 1) := by decide +kernel
theorem d_C_plain_24 : decode b_C_plain 24 = .ok (.if_icmp .eq 9, 3) := by decide +kernel
theorem d_C_plain_27 : decode b_C_plain 27 = .ok (.iload 4, 2) := by decide +kernel
theorem d_C_plain_29 : decode b_C_plain 29 = .ok (.iload_n 1, 1) := by decide +kernel
theorem d_C_plain_30 : decode b_C_plain 30 = .ok (.if_icmp .ge 6, 3) := by decide +kernel
theorem d_C_plain_33 : decode b_C_plain 33 = .ok (.iload 4, 2) := by decide +kernel
theorem d_C_plain_35 : decode b_C_plain 35 = .ok (.ireturn, 1) := by decide +kernel
theorem d_C_plain_36 : decode b_C_plain 36 = .ok (.iinc 3 1, 3) := by decide +kernel
theorem d_C_plain_39 : decode b_C_plain 39 = .ok (.goto (-32), 3) := by decide +kernel
theorem d_C_plain_42 : decode b_C_plain 42 = .ok (.iconst (-1), 1) := by decide +kernel
theorem d_C_plain_43 : decode b_C_plain 43 = .ok (.ireturn, 1) := by decide +kernel
theorem d_C_bitsFor_0 : decode b_C_bitsFor 0 = .ok (.iconst 0, 1) := by decide +kernel
theorem d_C_bitsFor_1 : decode b_C_bitsFor 1 = .ok (.istore_n 1, 1) := by decide +kernel
theorem d_C_bitsFor_2 : decode b_C_bitsFor 2 = .ok (.iload_n 1, 1) := by decide +kernel
theorem d_C_bitsFor_3 : decode b_C_bitsFor 3 = .ok (.bipush 6, 2) := by decide +kernel
theorem d_C_bitsFor_5 : decode b_C_bitsFor 5 = .ok (.if_icmp .ge 16, 3) := by decide +kernel
theorem d_C_bitsFor_8 : decode b_C_bitsFor 8 = .ok (.iconst 1, 1) := by decide +kernel
theorem d_C_bitsFor_9 : decode b_C_bitsFor 9 = .ok (.iload_n 1, 1) := by decide +kernel
theorem d_C_bitsFor_10 : decode b_C_bitsFor 10 = .ok (.ishl, 1) := by decide +kernel
theorem d_C_bitsFor_11 : decode b_C_bitsFor 11 = .ok (.iload_n 0, 1) := by decide +kernel
theorem d_C_bitsFor_12 : decode b_C_bitsFor 12 = .ok (.if_icmp .ge 9, 3) := by decide +kernel
theorem d_C_bitsFor_15 : decode b_C_bitsFor 15 = .ok (.iinc 1 1, 3) := by decide +kernel
theorem d_C_bitsFor_18 : decode b_C_bitsFor 18 = .ok (.goto (-16), 3) := by decide +kernel
theorem d_C_bitsFor_21 : decode b_C_bitsFor 21 = .ok (.iload_n 1, 1) := by decide +kernel
theorem d_C_bitsFor_22 : decode b_C_bitsFor 22 = .ok (.ireturn, 1) := by decide +kernel
theorem d_C_thrifty_0 : decode b_C_thrifty 0 = .ok (.iconst 1, 1) := by decide +kernel
theorem d_C_thrifty_1 : decode b_C_thrifty 1 = .ok (.istore_n 2, 1) := by decide +kernel
theorem d_C_thrifty_2 : decode b_C_thrifty 2 = .ok (.iconst 0, 1) := by decide +kernel
theorem d_C_thrifty_3 : decode b_C_thrifty 3 = .ok (.istore_n 3, 1) := by decide +kernel
theorem d_C_thrifty_4 : decode b_C_thrifty 4 = .ok (.iconst 0, 1) := by decide +kernel
theorem d_C_thrifty_5 : decode b_C_thrifty 5 = .ok (.istore 4, 2) := by decide +kernel
theorem d_C_thrifty_7 : decode b_C_thrifty 7 = .ok (.iload 4, 2) := by decide +kernel
theorem d_C_thrifty_9 : decode b_C_thrifty 9 = .ok (.sipush 256, 3) := by decide +kernel
theorem d_C_thrifty_12 : decode b_C_thrifty 12 = .ok (.if_icmp .gt 54, 3) := by decide +kernel
theorem d_C_thrifty_15 : decode b_C_thrifty 15 = .ok (.iload_n 2, 1) := by decide +kernel
theorem d_C_thrifty_16 : decode b_C_thrifty 16 = .ok (.iload_n 1, 1) := by decide +kernel
theorem d_C_thrifty_17 : decode b_C_thrifty 17 = .ok (.if_icmp .lt 18, 3) := by decide +kernel
theorem d_C_thrifty_20 : decode b_C_thrifty 20 = .ok (.iload_n 3, 1) := by decide +kernel
theorem d_C_thrifty_21 : decode b_C_thrifty 21 = .ok (.iload_n 1, 1) := by decide +kernel
theorem d_C_thrifty_22 : decode b_C_thrifty 22 = .ok (.if_icmp .ge 5, 3) := by decide +kernel
theorem d_C_thrifty_25 : decode b_C_thrifty 25 = .ok (.iload_n 3, 1) := by decide +kernel
theorem d_C_thrifty_26 : decode b_C_thrifty 26 = .ok (.ireturn, 1) := by decide +kernel
theorem d_C_thrifty_27 : decode b_C_thrifty 27 = .ok (.iload_n 2, 1) := by decide +kernel
theorem d_C_thrifty_28 : decode b_C_thrifty 28 = .ok (.iload_n 1, 1) := by decide +kernel
theorem d_C_thrifty_29 : decode b_C_thrifty 29 = .ok (.isub, 1) := by decide +kernel
theorem d_C_thrifty_30 : decode b_C_thrifty 30 = .ok (.istore_n 2, 1) := by decide +kernel
theorem d_C_thrifty_31 : decode b_C_thrifty 31 = .ok (.iload_n 3, 1) := by decide +kernel
theorem d_C_thrifty_32 : decode b_C_thrifty 32 = .ok (.iload_n 1, 1) := by decide +kernel
theorem d_C_thrifty_33 : decode b_C_thrifty 33 = .ok (.isub, 1) := by decide +kernel
theorem d_C_thrifty_34 : decode b_C_thrifty 34 = .ok (.istore_n 3, 1) := by decide +kernel
theorem d_C_thrifty_35 : decode b_C_thrifty 35 = .ok (.aload_n 0, 1) := by decide +kernel
theorem d_C_thrifty_36 : decode b_C_thrifty 36 = .ok (.invokevirtual 132, 3) := by decide +kernel
theorem d_C_thrifty_39 : decode b_C_thrifty 39 = .ok (.istore 5, 2) := by decide +kernel
theorem d_C_thrifty_41 : decode b_C_thrifty 41 = .ok (.iload 5, 2) := by decide +kernel
theorem d_C_thrifty_43 : decode b_C_thrifty 43 = .ok (.iconst (-1), 1) := by decide +kernel
theorem d_C_thrifty_44 : decode b_C_thrifty 44 = .ok (.if_icmp .ne 5, 3) := by decide +kernel
theorem d_C_thrifty_47 : decode b_C_thrifty 47 = .ok (.iconst (-1), 1) := by decide +kernel
theorem d_C_thrifty_48 : decode b_C_thrifty 48 = .ok (.ireturn, 1) := by decide +kernel
theorem d_C_thrifty_49 : decode b_C_thrifty 49 = .ok (.iconst 2, 1) := by decide +kernel
theorem d_C_thrifty_50 : decode b_C_thrifty 50 = .ok (.iload_n 2, 1) := by decide +kernel
theorem d_C_thrifty_51 : decode b_C_thrifty 51 = .ok (.imul, 1) := by decide +kernel
theorem d_C_thrifty_52 : decode b_C_thrifty 52 = .ok (.istore_n 2, 1) := by decide +kernel
theorem d_C_thrifty_53 : decode b_C_thrifty 53 = .ok (.iconst 2, 1) := by decide +kernel
theorem d_C_thrifty_54 : decode b_C_thrifty 54 = .ok (.iload_n 3, 1) := by decide +kernel
theorem d_C_thrifty_55 : decode b_C_thrifty 55 = .ok (.imul, 1) := by decide +kernel
theorem d_C_thrifty_56 : decode b_C_thrifty 56 = .ok (.iload 5, 2) := by decide +kernel
theorem d_C_thrifty_58 : decode b_C_thrifty 58 = .ok (.iadd, 1) := by decide +kernel
theorem d_C_thrifty_59 : decode b_C_thrifty 59 = .ok (.istore_n 3, 1) := by decide +kernel
theorem d_C_thrifty_60 : decode b_C_thrifty 60 = .ok (.iinc 4 1, 3) := by decide +kernel
theorem d_C_thrifty_63 : decode b_C_thrifty 63 = .ok (.goto (-56), 3) := by decide +kernel
theorem d_C_thrifty_66 : decode b_C_thrifty 66 = .ok (.iconst (-1), 1) := by decide +kernel
theorem d_C_thrifty_67 : decode b_C_thrifty 67 = .ok (.ireturn, 1) := by decide +kernel
theorem d_C_coin_0 : decode b_C_coin 0 = .ok (.iload_n 1, 1) := by decide +kernel
theorem d_C_coin_1 : decode b_C_coin 1 = .ok (.istore_n 3, 1) := by decide +kernel
theorem d_C_coin_2 : decode b_C_coin 2 = .ok (.iconst 0, 1) := by decide +kernel
theorem d_C_coin_3 : decode b_C_coin 3 = .ok (.istore 4, 2) := by decide +kernel
theorem d_C_coin_5 : decode b_C_coin 5 = .ok (.iload 4, 2) := by decide +kernel
theorem d_C_coin_7 : decode b_C_coin 7 = .ok (.sipush 256, 3) := by decide +kernel
theorem d_C_coin_10 : decode b_C_coin 10 = .ok (.if_icmp .gt 72, 3) := by decide +kernel
theorem d_C_coin_13 : decode b_C_coin 13 = .ok (.iload_n 3, 1) := by decide +kernel
theorem d_C_coin_14 : decode b_C_coin 14 = .ok (.ifCond .ne 5, 3) := by decide +kernel
theorem d_C_coin_17 : decode b_C_coin 17 = .ok (.iconst 0, 1) := by decide +kernel
theorem d_C_coin_18 : decode b_C_coin 18 = .ok (.ireturn, 1) := by decide +kernel
theorem d_C_coin_19 : decode b_C_coin 19 = .ok (.iload_n 3, 1) := by decide +kernel
theorem d_C_coin_20 : decode b_C_coin 20 = .ok (.iload_n 2, 1) := by decide +kernel
theorem d_C_coin_21 : decode b_C_coin 21 = .ok (.if_icmp .ne 5, 3) := by decide +kernel
theorem d_C_coin_24 : decode b_C_coin 24 = .ok (.iconst 1, 1) := by decide +kernel
theorem d_C_coin_25 : decode b_C_coin 25 = .ok (.ireturn, 1) := by decide +kernel
theorem d_C_coin_26 : decode b_C_coin 26 = .ok (.aload_n 0, 1) := by decide +kernel
theorem d_C_coin_27 : decode b_C_coin 27 = .ok (.invokevirtual 132, 3) := by decide +kernel
theorem d_C_coin_30 : decode b_C_coin 30 = .ok (.istore 5, 2) := by decide +kernel
theorem d_C_coin_32 : decode b_C_coin 32 = .ok (.iload 5, 2) := by decide +kernel
theorem d_C_coin_34 : decode b_C_coin 34 = .ok (.iconst (-1), 1) := by decide +kernel
theorem d_C_coin_35 : decode b_C_coin 35 = .ok (.if_icmp .ne 5, 3) := by decide +kernel
theorem d_C_coin_38 : decode b_C_coin 38 = .ok (.iconst (-1), 1) := by decide +kernel
theorem d_C_coin_39 : decode b_C_coin 39 = .ok (.ireturn, 1) := by decide +kernel
theorem d_C_coin_40 : decode b_C_coin 40 = .ok (.iconst 2, 1) := by decide +kernel
theorem d_C_coin_41 : decode b_C_coin 41 = .ok (.iload_n 3, 1) := by decide +kernel
theorem d_C_coin_42 : decode b_C_coin 42 = .ok (.imul, 1) := by decide +kernel
theorem d_C_coin_43 : decode b_C_coin 43 = .ok (.istore_n 3, 1) := by decide +kernel
theorem d_C_coin_44 : decode b_C_coin 44 = .ok (.iload_n 3, 1) := by decide +kernel
theorem d_C_coin_45 : decode b_C_coin 45 = .ok (.iload_n 2, 1) := by decide +kernel
theorem d_C_coin_46 : decode b_C_coin 46 = .ok (.if_icmp .lt 7, 3) := by decide +kernel
theorem d_C_coin_49 : decode b_C_coin 49 = .ok (.iconst 1, 1) := by decide +kernel
theorem d_C_coin_50 : decode b_C_coin 50 = .ok (.goto 4, 3) := by decide +kernel
theorem d_C_coin_53 : decode b_C_coin 53 = .ok (.iconst 0, 1) := by decide +kernel
theorem d_C_coin_54 : decode b_C_coin 54 = .ok (.istore 6, 2) := by decide +kernel
theorem d_C_coin_56 : decode b_C_coin 56 = .ok (.iload 6, 2) := by decide +kernel
theorem d_C_coin_58 : decode b_C_coin 58 = .ok (.iconst 1, 1) := by decide +kernel
theorem d_C_coin_59 : decode b_C_coin 59 = .ok (.if_icmp .ne 7, 3) := by decide +kernel
theorem d_C_coin_62 : decode b_C_coin 62 = .ok (.iload_n 3, 1) := by decide +kernel
theorem d_C_coin_63 : decode b_C_coin 63 = .ok (.iload_n 2, 1) := by decide +kernel
theorem d_C_coin_64 : decode b_C_coin 64 = .ok (.isub, 1) := by decide +kernel
theorem d_C_coin_65 : decode b_C_coin 65 = .ok (.istore_n 3, 1) := by decide +kernel
theorem d_C_coin_66 : decode b_C_coin 66 = .ok (.iload 5, 2) := by decide +kernel
theorem d_C_coin_68 : decode b_C_coin 68 = .ok (.iload 6, 2) := by decide +kernel
theorem d_C_coin_70 : decode b_C_coin 70 = .ok (.if_icmp .eq 6, 3) := by decide +kernel
theorem d_C_coin_73 : decode b_C_coin 73 = .ok (.iload 6, 2) := by decide +kernel
theorem d_C_coin_75 : decode b_C_coin 75 = .ok (.ireturn, 1) := by decide +kernel
theorem d_C_coin_76 : decode b_C_coin 76 = .ok (.iinc 4 1, 3) := by decide +kernel
theorem d_C_coin_79 : decode b_C_coin 79 = .ok (.goto (-74), 3) := by decide +kernel
theorem d_C_coin_82 : decode b_C_coin 82 = .ok (.iconst (-1), 1) := by decide +kernel
theorem d_C_coin_83 : decode b_C_coin 83 = .ok (.ireturn, 1) := by decide +kernel
theorem d_C_tosses_0 : decode b_C_tosses 0 = .ok (.iconst 0, 1) := by decide +kernel
theorem d_C_tosses_1 : decode b_C_tosses 1 = .ok (.istore_n 2, 1) := by decide +kernel
theorem d_C_tosses_2 : decode b_C_tosses 2 = .ok (.iconst 0, 1) := by decide +kernel
theorem d_C_tosses_3 : decode b_C_tosses 3 = .ok (.istore_n 3, 1) := by decide +kernel
theorem d_C_tosses_4 : decode b_C_tosses 4 = .ok (.iload_n 3, 1) := by decide +kernel
theorem d_C_tosses_5 : decode b_C_tosses 5 = .ok (.iload_n 1, 1) := by decide +kernel
theorem d_C_tosses_6 : decode b_C_tosses 6 = .ok (.if_icmp .ge 28, 3) := by decide +kernel
theorem d_C_tosses_9 : decode b_C_tosses 9 = .ok (.aload_n 0, 1) := by decide +kernel
theorem d_C_tosses_10 : decode b_C_tosses 10 = .ok (.invokevirtual 132, 3) := by decide +kernel
theorem d_C_tosses_13 : decode b_C_tosses 13 = .ok (.istore 4, 2) := by decide +kernel
theorem d_C_tosses_15 : decode b_C_tosses 15 = .ok (.iload 4, 2) := by decide +kernel
theorem d_C_tosses_17 : decode b_C_tosses 17 = .ok (.iconst (-1), 1) := by decide +kernel
theorem d_C_tosses_18 : decode b_C_tosses 18 = .ok (.if_icmp .ne 5, 3) := by decide +kernel
theorem d_C_tosses_21 : decode b_C_tosses 21 = .ok (.iconst (-1), 1) := by decide +kernel
theorem d_C_tosses_22 : decode b_C_tosses 22 = .ok (.ireturn, 1) := by decide +kernel
theorem d_C_tosses_23 : decode b_C_tosses 23 = .ok (.iload_n 2, 1) := by decide +kernel
theorem d_C_tosses_24 : decode b_C_tosses 24 = .ok (.iload 4, 2) := by decide +kernel
theorem d_C_tosses_26 : decode b_C_tosses 26 = .ok (.iadd, 1) := by decide +kernel
theorem d_C_tosses_27 : decode b_C_tosses 27 = .ok (.istore_n 2, 1) := by decide +kernel
theorem d_C_tosses_28 : decode b_C_tosses 28 = .ok (.iinc 3 1, 3) := by decide +kernel
theorem d_C_tosses_31 : decode b_C_tosses 31 = .ok (.goto (-27), 3) := by decide +kernel
theorem d_C_tosses_34 : decode b_C_tosses 34 = .ok (.iload_n 2, 1) := by decide +kernel
theorem d_C_tosses_35 : decode b_C_tosses 35 = .ok (.ireturn, 1) := by decide +kernel
theorem d_C_zerosBeforeOne_0 : decode b_C_zerosBeforeOne 0 = .ok (.iconst 0, 1) := by decide +kernel
theorem d_C_zerosBeforeOne_1 : decode b_C_zerosBeforeOne 1 = .ok (.istore_n 2, 1) := by decide +kernel
theorem d_C_zerosBeforeOne_2 : decode b_C_zerosBeforeOne 2 = .ok (.iload_n 2, 1) := by decide +kernel
theorem d_C_zerosBeforeOne_3 : decode b_C_zerosBeforeOne 3 = .ok (.iload_n 1, 1) := by decide +kernel
theorem d_C_zerosBeforeOne_4 : decode b_C_zerosBeforeOne 4 = .ok (.if_icmp .ge 28, 3) := by decide +kernel
theorem d_C_zerosBeforeOne_7 : decode b_C_zerosBeforeOne 7 = .ok (.aload_n 0, 1) := by decide +kernel
theorem d_C_zerosBeforeOne_8 : decode b_C_zerosBeforeOne 8 = .ok (.invokevirtual 132, 3) := by decide +kernel
theorem d_C_zerosBeforeOne_11 : decode b_C_zerosBeforeOne 11 = .ok (.istore_n 3, 1) := by decide +kernel
theorem d_C_zerosBeforeOne_12 : decode b_C_zerosBeforeOne 12 = .ok (.iload_n 3, 1) := by decide +kernel
theorem d_C_zerosBeforeOne_13 : decode b_C_zerosBeforeOne 13 = .ok (.iconst (-1), 1) := by decide +kernel
theorem d_C_zerosBeforeOne_14 : decode b_C_zerosBeforeOne 14 = .ok (.if_icmp .ne 5, 3) := by decide +kernel
theorem d_C_zerosBeforeOne_17 : decode b_C_zerosBeforeOne 17 = .ok (.iconst (-1), 1) := by decide +kernel
theorem d_C_zerosBeforeOne_18 : decode b_C_zerosBeforeOne 18 = .ok (.ireturn, 1) := by decide +kernel
theorem d_C_zerosBeforeOne_19 : decode b_C_zerosBeforeOne 19 = .ok (.iload_n 3, 1) := by decide +kernel
theorem d_C_zerosBeforeOne_20 : decode b_C_zerosBeforeOne 20 = .ok (.iconst 1, 1) := by decide +kernel
theorem d_C_zerosBeforeOne_21 : decode b_C_zerosBeforeOne 21 = .ok (.if_icmp .ne 5, 3) := by decide +kernel
theorem d_C_zerosBeforeOne_24 : decode b_C_zerosBeforeOne 24 = .ok (.iload_n 2, 1) := by decide +kernel
theorem d_C_zerosBeforeOne_25 : decode b_C_zerosBeforeOne 25 = .ok (.ireturn, 1) := by decide +kernel
theorem d_C_zerosBeforeOne_26 : decode b_C_zerosBeforeOne 26 = .ok (.iinc 2 1, 3) := by decide +kernel
theorem d_C_zerosBeforeOne_29 : decode b_C_zerosBeforeOne 29 = .ok (.goto (-27), 3) := by decide +kernel
theorem d_C_zerosBeforeOne_32 : decode b_C_zerosBeforeOne 32 = .ok (.iload_n 1, 1) := by decide +kernel
theorem d_C_zerosBeforeOne_33 : decode b_C_zerosBeforeOne 33 = .ok (.ireturn, 1) := by decide +kernel
theorem d_C_order_0 : decode b_C_order 0 = .ok (.iconst 0, 1) := by decide +kernel
theorem d_C_order_1 : decode b_C_order 1 = .ok (.istore_n 3, 1) := by decide +kernel
theorem d_C_order_2 : decode b_C_order 2 = .ok (.iload_n 3, 1) := by decide +kernel
theorem d_C_order_3 : decode b_C_order 3 = .ok (.iload_n 2, 1) := by decide +kernel
theorem d_C_order_4 : decode b_C_order 4 = .ok (.if_icmp .ge 16, 3) := by decide +kernel
theorem d_C_order_7 : decode b_C_order 7 = .ok (.aload_n 0, 1) := by decide +kernel
theorem d_C_order_8 : decode b_C_order 8 = .ok (.getfield 13, 3) := by decide +kernel
theorem d_C_order_11 : decode b_C_order 11 = .ok (.iload_n 3, 1) := by decide +kernel
theorem d_C_order_12 : decode b_C_order 12 = .ok (.iload_n 3, 1) := by decide +kernel
theorem d_C_order_13 : decode b_C_order 13 = .ok (.iastore, 1) := by decide +kernel
theorem d_C_order_14 : decode b_C_order 14 = .ok (.iinc 3 1, 3) := by decide +kernel
theorem d_C_order_17 : decode b_C_order 17 = .ok (.goto (-15), 3) := by decide +kernel
theorem d_C_order_20 : decode b_C_order 20 = .ok (.iload_n 2, 1) := by decide +kernel
theorem d_C_order_21 : decode b_C_order 21 = .ok (.iconst 1, 1) := by decide +kernel
theorem d_C_order_22 : decode b_C_order 22 = .ok (.isub, 1) := by decide +kernel
theorem d_C_order_23 : decode b_C_order 23 = .ok (.istore_n 3, 1) := by decide +kernel
theorem d_C_order_24 : decode b_C_order 24 = .ok (.iload_n 3, 1) := by decide +kernel
theorem d_C_order_25 : decode b_C_order 25 = .ok (.iconst 1, 1) := by decide +kernel
theorem d_C_order_26 : decode b_C_order 26 = .ok (.if_icmp .lt 56, 3) := by decide +kernel
theorem d_C_order_29 : decode b_C_order 29 = .ok (.aload_n 1, 1) := by decide +kernel
theorem d_C_order_30 : decode b_C_order 30 = .ok (.iload_n 3, 1) := by decide +kernel
theorem d_C_order_31 : decode b_C_order 31 = .ok (.iconst 1, 1) := by decide +kernel
theorem d_C_order_32 : decode b_C_order 32 = .ok (.iadd, 1) := by decide +kernel
theorem d_C_order_33 : decode b_C_order 33 = .ok (.invokestatic 98, 3) := by decide +kernel
theorem d_C_order_36 : decode b_C_order 36 = .ok (.istore 4, 2) := by decide +kernel
theorem d_C_order_38 : decode b_C_order 38 = .ok (.iload 4, 2) := by decide +kernel
theorem d_C_order_40 : decode b_C_order 40 = .ok (.iconst (-1), 1) := by decide +kernel
theorem d_C_order_41 : decode b_C_order 41 = .ok (.if_icmp .ne 5, 3) := by decide +kernel
theorem d_C_order_44 : decode b_C_order 44 = .ok (.iconst (-1), 1) := by decide +kernel
theorem d_C_order_45 : decode b_C_order 45 = .ok (.ireturn, 1) := by decide +kernel
theorem d_C_order_46 : decode b_C_order 46 = .ok (.aload_n 0, 1) := by decide +kernel
theorem d_C_order_47 : decode b_C_order 47 = .ok (.getfield 13, 3) := by decide +kernel
theorem d_C_order_50 : decode b_C_order 50 = .ok (.iload_n 3, 1) := by decide +kernel
theorem d_C_order_51 : decode b_C_order 51 = .ok (.iaload, 1) := by decide +kernel
theorem d_C_order_52 : decode b_C_order 52 = .ok (.istore 5, 2) := by decide +kernel
theorem d_C_order_54 : decode b_C_order 54 = .ok (.aload_n 0, 1) := by decide +kernel
theorem d_C_order_55 : decode b_C_order 55 = .ok (.getfield 13, 3) := by decide +kernel
theorem d_C_order_58 : decode b_C_order 58 = .ok (.iload_n 3, 1) := by decide +kernel
theorem d_C_order_59 : decode b_C_order 59 = .ok (.aload_n 0, 1) := by decide +kernel
theorem d_C_order_60 : decode b_C_order 60 = .ok (.getfield 13, 3) := by decide +kernel
theorem d_C_order_63 : decode b_C_order 63 = .ok (.iload 4, 2) := by decide +kernel
theorem d_C_order_65 : decode b_C_order 65 = .ok (.iaload, 1) := by decide +kernel
theorem d_C_order_66 : decode b_C_order 66 = .ok (.iastore, 1) := by decide +kernel
theorem d_C_order_67 : decode b_C_order 67 = .ok (.aload_n 0, 1) := by decide +kernel
theorem d_C_order_68 : decode b_C_order 68 = .ok (.getfield 13, 3) := by decide +kernel
theorem d_C_order_71 : decode b_C_order 71 = .ok (.iload 4, 2) := by decide +kernel
theorem d_C_order_73 : decode b_C_order 73 = .ok (.iload 5, 2) := by decide +kernel
theorem d_C_order_75 : decode b_C_order 75 = .ok (.iastore, 1) := by decide +kernel
theorem d_C_order_76 : decode b_C_order 76 = .ok (.iinc 3 (-1), 3) := by decide +kernel
theorem d_C_order_79 : decode b_C_order 79 = .ok (.goto (-55), 3) := by decide +kernel
theorem d_C_order_82 : decode b_C_order 82 = .ok (.aload_n 0, 1) := by decide +kernel
theorem d_C_order_83 : decode b_C_order 83 = .ok (.iload_n 2, 1) := by decide +kernel
theorem d_C_order_84 : decode b_C_order 84 = .ok (.invokevirtual 135, 3) := by decide +kernel
theorem d_C_order_87 : decode b_C_order 87 = .ok (.ireturn, 1) := by decide +kernel
theorem d_C_ordersBeforeRow_0 : decode b_C_ordersBeforeRow 0 = .ok (.iconst 0, 1) := by decide +kernel
theorem d_C_ordersBeforeRow_1 : decode b_C_ordersBeforeRow 1 = .ok (.istore_n 2, 1) := by decide +kernel
theorem d_C_ordersBeforeRow_2 : decode b_C_ordersBeforeRow 2 = .ok (.iconst 0, 1) := by decide +kernel
theorem d_C_ordersBeforeRow_3 : decode b_C_ordersBeforeRow 3 = .ok (.istore_n 3, 1) := by decide +kernel
theorem d_C_ordersBeforeRow_4 : decode b_C_ordersBeforeRow 4 = .ok (.iload_n 3, 1) := by decide +kernel
theorem d_C_ordersBeforeRow_5 : decode b_C_ordersBeforeRow 5 = .ok (.iload_n 1, 1) := by decide +kernel
theorem d_C_ordersBeforeRow_6 : decode b_C_ordersBeforeRow 6 = .ok (.if_icmp .ge 57, 3) := by decide +kernel
theorem d_C_ordersBeforeRow_9 : decode b_C_ordersBeforeRow 9 = .ok (.iconst 0, 1) := by decide +kernel
theorem d_C_ordersBeforeRow_10 : decode b_C_ordersBeforeRow 10 = .ok (.istore 4, 2) := by decide +kernel
theorem d_C_ordersBeforeRow_12 : decode b_C_ordersBeforeRow 12 = .ok (.iload_n 3, 1) := by decide +kernel
theorem d_C_ordersBeforeRow_13 : decode b_C_ordersBeforeRow 13 = .ok (.iconst 1, 1) := by decide +kernel
theorem d_C_ordersBeforeRow_14 : decode b_C_ordersBeforeRow 14 = .ok (.iadd, 1) := by decide +kernel
theorem d_C_ordersBeforeRow_15 : decode b_C_ordersBeforeRow 15 = .ok (.istore 5, 2) := by decide +kernel
theorem d_C_ordersBeforeRow_17 : decode b_C_ordersBeforeRow 17 = .ok (.iload 5, 2) := by decide +kernel
theorem d_C_ordersBeforeRow_19 : decode b_C_ordersBeforeRow 19 = .ok (.iload_n 1, 1) := by decide +kernel
theorem d_C_ordersBeforeRow_20 : decode b_C_ordersBeforeRow 20 = .ok (.if_icmp .ge 28, 3) := by decide +kernel
theorem d_C_ordersBeforeRow_23 : decode b_C_ordersBeforeRow 23 = .ok (.aload_n 0, 1) := by decide +kernel
theorem d_C_ordersBeforeRow_24 : decode b_C_ordersBeforeRow 24 = .ok (.getfield 13, 3) := by decide +kernel
theorem d_C_ordersBeforeRow_27 : decode b_C_ordersBeforeRow 27 = .ok (.iload 5, 2) := by decide +kernel
theorem d_C_ordersBeforeRow_29 : decode b_C_ordersBeforeRow 29 = .ok (.iaload, 1) := by decide +kernel
theorem d_C_ordersBeforeRow_30 : decode b_C_ordersBeforeRow 30 = .ok (.aload_n 0, 1) := by decide +kernel
theorem d_C_ordersBeforeRow_31 : decode b_C_ordersBeforeRow 31 = .ok (.getfield 13, 3) := by decide +kernel
theorem d_C_ordersBeforeRow_34 : decode b_C_ordersBeforeRow 34 = .ok (.iload_n 3, 1) := by decide +kernel
theorem d_C_ordersBeforeRow_35 : decode b_C_ordersBeforeRow 35 = .ok (.iaload, 1) := by decide +kernel
theorem d_C_ordersBeforeRow_36 : decode b_C_ordersBeforeRow 36 = .ok (.if_icmp .ge 6, 3) := by decide +kernel
theorem d_C_ordersBeforeRow_39 : decode b_C_ordersBeforeRow 39 = .ok (.iinc 4 1, 3) := by decide +kernel
theorem d_C_ordersBeforeRow_42 : decode b_C_ordersBeforeRow 42 = .ok (.iinc 5 1, 3) := by decide +kernel
theorem d_C_ordersBeforeRow_45 : decode b_C_ordersBeforeRow 45 = .ok (.goto (-28), 3) := by decide +kernel
theorem d_C_ordersBeforeRow_48 : decode b_C_ordersBeforeRow 48 = .ok (.iload_n 2, 1) := by decide +kernel
theorem d_C_ordersBeforeRow_49 : decode b_C_ordersBeforeRow 49 = .ok (.iload_n 1, 1) := by decide +kernel
theorem d_C_ordersBeforeRow_50 : decode b_C_ordersBeforeRow 50 = .ok (.iload_n 3, 1) := by decide +kernel
theorem d_C_ordersBeforeRow_51 : decode b_C_ordersBeforeRow 51 = .ok (.isub, 1) := by decide +kernel
theorem d_C_ordersBeforeRow_52 : decode b_C_ordersBeforeRow 52 = .ok (.imul, 1) := by decide +kernel
theorem d_C_ordersBeforeRow_53 : decode b_C_ordersBeforeRow 53 = .ok (.iload 4, 2) := by decide +kernel
theorem d_C_ordersBeforeRow_55 : decode b_C_ordersBeforeRow 55 = .ok (.iadd, 1) := by decide +kernel
theorem d_C_ordersBeforeRow_56 : decode b_C_ordersBeforeRow 56 = .ok (.istore_n 2, 1) := by decide +kernel
theorem d_C_ordersBeforeRow_57 : decode b_C_ordersBeforeRow 57 = .ok (.iinc 3 1, 3) := by decide +kernel
theorem d_C_ordersBeforeRow_60 : decode b_C_ordersBeforeRow 60 = .ok (.goto (-56), 3) := by decide +kernel
theorem d_C_ordersBeforeRow_63 : decode b_C_ordersBeforeRow 63 = .ok (.iload_n 2, 1) := by decide +kernel
theorem d_C_ordersBeforeRow_64 : decode b_C_ordersBeforeRow 64 = .ok (.ireturn, 1) := by decide +kernel
theorem d_C_choice_0 : decode b_C_choice 0 = .ok (.iconst 0, 1) := by decide +kernel
theorem d_C_choice_1 : decode b_C_choice 1 = .ok (.istore_n 3, 1) := by decide +kernel
theorem d_C_choice_2 : decode b_C_choice 2 = .ok (.iconst 0, 1) := by decide +kernel
theorem d_C_choice_3 : decode b_C_choice 3 = .ok (.istore 4, 2) := by decide +kernel
theorem d_C_choice_5 : decode b_C_choice 5 = .ok (.iconst 0, 1) := by decide +kernel
theorem d_C_choice_6 : decode b_C_choice 6 = .ok (.istore 5, 2) := by decide +kernel
theorem d_C_choice_8 : decode b_C_choice 8 = .ok (.iload 5, 2) := by decide +kernel
theorem d_C_choice_10 : decode b_C_choice 10 = .ok (.iload_n 1, 1) := by decide +kernel
theorem d_C_choice_11 : decode b_C_choice 11 = .ok (.if_icmp .ge 45, 3) := by decide +kernel
theorem d_C_choice_14 : decode b_C_choice 14 = .ok (.aload_n 0, 1) := by decide +kernel
theorem d_C_choice_15 : decode b_C_choice 15 = .ok (.iload_n 2, 1) := by decide +kernel
theorem d_C_choice_16 : decode b_C_choice 16 = .ok (.iload_n 3, 1) := by decide +kernel
theorem d_C_choice_17 : decode b_C_choice 17 = .ok (.isub, 1) := by decide +kernel
theorem d_C_choice_18 : decode b_C_choice 18 = .ok (.iload_n 1, 1) := by decide +kernel
theorem d_C_choice_19 : decode b_C_choice 19 = .ok (.iload 5, 2) := by decide +kernel
theorem d_C_choice_21 : decode b_C_choice 21 = .ok (.isub, 1) := by decide +kernel
theorem d_C_choice_22 : decode b_C_choice 22 = .ok (.invokestatic 105, 3) := by decide +kernel
theorem d_C_choice_25 : decode b_C_choice 25 = .ok (.istore 6, 2) := by decide +kernel
theorem d_C_choice_27 : decode b_C_choice 27 = .ok (.iload 6, 2) := by decide +kernel
theorem d_C_choice_29 : decode b_C_choice 29 = .ok (.iconst (-1), 1) := by decide +kernel
theorem d_C_choice_30 : decode b_C_choice 30 = .ok (.if_icmp .ne 5, 3) := by decide +kernel
theorem d_C_choice_33 : decode b_C_choice 33 = .ok (.iconst (-1), 1) := by decide +kernel
theorem d_C_choice_34 : decode b_C_choice 34 = .ok (.ireturn, 1) := by decide +kernel
theorem d_C_choice_35 : decode b_C_choice 35 = .ok (.iload_n 3, 1) := by decide +kernel
theorem d_C_choice_36 : decode b_C_choice 36 = .ok (.iload 6, 2) := by decide +kernel
theorem d_C_choice_38 : decode b_C_choice 38 = .ok (.iadd, 1) := by decide +kernel
theorem d_C_choice_39 : decode b_C_choice 39 = .ok (.istore_n 3, 1) := by decide +kernel
theorem d_C_choice_40 : decode b_C_choice 40 = .ok (.iload 4, 2) := by decide +kernel
theorem d_C_choice_42 : decode b_C_choice 42 = .ok (.iload 6, 2) := by decide +kernel
theorem d_C_choice_44 : decode b_C_choice 44 = .ok (.iload 5, 2) := by decide +kernel
theorem d_C_choice_46 : decode b_C_choice 46 = .ok (.ishl, 1) := by decide +kernel
theorem d_C_choice_47 : decode b_C_choice 47 = .ok (.ior, 1) := by decide +kernel
theorem d_C_choice_48 : decode b_C_choice 48 = .ok (.istore 4, 2) := by decide +kernel
theorem d_C_choice_50 : decode b_C_choice 50 = .ok (.iinc 5 1, 3) := by decide +kernel
theorem d_C_choice_53 : decode b_C_choice 53 = .ok (.goto (-45), 3) := by decide +kernel
theorem d_C_choice_56 : decode b_C_choice 56 = .ok (.iload 4, 2) := by decide +kernel
theorem d_C_choice_58 : decode b_C_choice 58 = .ok (.ireturn, 1) := by decide +kernel
theorem d_C_share_0 : decode b_C_share 0 = .ok (.aload_n 1, 1) := by decide +kernel
theorem d_C_share_1 : decode b_C_share 1 = .ok (.aload_n 0, 1) := by decide +kernel
theorem d_C_share_2 : decode b_C_share 2 = .ok (.invokevirtual 51, 3) := by decide +kernel
theorem d_C_share_5 : decode b_C_share 5 = .ok (.invokestatic 98, 3) := by decide +kernel
theorem d_C_share_8 : decode b_C_share 8 = .ok (.istore_n 2, 1) := by decide +kernel
theorem d_C_share_9 : decode b_C_share 9 = .ok (.iload_n 2, 1) := by decide +kernel
theorem d_C_share_10 : decode b_C_share 10 = .ok (.iconst (-1), 1) := by decide +kernel
theorem d_C_share_11 : decode b_C_share 11 = .ok (.if_icmp .ne 5, 3) := by decide +kernel
theorem d_C_share_14 : decode b_C_share 14 = .ok (.iconst (-1), 1) := by decide +kernel
theorem d_C_share_15 : decode b_C_share 15 = .ok (.ireturn, 1) := by decide +kernel
theorem d_C_share_16 : decode b_C_share 16 = .ok (.iconst 0, 1) := by decide +kernel
theorem d_C_share_17 : decode b_C_share 17 = .ok (.istore_n 3, 1) := by decide +kernel
theorem d_C_share_18 : decode b_C_share 18 = .ok (.iconst 0, 1) := by decide +kernel
theorem d_C_share_19 : decode b_C_share 19 = .ok (.istore 4, 2) := by decide +kernel
theorem d_C_share_21 : decode b_C_share 21 = .ok (.iload 4, 2) := by decide +kernel
theorem d_C_share_23 : decode b_C_share 23 = .ok (.bipush 8, 2) := by decide +kernel
theorem d_C_share_25 : decode b_C_share 25 = .ok (.if_icmp .ge 27, 3) := by decide +kernel
theorem d_C_share_28 : decode b_C_share 28 = .ok (.iload_n 3, 1) := by decide +kernel
theorem d_C_share_29 : decode b_C_share 29 = .ok (.aload_n 0, 1) := by decide +kernel
theorem d_C_share_30 : decode b_C_share 30 = .ok (.getfield 9, 3) := by decide +kernel
theorem d_C_share_33 : decode b_C_share 33 = .ok (.iload 4, 2) := by decide +kernel
theorem d_C_share_35 : decode b_C_share 35 = .ok (.iaload, 1) := by decide +kernel
theorem d_C_share_36 : decode b_C_share 36 = .ok (.iadd, 1) := by decide +kernel
theorem d_C_share_37 : decode b_C_share 37 = .ok (.istore_n 3, 1) := by decide +kernel
theorem d_C_share_38 : decode b_C_share 38 = .ok (.iload_n 3, 1) := by decide +kernel
theorem d_C_share_39 : decode b_C_share 39 = .ok (.iload_n 2, 1) := by decide +kernel
theorem d_C_share_40 : decode b_C_share 40 = .ok (.if_icmp .le 6, 3) := by decide +kernel
theorem d_C_share_43 : decode b_C_share 43 = .ok (.iload 4, 2) := by decide +kernel
theorem d_C_share_45 : decode b_C_share 45 = .ok (.ireturn, 1) := by decide +kernel
theorem d_C_share_46 : decode b_C_share 46 = .ok (.iinc 4 1, 3) := by decide +kernel
theorem d_C_share_49 : decode b_C_share 49 = .ok (.goto (-28), 3) := by decide +kernel
theorem d_C_share_52 : decode b_C_share 52 = .ok (.iconst (-1), 1) := by decide +kernel
theorem d_C_share_53 : decode b_C_share 53 = .ok (.ireturn, 1) := by decide +kernel
end
section
theorem d_L_law_0 : decode b_L_law 0 = .ok (.new 7, 3) := by decide +kernel
theorem d_L_law_3 : decode b_L_law 3 = .ok (.dup, 1) := by decide +kernel
theorem d_L_law_4 : decode b_L_law 4 = .ok (.invokespecial 9, 3) := by decide +kernel
theorem d_L_law_7 : decode b_L_law 7 = .ok (.astore_n 1, 1) := by decide +kernel
theorem d_L_law_8 : decode b_L_law 8 = .ok (.new 10, 3) := by decide +kernel
theorem d_L_law_11 : decode b_L_law 11 = .ok (.dup, 1) := by decide +kernel
theorem d_L_law_12 : decode b_L_law 12 = .ok (.invokespecial 12, 3) := by decide +kernel
theorem d_L_law_15 : decode b_L_law 15 = .ok (.astore_n 2, 1) := by decide +kernel
theorem d_L_law_16 : decode b_L_law 16 = .ok (.iconst 0, 1) := by decide +kernel
theorem d_L_law_17 : decode b_L_law 17 = .ok (.istore_n 3, 1) := by decide +kernel
theorem d_L_law_18 : decode b_L_law 18 = .ok (.iload_n 3, 1) := by decide +kernel
theorem d_L_law_19 : decode b_L_law 19 = .ok (.aload_n 0, 1) := by decide +kernel
theorem d_L_law_20 : decode b_L_law 20 = .ok (.arraylength, 1) := by decide +kernel
theorem d_L_law_21 : decode b_L_law 21 = .ok (.bipush 6, 2) := by decide +kernel
theorem d_L_law_23 : decode b_L_law 23 = .ok (.isub, 1) := by decide +kernel
theorem d_L_law_24 : decode b_L_law 24 = .ok (.if_icmp .gt 497, 3) := by decide +kernel
theorem d_L_law_27 : decode b_L_law 27 = .ok (.aload_n 0, 1) := by decide +kernel
theorem d_L_law_28 : decode b_L_law 28 = .ok (.iload_n 3, 1) := by decide +kernel
theorem d_L_law_29 : decode b_L_law 29 = .ok (.iaload, 1) := by decide +kernel
theorem d_L_law_30 : decode b_L_law 30 = .ok (.bipush 15, 2) := by decide +kernel
theorem d_L_law_32 : decode b_L_law 32 = .ok (.iand, 1) := by decide +kernel
theorem d_L_law_33 : decode b_L_law 33 = .ok (.tableswitch 482 0 10 #[59, 92, 115, 148, 161, 204, 247, 260, 323, 376, 429], 59) := by decide +kernel
theorem d_L_law_92 : decode b_L_law 92 = .ok (.aload_n 1, 1) := by decide +kernel
theorem d_L_law_93 : decode b_L_law 93 = .ok (.aload_n 0, 1) := by decide +kernel
theorem d_L_law_94 : decode b_L_law 94 = .ok (.iload_n 3, 1) := by decide +kernel
theorem d_L_law_95 : decode b_L_law 95 = .ok (.iconst 1, 1) := by decide +kernel
theorem d_L_law_96 : decode b_L_law 96 = .ok (.iadd, 1) := by decide +kernel
theorem d_L_law_97 : decode b_L_law 97 = .ok (.iaload, 1) := by decide +kernel
theorem d_L_law_98 : decode b_L_law 98 = .ok (.aload_n 0, 1) := by decide +kernel
theorem d_L_law_99 : decode b_L_law 99 = .ok (.iload_n 3, 1) := by decide +kernel
theorem d_L_law_100 : decode b_L_law 100 = .ok (.iconst 2, 1) := by decide +kernel
theorem d_L_law_101 : decode b_L_law 101 = .ok (.iadd, 1) := by decide +kernel
theorem d_L_law_102 : decode b_L_law 102 = .ok (.iaload, 1) := by decide +kernel
theorem d_L_law_103 : decode b_L_law 103 = .ok (.invokevirtual 13, 3) := by decide +kernel
theorem d_L_law_106 : decode b_L_law 106 = .ok (.aload_n 2, 1) := by decide +kernel
theorem d_L_law_107 : decode b_L_law 107 = .ok (.aload_n 0, 1) := by decide +kernel
theorem d_L_law_108 : decode b_L_law 108 = .ok (.iload_n 3, 1) := by decide +kernel
theorem d_L_law_109 : decode b_L_law 109 = .ok (.iconst 1, 1) := by decide +kernel
theorem d_L_law_110 : decode b_L_law 110 = .ok (.iadd, 1) := by decide +kernel
theorem d_L_law_111 : decode b_L_law 111 = .ok (.iaload, 1) := by decide +kernel
theorem d_L_law_112 : decode b_L_law 112 = .ok (.aload_n 0, 1) := by decide +kernel
theorem d_L_law_113 : decode b_L_law 113 = .ok (.iload_n 3, 1) := by decide +kernel
theorem d_L_law_114 : decode b_L_law 114 = .ok (.iconst 2, 1) := by decide +kernel
theorem d_L_law_115 : decode b_L_law 115 = .ok (.iadd, 1) := by decide +kernel
theorem d_L_law_116 : decode b_L_law 116 = .ok (.iaload, 1) := by decide +kernel
theorem d_L_law_117 : decode b_L_law 117 = .ok (.invokevirtual 17, 3) := by decide +kernel
theorem d_L_law_120 : decode b_L_law 120 = .ok (.if_icmp .eq 395, 3) := by decide +kernel
theorem d_L_law_123 : decode b_L_law 123 = .ok (.iconst 0, 1) := by decide +kernel
theorem d_L_law_124 : decode b_L_law 124 = .ok (.ireturn, 1) := by decide +kernel
theorem d_L_law_125 : decode b_L_law 125 = .ok (.aload_n 1, 1) := by decide +kernel
theorem d_L_law_126 : decode b_L_law 126 = .ok (.aload_n 0, 1) := by decide +kernel
theorem d_L_law_127 : decode b_L_law 127 = .ok (.iload_n 3, 1) := by decide +kernel
theorem d_L_law_128 : decode b_L_law 128 = .ok (.iconst 1, 1) := by decide +kernel
theorem d_L_law_129 : decode b_L_law 129 = .ok (.iadd, 1) := by decide +kernel
theorem d_L_law_130 : decode b_L_law 130 = .ok (.iaload, 1) := by decide +kernel
theorem d_L_law_131 : decode b_L_law 131 = .ok (.invokevirtual 18, 3) := by decide +kernel
theorem d_L_law_134 : decode b_L_law 134 = .ok (.aload_n 2, 1) := by decide +kernel
theorem d_L_law_135 : decode b_L_law 135 = .ok (.aload_n 0, 1) := by decide +kernel
theorem d_L_law_136 : decode b_L_law 136 = .ok (.iload_n 3, 1) := by decide +kernel
theorem d_L_law_137 : decode b_L_law 137 = .ok (.iconst 1, 1) := by decide +kernel
theorem d_L_law_138 : decode b_L_law 138 = .ok (.iadd, 1) := by decide +kernel
theorem d_L_law_139 : decode b_L_law 139 = .ok (.iaload, 1) := by decide +kernel
theorem d_L_law_140 : decode b_L_law 140 = .ok (.invokevirtual 22, 3) := by decide +kernel
theorem d_L_law_143 : decode b_L_law 143 = .ok (.if_icmp .eq 372, 3) := by decide +kernel
theorem d_L_law_146 : decode b_L_law 146 = .ok (.iconst 0, 1) := by decide +kernel
theorem d_L_law_147 : decode b_L_law 147 = .ok (.ireturn, 1) := by decide +kernel
theorem d_L_law_148 : decode b_L_law 148 = .ok (.aload_n 1, 1) := by decide +kernel
theorem d_L_law_149 : decode b_L_law 149 = .ok (.aload_n 0, 1) := by decide +kernel
theorem d_L_law_150 : decode b_L_law 150 = .ok (.iload_n 3, 1) := by decide +kernel
theorem d_L_law_151 : decode b_L_law 151 = .ok (.iconst 1, 1) := by decide +kernel
theorem d_L_law_152 : decode b_L_law 152 = .ok (.iadd, 1) := by decide +kernel
theorem d_L_law_153 : decode b_L_law 153 = .ok (.iaload, 1) := by decide +kernel
theorem d_L_law_154 : decode b_L_law 154 = .ok (.aload_n 0, 1) := by decide +kernel
theorem d_L_law_155 : decode b_L_law 155 = .ok (.iload_n 3, 1) := by decide +kernel
theorem d_L_law_156 : decode b_L_law 156 = .ok (.iconst 2, 1) := by decide +kernel
theorem d_L_law_157 : decode b_L_law 157 = .ok (.iadd, 1) := by decide +kernel
theorem d_L_law_158 : decode b_L_law 158 = .ok (.iaload, 1) := by decide +kernel
theorem d_L_law_159 : decode b_L_law 159 = .ok (.invokevirtual 23, 3) := by decide +kernel
theorem d_L_law_162 : decode b_L_law 162 = .ok (.aload_n 2, 1) := by decide +kernel
theorem d_L_law_163 : decode b_L_law 163 = .ok (.aload_n 0, 1) := by decide +kernel
theorem d_L_law_164 : decode b_L_law 164 = .ok (.iload_n 3, 1) := by decide +kernel
theorem d_L_law_165 : decode b_L_law 165 = .ok (.iconst 1, 1) := by decide +kernel
theorem d_L_law_166 : decode b_L_law 166 = .ok (.iadd, 1) := by decide +kernel
theorem d_L_law_167 : decode b_L_law 167 = .ok (.iaload, 1) := by decide +kernel
theorem d_L_law_168 : decode b_L_law 168 = .ok (.aload_n 0, 1) := by decide +kernel
theorem d_L_law_169 : decode b_L_law 169 = .ok (.iload_n 3, 1) := by decide +kernel
theorem d_L_law_170 : decode b_L_law 170 = .ok (.iconst 2, 1) := by decide +kernel
theorem d_L_law_171 : decode b_L_law 171 = .ok (.iadd, 1) := by decide +kernel
theorem d_L_law_172 : decode b_L_law 172 = .ok (.iaload, 1) := by decide +kernel
theorem d_L_law_173 : decode b_L_law 173 = .ok (.invokevirtual 27, 3) := by decide +kernel
theorem d_L_law_176 : decode b_L_law 176 = .ok (.if_icmp .eq 339, 3) := by decide +kernel
theorem d_L_law_179 : decode b_L_law 179 = .ok (.iconst 0, 1) := by decide +kernel
theorem d_L_law_180 : decode b_L_law 180 = .ok (.ireturn, 1) := by decide +kernel
theorem d_L_law_181 : decode b_L_law 181 = .ok (.aload_n 1, 1) := by decide +kernel
theorem d_L_law_182 : decode b_L_law 182 = .ok (.invokevirtual 28, 3) := by decide +kernel
theorem d_L_law_185 : decode b_L_law 185 = .ok (.aload_n 2, 1) := by decide +kernel
theorem d_L_law_186 : decode b_L_law 186 = .ok (.invokevirtual 32, 3) := by decide +kernel
theorem d_L_law_189 : decode b_L_law 189 = .ok (.if_icmp .eq 326, 3) := by decide +kernel
theorem d_L_law_192 : decode b_L_law 192 = .ok (.iconst 0, 1) := by decide +kernel
theorem d_L_law_193 : decode b_L_law 193 = .ok (.ireturn, 1) := by decide +kernel
theorem d_L_law_194 : decode b_L_law 194 = .ok (.aload_n 1, 1) := by decide +kernel
theorem d_L_law_195 : decode b_L_law 195 = .ok (.aload_n 0, 1) := by decide +kernel
theorem d_L_law_196 : decode b_L_law 196 = .ok (.iload_n 3, 1) := by decide +kernel
theorem d_L_law_197 : decode b_L_law 197 = .ok (.iconst 1, 1) := by decide +kernel
theorem d_L_law_198 : decode b_L_law 198 = .ok (.iadd, 1) := by decide +kernel
theorem d_L_law_199 : decode b_L_law 199 = .ok (.iaload, 1) := by decide +kernel
theorem d_L_law_200 : decode b_L_law 200 = .ok (.aload_n 0, 1) := by decide +kernel
theorem d_L_law_201 : decode b_L_law 201 = .ok (.iload_n 3, 1) := by decide +kernel
theorem d_L_law_202 : decode b_L_law 202 = .ok (.iconst 2, 1) := by decide +kernel
theorem d_L_law_203 : decode b_L_law 203 = .ok (.iadd, 1) := by decide +kernel
theorem d_L_law_204 : decode b_L_law 204 = .ok (.iaload, 1) := by decide +kernel
theorem d_L_law_205 : decode b_L_law 205 = .ok (.aload_n 0, 1) := by decide +kernel
theorem d_L_law_206 : decode b_L_law 206 = .ok (.iload_n 3, 1) := by decide +kernel
theorem d_L_law_207 : decode b_L_law 207 = .ok (.iconst 3, 1) := by decide +kernel
theorem d_L_law_208 : decode b_L_law 208 = .ok (.iadd, 1) := by decide +kernel
theorem d_L_law_209 : decode b_L_law 209 = .ok (.iaload, 1) := by decide +kernel
theorem d_L_law_210 : decode b_L_law 210 = .ok (.invokevirtual 33, 3) := by decide +kernel
theorem d_L_law_213 : decode b_L_law 213 = .ok (.aload_n 2, 1) := by decide +kernel
theorem d_L_law_214 : decode b_L_law 214 = .ok (.aload_n 0, 1) := by decide +kernel
theorem d_L_law_215 : decode b_L_law 215 = .ok (.iload_n 3, 1) := by decide +kernel
theorem d_L_law_216 : decode b_L_law 216 = .ok (.iconst 1, 1) := by decide +kernel
theorem d_L_law_217 : decode b_L_law 217 = .ok (.iadd, 1) := by decide +kernel
theorem d_L_law_218 : decode b_L_law 218 = .ok (.iaload, 1) := by decide +kernel
theorem d_L_law_219 : decode b_L_law 219 = .ok (.aload_n 0, 1) := by decide +kernel
theorem d_L_law_220 : decode b_L_law 220 = .ok (.iload_n 3, 1) := by decide +kernel
theorem d_L_law_221 : decode b_L_law 221 = .ok (.iconst 2, 1) := by decide +kernel
theorem d_L_law_222 : decode b_L_law 222 = .ok (.iadd, 1) := by decide +kernel
theorem d_L_law_223 : decode b_L_law 223 = .ok (.iaload, 1) := by decide +kernel
theorem d_L_law_224 : decode b_L_law 224 = .ok (.aload_n 0, 1) := by decide +kernel
theorem d_L_law_225 : decode b_L_law 225 = .ok (.iload_n 3, 1) := by decide +kernel
theorem d_L_law_226 : decode b_L_law 226 = .ok (.iconst 3, 1) := by decide +kernel
theorem d_L_law_227 : decode b_L_law 227 = .ok (.iadd, 1) := by decide +kernel
theorem d_L_law_228 : decode b_L_law 228 = .ok (.iaload, 1) := by decide +kernel
theorem d_L_law_229 : decode b_L_law 229 = .ok (.invokevirtual 37, 3) := by decide +kernel
theorem d_L_law_232 : decode b_L_law 232 = .ok (.if_icmp .eq 283, 3) := by decide +kernel
theorem d_L_law_235 : decode b_L_law 235 = .ok (.iconst 0, 1) := by decide +kernel
theorem d_L_law_236 : decode b_L_law 236 = .ok (.ireturn, 1) := by decide +kernel
theorem d_L_law_237 : decode b_L_law 237 = .ok (.aload_n 1, 1) := by decide +kernel
theorem d_L_law_238 : decode b_L_law 238 = .ok (.aload_n 0, 1) := by decide +kernel
theorem d_L_law_239 : decode b_L_law 239 = .ok (.iload_n 3, 1) := by decide +kernel
theorem d_L_law_240 : decode b_L_law 240 = .ok (.iconst 1, 1) := by decide +kernel
theorem d_L_law_241 : decode b_L_law 241 = .ok (.iadd, 1) := by decide +kernel
theorem d_L_law_242 : decode b_L_law 242 = .ok (.iaload, 1) := by decide +kernel
theorem d_L_law_243 : decode b_L_law 243 = .ok (.aload_n 0, 1) := by decide +kernel
theorem d_L_law_244 : decode b_L_law 244 = .ok (.iload_n 3, 1) := by decide +kernel
theorem d_L_law_245 : decode b_L_law 245 = .ok (.iconst 2, 1) := by decide +kernel
theorem d_L_law_246 : decode b_L_law 246 = .ok (.iadd, 1) := by decide +kernel
theorem d_L_law_247 : decode b_L_law 247 = .ok (.iaload, 1) := by decide +kernel
theorem d_L_law_248 : decode b_L_law 248 = .ok (.aload_n 0, 1) := by decide +kernel
theorem d_L_law_249 : decode b_L_law 249 = .ok (.iload_n 3, 1) := by decide +kernel
theorem d_L_law_250 : decode b_L_law 250 = .ok (.iconst 3, 1) := by decide +kernel
theorem d_L_law_251 : decode b_L_law 251 = .ok (.iadd, 1) := by decide +kernel
theorem d_L_law_252 : decode b_L_law 252 = .ok (.iaload, 1) := by decide +kernel
theorem d_L_law_253 : decode b_L_law 253 = .ok (.invokevirtual 38, 3) := by decide +kernel
theorem d_L_law_256 : decode b_L_law 256 = .ok (.aload_n 2, 1) := by decide +kernel
theorem d_L_law_257 : decode b_L_law 257 = .ok (.aload_n 0, 1) := by decide +kernel
theorem d_L_law_258 : decode b_L_law 258 = .ok (.iload_n 3, 1) := by decide +kernel
theorem d_L_law_259 : decode b_L_law 259 = .ok (.iconst 1, 1) := by decide +kernel
theorem d_L_law_260 : decode b_L_law 260 = .ok (.iadd, 1) := by decide +kernel
theorem d_L_law_261 : decode b_L_law 261 = .ok (.iaload, 1) := by decide +kernel
theorem d_L_law_262 : decode b_L_law 262 = .ok (.aload_n 0, 1) := by decide +kernel
theorem d_L_law_263 : decode b_L_law 263 = .ok (.iload_n 3, 1) := by decide +kernel
theorem d_L_law_264 : decode b_L_law 264 = .ok (.iconst 2, 1) := by decide +kernel
theorem d_L_law_265 : decode b_L_law 265 = .ok (.iadd, 1) := by decide +kernel
theorem d_L_law_266 : decode b_L_law 266 = .ok (.iaload, 1) := by decide +kernel
theorem d_L_law_267 : decode b_L_law 267 = .ok (.aload_n 0, 1) := by decide +kernel
theorem d_L_law_268 : decode b_L_law 268 = .ok (.iload_n 3, 1) := by decide +kernel
theorem d_L_law_269 : decode b_L_law 269 = .ok (.iconst 3, 1) := by decide +kernel
theorem d_L_law_270 : decode b_L_law 270 = .ok (.iadd, 1) := by decide +kernel
theorem d_L_law_271 : decode b_L_law 271 = .ok (.iaload, 1) := by decide +kernel
theorem d_L_law_272 : decode b_L_law 272 = .ok (.invokevirtual 42, 3) := by decide +kernel
theorem d_L_law_275 : decode b_L_law 275 = .ok (.if_icmp .eq 240, 3) := by decide +kernel
theorem d_L_law_278 : decode b_L_law 278 = .ok (.iconst 0, 1) := by decide +kernel
theorem d_L_law_279 : decode b_L_law 279 = .ok (.ireturn, 1) := by decide +kernel
theorem d_L_law_280 : decode b_L_law 280 = .ok (.aload_n 1, 1) := by decide +kernel
theorem d_L_law_281 : decode b_L_law 281 = .ok (.invokevirtual 43, 3) := by decide +kernel
theorem d_L_law_284 : decode b_L_law 284 = .ok (.aload_n 2, 1) := by decide +kernel
theorem d_L_law_285 : decode b_L_law 285 = .ok (.invokevirtual 46, 3) := by decide +kernel
theorem d_L_law_288 : decode b_L_law 288 = .ok (.if_icmp .eq 227, 3) := by decide +kernel
theorem d_L_law_291 : decode b_L_law 291 = .ok (.iconst 0, 1) := by decide +kernel
theorem d_L_law_292 : decode b_L_law 292 = .ok (.ireturn, 1) := by decide +kernel
theorem d_L_law_293 : decode b_L_law 293 = .ok (.aload_n 1, 1) := by decide +kernel
theorem d_L_law_294 : decode b_L_law 294 = .ok (.aload_n 0, 1) := by decide +kernel
theorem d_L_law_295 : decode b_L_law 295 = .ok (.iload_n 3, 1) := by decide +kernel
theorem d_L_law_296 : decode b_L_law 296 = .ok (.iconst 1, 1) := by decide +kernel
theorem d_L_law_297 : decode b_L_law 297 = .ok (.iadd, 1) := by decide +kernel
theorem d_L_law_298 : decode b_L_law 298 = .ok (.iaload, 1) := by decide +kernel
theorem d_L_law_299 : decode b_L_law 299 = .ok (.aload_n 0, 1) := by decide +kernel
theorem d_L_law_300 : decode b_L_law 300 = .ok (.iload_n 3, 1) := by decide +kernel
theorem d_L_law_301 : decode b_L_law 301 = .ok (.iconst 2, 1) := by decide +kernel
theorem d_L_law_302 : decode b_L_law 302 = .ok (.iadd, 1) := by decide +kernel
theorem d_L_law_303 : decode b_L_law 303 = .ok (.iaload, 1) := by decide +kernel
theorem d_L_law_304 : decode b_L_law 304 = .ok (.aload_n 0, 1) := by decide +kernel
theorem d_L_law_305 : decode b_L_law 305 = .ok (.iload_n 3, 1) := by decide +kernel
theorem d_L_law_306 : decode b_L_law 306 = .ok (.iconst 3, 1) := by decide +kernel
theorem d_L_law_307 : decode b_L_law 307 = .ok (.iadd, 1) := by decide +kernel
theorem d_L_law_308 : decode b_L_law 308 = .ok (.iaload, 1) := by decide +kernel
theorem d_L_law_309 : decode b_L_law 309 = .ok (.aload_n 0, 1) := by decide +kernel
theorem d_L_law_310 : decode b_L_law 310 = .ok (.iload_n 3, 1) := by decide +kernel
theorem d_L_law_311 : decode b_L_law 311 = .ok (.iconst 4, 1) := by decide +kernel
theorem d_L_law_312 : decode b_L_law 312 = .ok (.iadd, 1) := by decide +kernel
theorem d_L_law_313 : decode b_L_law 313 = .ok (.iaload, 1) := by decide +kernel
theorem d_L_law_314 : decode b_L_law 314 = .ok (.aload_n 0, 1) := by decide +kernel
theorem d_L_law_315 : decode b_L_law 315 = .ok (.iload_n 3, 1) := by decide +kernel
theorem d_L_law_316 : decode b_L_law 316 = .ok (.iconst 5, 1) := by decide +kernel
theorem d_L_law_317 : decode b_L_law 317 = .ok (.iadd, 1) := by decide +kernel
theorem d_L_law_318 : decode b_L_law 318 = .ok (.iaload, 1) := by decide +kernel
theorem d_L_law_319 : decode b_L_law 319 = .ok (.invokevirtual 47, 3) := by decide +kernel
theorem d_L_law_322 : decode b_L_law 322 = .ok (.aload_n 2, 1) := by decide +kernel
theorem d_L_law_323 : decode b_L_law 323 = .ok (.aload_n 0, 1) := by decide +kernel
theorem d_L_law_324 : decode b_L_law 324 = .ok (.iload_n 3, 1) := by decide +kernel
theorem d_L_law_325 : decode b_L_law 325 = .ok (.iconst 1, 1) := by decide +kernel
theorem d_L_law_326 : decode b_L_law 326 = .ok (.iadd, 1) := by decide +kernel
theorem d_L_law_327 : decode b_L_law 327 = .ok (.iaload, 1) := by decide +kernel
theorem d_L_law_328 : decode b_L_law 328 = .ok (.aload_n 0, 1) := by decide +kernel
theorem d_L_law_329 : decode b_L_law 329 = .ok (.iload_n 3, 1) := by decide +kernel
theorem d_L_law_330 : decode b_L_law 330 = .ok (.iconst 2, 1) := by decide +kernel
theorem d_L_law_331 : decode b_L_law 331 = .ok (.iadd, 1) := by decide +kernel
theorem d_L_law_332 : decode b_L_law 332 = .ok (.iaload, 1) := by decide +kernel
theorem d_L_law_333 : decode b_L_law 333 = .ok (.aload_n 0, 1) := by decide +kernel
theorem d_L_law_334 : decode b_L_law 334 = .ok (.iload_n 3, 1) := by decide +kernel
theorem d_L_law_335 : decode b_L_law 335 = .ok (.iconst 3, 1) := by decide +kernel
theorem d_L_law_336 : decode b_L_law 336 = .ok (.iadd, 1) := by decide +kernel
theorem d_L_law_337 : decode b_L_law 337 = .ok (.iaload, 1) := by decide +kernel
theorem d_L_law_338 : decode b_L_law 338 = .ok (.aload_n 0, 1) := by decide +kernel
theorem d_L_law_339 : decode b_L_law 339 = .ok (.iload_n 3, 1) := by decide +kernel
theorem d_L_law_340 : decode b_L_law 340 = .ok (.iconst 4, 1) := by decide +kernel
theorem d_L_law_341 : decode b_L_law 341 = .ok (.iadd, 1) := by decide +kernel
theorem d_L_law_342 : decode b_L_law 342 = .ok (.iaload, 1) := by decide +kernel
theorem d_L_law_343 : decode b_L_law 343 = .ok (.aload_n 0, 1) := by decide +kernel
theorem d_L_law_344 : decode b_L_law 344 = .ok (.iload_n 3, 1) := by decide +kernel
theorem d_L_law_345 : decode b_L_law 345 = .ok (.iconst 5, 1) := by decide +kernel
theorem d_L_law_346 : decode b_L_law 346 = .ok (.iadd, 1) := by decide +kernel
theorem d_L_law_347 : decode b_L_law 347 = .ok (.iaload, 1) := by decide +kernel
theorem d_L_law_348 : decode b_L_law 348 = .ok (.invokevirtual 51, 3) := by decide +kernel
theorem d_L_law_351 : decode b_L_law 351 = .ok (.if_icmp .eq 164, 3) := by decide +kernel
theorem d_L_law_354 : decode b_L_law 354 = .ok (.iconst 0, 1) := by decide +kernel
theorem d_L_law_355 : decode b_L_law 355 = .ok (.ireturn, 1) := by decide +kernel
theorem d_L_law_356 : decode b_L_law 356 = .ok (.aload_n 1, 1) := by decide +kernel
theorem d_L_law_357 : decode b_L_law 357 = .ok (.aload_n 0, 1) := by decide +kernel
theorem d_L_law_358 : decode b_L_law 358 = .ok (.iload_n 3, 1) := by decide +kernel
theorem d_L_law_359 : decode b_L_law 359 = .ok (.iconst 1, 1) := by decide +kernel
theorem d_L_law_360 : decode b_L_law 360 = .ok (.iadd, 1) := by decide +kernel
theorem d_L_law_361 : decode b_L_law 361 = .ok (.iaload, 1) := by decide +kernel
theorem d_L_law_362 : decode b_L_law 362 = .ok (.aload_n 0, 1) := by decide +kernel
theorem d_L_law_363 : decode b_L_law 363 = .ok (.iload_n 3, 1) := by decide +kernel
theorem d_L_law_364 : decode b_L_law 364 = .ok (.iconst 2, 1) := by decide +kernel
theorem d_L_law_365 : decode b_L_law 365 = .ok (.iadd, 1) := by decide +kernel
theorem d_L_law_366 : decode b_L_law 366 = .ok (.iaload, 1) := by decide +kernel
theorem d_L_law_367 : decode b_L_law 367 = .ok (.aload_n 0, 1) := by decide +kernel
theorem d_L_law_368 : decode b_L_law 368 = .ok (.iload_n 3, 1) := by decide +kernel
theorem d_L_law_369 : decode b_L_law 369 = .ok (.iconst 3, 1) := by decide +kernel
theorem d_L_law_370 : decode b_L_law 370 = .ok (.iadd, 1) := by decide +kernel
theorem d_L_law_371 : decode b_L_law 371 = .ok (.iaload, 1) := by decide +kernel
theorem d_L_law_372 : decode b_L_law 372 = .ok (.aload_n 0, 1) := by decide +kernel
theorem d_L_law_373 : decode b_L_law 373 = .ok (.iload_n 3, 1) := by decide +kernel
theorem d_L_law_374 : decode b_L_law 374 = .ok (.iconst 4, 1) := by decide +kernel
theorem d_L_law_375 : decode b_L_law 375 = .ok (.iadd, 1) := by decide +kernel
theorem d_L_law_376 : decode b_L_law 376 = .ok (.iaload, 1) := by decide +kernel
theorem d_L_law_377 : decode b_L_law 377 = .ok (.invokevirtual 52, 3) := by decide +kernel
theorem d_L_law_380 : decode b_L_law 380 = .ok (.aload_n 2, 1) := by decide +kernel
theorem d_L_law_381 : decode b_L_law 381 = .ok (.aload_n 0, 1) := by decide +kernel
theorem d_L_law_382 : decode b_L_law 382 = .ok (.iload_n 3, 1) := by decide +kernel
theorem d_L_law_383 : decode b_L_law 383 = .ok (.iconst 1, 1) := by decide +kernel
theorem d_L_law_384 : decode b_L_law 384 = .ok (.iadd, 1) := by decide +kernel
theorem d_L_law_385 : decode b_L_law 385 = .ok (.iaload, 1) := by decide +kernel
theorem d_L_law_386 : decode b_L_law 386 = .ok (.aload_n 0, 1) := by decide +kernel
theorem d_L_law_387 : decode b_L_law 387 = .ok (.iload_n 3, 1) := by decide +kernel
theorem d_L_law_388 : decode b_L_law 388 = .ok (.iconst 2, 1) := by decide +kernel
theorem d_L_law_389 : decode b_L_law 389 = .ok (.iadd, 1) := by decide +kernel
theorem d_L_law_390 : decode b_L_law 390 = .ok (.iaload, 1) := by decide +kernel
theorem d_L_law_391 : decode b_L_law 391 = .ok (.aload_n 0, 1) := by decide +kernel
theorem d_L_law_392 : decode b_L_law 392 = .ok (.iload_n 3, 1) := by decide +kernel
theorem d_L_law_393 : decode b_L_law 393 = .ok (.iconst 3, 1) := by decide +kernel
theorem d_L_law_394 : decode b_L_law 394 = .ok (.iadd, 1) := by decide +kernel
theorem d_L_law_395 : decode b_L_law 395 = .ok (.iaload, 1) := by decide +kernel
theorem d_L_law_396 : decode b_L_law 396 = .ok (.aload_n 0, 1) := by decide +kernel
theorem d_L_law_397 : decode b_L_law 397 = .ok (.iload_n 3, 1) := by decide +kernel
theorem d_L_law_398 : decode b_L_law 398 = .ok (.iconst 4, 1) := by decide +kernel
theorem d_L_law_399 : decode b_L_law 399 = .ok (.iadd, 1) := by decide +kernel
theorem d_L_law_400 : decode b_L_law 400 = .ok (.iaload, 1) := by decide +kernel
theorem d_L_law_401 : decode b_L_law 401 = .ok (.invokevirtual 56, 3) := by decide +kernel
theorem d_L_law_404 : decode b_L_law 404 = .ok (.if_icmp .eq 111, 3) := by decide +kernel
theorem d_L_law_407 : decode b_L_law 407 = .ok (.iconst 0, 1) := by decide +kernel
theorem d_L_law_408 : decode b_L_law 408 = .ok (.ireturn, 1) := by decide +kernel
theorem d_L_law_409 : decode b_L_law 409 = .ok (.aload_n 1, 1) := by decide +kernel
theorem d_L_law_410 : decode b_L_law 410 = .ok (.aload_n 0, 1) := by decide +kernel
theorem d_L_law_411 : decode b_L_law 411 = .ok (.iload_n 3, 1) := by decide +kernel
theorem d_L_law_412 : decode b_L_law 412 = .ok (.iconst 1, 1) := by decide +kernel
theorem d_L_law_413 : decode b_L_law 413 = .ok (.iadd, 1) := by decide +kernel
theorem d_L_law_414 : decode b_L_law 414 = .ok (.iaload, 1) := by decide +kernel
theorem d_L_law_415 : decode b_L_law 415 = .ok (.aload_n 0, 1) := by decide +kernel
theorem d_L_law_416 : decode b_L_law 416 = .ok (.iload_n 3, 1) := by decide +kernel
theorem d_L_law_417 : decode b_L_law 417 = .ok (.iconst 2, 1) := by decide +kernel
theorem d_L_law_418 : decode b_L_law 418 = .ok (.iadd, 1) := by decide +kernel
theorem d_L_law_419 : decode b_L_law 419 = .ok (.iaload, 1) := by decide +kernel
theorem d_L_law_420 : decode b_L_law 420 = .ok (.aload_n 0, 1) := by decide +kernel
theorem d_L_law_421 : decode b_L_law 421 = .ok (.iload_n 3, 1) := by decide +kernel
theorem d_L_law_422 : decode b_L_law 422 = .ok (.iconst 3, 1) := by decide +kernel
theorem d_L_law_423 : decode b_L_law 423 = .ok (.iadd, 1) := by decide +kernel
theorem d_L_law_424 : decode b_L_law 424 = .ok (.iaload, 1) := by decide +kernel
theorem d_L_law_425 : decode b_L_law 425 = .ok (.aload_n 0, 1) := by decide +kernel
theorem d_L_law_426 : decode b_L_law 426 = .ok (.iload_n 3, 1) := by decide +kernel
theorem d_L_law_427 : decode b_L_law 427 = .ok (.iconst 4, 1) := by decide +kernel
theorem d_L_law_428 : decode b_L_law 428 = .ok (.iadd, 1) := by decide +kernel
theorem d_L_law_429 : decode b_L_law 429 = .ok (.iaload, 1) := by decide +kernel
theorem d_L_law_430 : decode b_L_law 430 = .ok (.invokevirtual 57, 3) := by decide +kernel
theorem d_L_law_433 : decode b_L_law 433 = .ok (.aload_n 2, 1) := by decide +kernel
theorem d_L_law_434 : decode b_L_law 434 = .ok (.aload_n 0, 1) := by decide +kernel
theorem d_L_law_435 : decode b_L_law 435 = .ok (.iload_n 3, 1) := by decide +kernel
theorem d_L_law_436 : decode b_L_law 436 = .ok (.iconst 1, 1) := by decide +kernel
theorem d_L_law_437 : decode b_L_law 437 = .ok (.iadd, 1) := by decide +kernel
theorem d_L_law_438 : decode b_L_law 438 = .ok (.iaload, 1) := by decide +kernel
theorem d_L_law_439 : decode b_L_law 439 = .ok (.aload_n 0, 1) := by decide +kernel
theorem d_L_law_440 : decode b_L_law 440 = .ok (.iload_n 3, 1) := by decide +kernel
theorem d_L_law_441 : decode b_L_law 441 = .ok (.iconst 2, 1) := by decide +kernel
theorem d_L_law_442 : decode b_L_law 442 = .ok (.iadd, 1) := by decide +kernel
theorem d_L_law_443 : decode b_L_law 443 = .ok (.iaload, 1) := by decide +kernel
theorem d_L_law_444 : decode b_L_law 444 = .ok (.aload_n 0, 1) := by decide +kernel
theorem d_L_law_445 : decode b_L_law 445 = .ok (.iload_n 3, 1) := by decide +kernel
theorem d_L_law_446 : decode b_L_law 446 = .ok (.iconst 3, 1) := by decide +kernel
theorem d_L_law_447 : decode b_L_law 447 = .ok (.iadd, 1) := by decide +kernel
theorem d_L_law_448 : decode b_L_law 448 = .ok (.iaload, 1) := by decide +kernel
theorem d_L_law_449 : decode b_L_law 449 = .ok (.aload_n 0, 1) := by decide +kernel
theorem d_L_law_450 : decode b_L_law 450 = .ok (.iload_n 3, 1) := by decide +kernel
theorem d_L_law_451 : decode b_L_law 451 = .ok (.iconst 4, 1) := by decide +kernel
theorem d_L_law_452 : decode b_L_law 452 = .ok (.iadd, 1) := by decide +kernel
theorem d_L_law_453 : decode b_L_law 453 = .ok (.iaload, 1) := by decide +kernel
theorem d_L_law_454 : decode b_L_law 454 = .ok (.invokevirtual 60, 3) := by decide +kernel
theorem d_L_law_457 : decode b_L_law 457 = .ok (.if_icmp .eq 58, 3) := by decide +kernel
theorem d_L_law_460 : decode b_L_law 460 = .ok (.iconst 0, 1) := by decide +kernel
theorem d_L_law_461 : decode b_L_law 461 = .ok (.ireturn, 1) := by decide +kernel
theorem d_L_law_462 : decode b_L_law 462 = .ok (.aload_n 1, 1) := by decide +kernel
theorem d_L_law_463 : decode b_L_law 463 = .ok (.aload_n 0, 1) := by decide +kernel
theorem d_L_law_464 : decode b_L_law 464 = .ok (.iload_n 3, 1) := by decide +kernel
theorem d_L_law_465 : decode b_L_law 465 = .ok (.iconst 1, 1) := by decide +kernel
theorem d_L_law_466 : decode b_L_law 466 = .ok (.iadd, 1) := by decide +kernel
theorem d_L_law_467 : decode b_L_law 467 = .ok (.iaload, 1) := by decide +kernel
theorem d_L_law_468 : decode b_L_law 468 = .ok (.aload_n 0, 1) := by decide +kernel
theorem d_L_law_469 : decode b_L_law 469 = .ok (.iload_n 3, 1) := by decide +kernel
theorem d_L_law_470 : decode b_L_law 470 = .ok (.iconst 2, 1) := by decide +kernel
theorem d_L_law_471 : decode b_L_law 471 = .ok (.iadd, 1) := by decide +kernel
theorem d_L_law_472 : decode b_L_law 472 = .ok (.iaload, 1) := by decide +kernel
theorem d_L_law_473 : decode b_L_law 473 = .ok (.aload_n 0, 1) := by decide +kernel
theorem d_L_law_474 : decode b_L_law 474 = .ok (.iload_n 3, 1) := by decide +kernel
theorem d_L_law_475 : decode b_L_law 475 = .ok (.iconst 3, 1) := by decide +kernel
theorem d_L_law_476 : decode b_L_law 476 = .ok (.iadd, 1) := by decide +kernel
theorem d_L_law_477 : decode b_L_law 477 = .ok (.iaload, 1) := by decide +kernel
theorem d_L_law_478 : decode b_L_law 478 = .ok (.aload_n 0, 1) := by decide +kernel
theorem d_L_law_479 : decode b_L_law 479 = .ok (.iload_n 3, 1) := by decide +kernel
theorem d_L_law_480 : decode b_L_law 480 = .ok (.iconst 4, 1) := by decide +kernel
theorem d_L_law_481 : decode b_L_law 481 = .ok (.iadd, 1) := by decide +kernel
theorem d_L_law_482 : decode b_L_law 482 = .ok (.iaload, 1) := by decide +kernel
theorem d_L_law_483 : decode b_L_law 483 = .ok (.invokevirtual 61, 3) := by decide +kernel
theorem d_L_law_486 : decode b_L_law 486 = .ok (.aload_n 2, 1) := by decide +kernel
theorem d_L_law_487 : decode b_L_law 487 = .ok (.aload_n 0, 1) := by decide +kernel
theorem d_L_law_488 : decode b_L_law 488 = .ok (.iload_n 3, 1) := by decide +kernel
theorem d_L_law_489 : decode b_L_law 489 = .ok (.iconst 1, 1) := by decide +kernel
theorem d_L_law_490 : decode b_L_law 490 = .ok (.iadd, 1) := by decide +kernel
theorem d_L_law_491 : decode b_L_law 491 = .ok (.iaload, 1) := by decide +kernel
theorem d_L_law_492 : decode b_L_law 492 = .ok (.aload_n 0, 1) := by decide +kernel
theorem d_L_law_493 : decode b_L_law 493 = .ok (.iload_n 3, 1) := by decide +kernel
theorem d_L_law_494 : decode b_L_law 494 = .ok (.iconst 2, 1) := by decide +kernel
theorem d_L_law_495 : decode b_L_law 495 = .ok (.iadd, 1) := by decide +kernel
theorem d_L_law_496 : decode b_L_law 496 = .ok (.iaload, 1) := by decide +kernel
theorem d_L_law_497 : decode b_L_law 497 = .ok (.aload_n 0, 1) := by decide +kernel
theorem d_L_law_498 : decode b_L_law 498 = .ok (.iload_n 3, 1) := by decide +kernel
theorem d_L_law_499 : decode b_L_law 499 = .ok (.iconst 3, 1) := by decide +kernel
theorem d_L_law_500 : decode b_L_law 500 = .ok (.iadd, 1) := by decide +kernel
theorem d_L_law_501 : decode b_L_law 501 = .ok (.iaload, 1) := by decide +kernel
theorem d_L_law_502 : decode b_L_law 502 = .ok (.aload_n 0, 1) := by decide +kernel
theorem d_L_law_503 : decode b_L_law 503 = .ok (.iload_n 3, 1) := by decide +kernel
theorem d_L_law_504 : decode b_L_law 504 = .ok (.iconst 4, 1) := by decide +kernel
theorem d_L_law_505 : decode b_L_law 505 = .ok (.iadd, 1) := by decide +kernel
theorem d_L_law_506 : decode b_L_law 506 = .ok (.iaload, 1) := by decide +kernel
theorem d_L_law_507 : decode b_L_law 507 = .ok (.invokevirtual 64, 3) := by decide +kernel
theorem d_L_law_510 : decode b_L_law 510 = .ok (.if_icmp .eq 5, 3) := by decide +kernel
theorem d_L_law_513 : decode b_L_law 513 = .ok (.iconst 0, 1) := by decide +kernel
theorem d_L_law_514 : decode b_L_law 514 = .ok (.ireturn, 1) := by decide +kernel
theorem d_L_law_515 : decode b_L_law 515 = .ok (.iinc 3 6, 3) := by decide +kernel
theorem d_L_law_518 : decode b_L_law 518 = .ok (.goto (-500), 3) := by decide +kernel
theorem d_L_law_521 : decode b_L_law 521 = .ok (.iconst 1, 1) := by decide +kernel
theorem d_L_law_522 : decode b_L_law 522 = .ok (.ireturn, 1) := by decide +kernel
end
section
theorem d_M_init_0 : decode b_M_init 0 = .ok (.aload_n 0, 1) := by decide +kernel
theorem d_M_init_1 : decode b_M_init 1 = .ok (.invokespecial 1, 3) := by decide +kernel
theorem d_M_init_4 : decode b_M_init 4 = .ok (.aload_n 0, 1) := by decide +kernel
theorem d_M_init_5 : decode b_M_init 5 = .ok (.bipush 8, 2) := by decide +kernel
theorem d_M_init_7 : decode b_M_init 7 = .ok (.newarray .int, 2) := by decide +kernel
theorem d_M_init_9 : decode b_M_init 9 = .ok (.putfield 7, 3) := by decide +kernel
theorem d_M_init_12 : decode b_M_init 12 = .ok (.aload_n 0, 1) := by decide +kernel
theorem d_M_init_13 : decode b_M_init 13 = .ok (.sipush 256, 3) := by decide +kernel
theorem d_M_init_16 : decode b_M_init 16 = .ok (.newarray .int, 2) := by decide +kernel
theorem d_M_init_18 : decode b_M_init 18 = .ok (.putfield 13, 3) := by decide +kernel
theorem d_M_init_21 : decode b_M_init 21 = .ok (.aload_n 0, 1) := by decide +kernel
theorem d_M_init_22 : decode b_M_init 22 = .ok (.sipush 256, 3) := by decide +kernel
theorem d_M_init_25 : decode b_M_init 25 = .ok (.newarray .int, 2) := by decide +kernel
theorem d_M_init_27 : decode b_M_init 27 = .ok (.putfield 16, 3) := by decide +kernel
theorem d_M_init_30 : decode b_M_init 30 = .ok (.aload_n 0, 1) := by decide +kernel
theorem d_M_init_31 : decode b_M_init 31 = .ok (.iconst 4, 1) := by decide +kernel
theorem d_M_init_32 : decode b_M_init 32 = .ok (.newarray .int, 2) := by decide +kernel
theorem d_M_init_34 : decode b_M_init 34 = .ok (.putfield 19, 3) := by decide +kernel
theorem d_M_init_37 : decode b_M_init 37 = .ok (.iconst 0, 1) := by decide +kernel
theorem d_M_init_38 : decode b_M_init 38 = .ok (.istore_n 1, 1) := by decide +kernel
theorem d_M_init_39 : decode b_M_init 39 = .ok (.iload_n 1, 1) := by decide +kernel
theorem d_M_init_40 : decode b_M_init 40 = .ok (.bipush 8, 2) := by decide +kernel
theorem d_M_init_42 : decode b_M_init 42 = .ok (.if_icmp .ge 16, 3) := by decide +kernel
theorem d_M_init_45 : decode b_M_init 45 = .ok (.aload_n 0, 1) := by decide +kernel
theorem d_M_init_46 : decode b_M_init 46 = .ok (.getfield 7, 3) := by decide +kernel
theorem d_M_init_49 : decode b_M_init 49 = .ok (.iload_n 1, 1) := by decide +kernel
theorem d_M_init_50 : decode b_M_init 50 = .ok (.iconst 1, 1) := by decide +kernel
theorem d_M_init_51 : decode b_M_init 51 = .ok (.iastore, 1) := by decide +kernel
theorem d_M_init_52 : decode b_M_init 52 = .ok (.iinc 1 1, 3) := by decide +kernel
theorem d_M_init_55 : decode b_M_init 55 = .ok (.goto (-16), 3) := by decide +kernel
theorem d_M_init_58 : decode b_M_init 58 = .ok (.return_, 1) := by decide +kernel
theorem d_M_weigh_0 : decode b_M_weigh 0 = .ok (.iload_n 1, 1) := by decide +kernel
theorem d_M_weigh_1 : decode b_M_weigh 1 = .ok (.ifCond .lt 19, 3) := by decide +kernel
theorem d_M_weigh_4 : decode b_M_weigh 4 = .ok (.iload_n 1, 1) := by decide +kernel
theorem d_M_weigh_5 : decode b_M_weigh 5 = .ok (.bipush 7, 2) := by decide +kernel
theorem d_M_weigh_7 : decode b_M_weigh 7 = .ok (.if_icmp .gt 13, 3) := by decide +kernel
theorem d_M_weigh_10 : decode b_M_weigh 10 = .ok (.iload_n 2, 1) := by decide +kernel
theorem d_M_weigh_11 : decode b_M_weigh 11 = .ok (.ifCond .lt 9, 3) := by decide +kernel
theorem d_M_weigh_14 : decode b_M_weigh 14 = .ok (.iload_n 2, 1) := by decide +kernel
theorem d_M_weigh_15 : decode b_M_weigh 15 = .ok (.bipush 15, 2) := by decide +kernel
theorem d_M_weigh_17 : decode b_M_weigh 17 = .ok (.if_icmp .le 5, 3) := by decide +kernel
theorem d_M_weigh_20 : decode b_M_weigh 20 = .ok (.iconst 0, 1) := by decide +kernel
theorem d_M_weigh_21 : decode b_M_weigh 21 = .ok (.ireturn, 1) := by decide +kernel
theorem d_M_weigh_22 : decode b_M_weigh 22 = .ok (.aload_n 0, 1) := by decide +kernel
theorem d_M_weigh_23 : decode b_M_weigh 23 = .ok (.getfield 7, 3) := by decide +kernel
theorem d_M_weigh_26 : decode b_M_weigh 26 = .ok (.iload_n 1, 1) := by decide +kernel
theorem d_M_weigh_27 : decode b_M_weigh 27 = .ok (.iload_n 2, 1) := by decide +kernel
theorem d_M_weigh_28 : decode b_M_weigh 28 = .ok (.iastore, 1) := by decide +kernel
theorem d_M_weigh_29 : decode b_M_weigh 29 = .ok (.iconst 1, 1) := by decide +kernel
theorem d_M_weigh_30 : decode b_M_weigh 30 = .ok (.ireturn, 1) := by decide +kernel
theorem d_M_weight_0 : decode b_M_weight 0 = .ok (.iload_n 1, 1) := by decide +kernel
theorem d_M_weight_1 : decode b_M_weight 1 = .ok (.ifCond .lt 9, 3) := by decide +kernel
theorem d_M_weight_4 : decode b_M_weight 4 = .ok (.iload_n 1, 1) := by decide +kernel
theorem d_M_weight_5 : decode b_M_weight 5 = .ok (.bipush 7, 2) := by decide +kernel
theorem d_M_weight_7 : decode b_M_weight 7 = .ok (.if_icmp .le 7, 3) := by decide +kernel
theorem d_M_weight_10 : decode b_M_weight 10 = .ok (.iconst (-1), 1) := by decide +kernel
theorem d_M_weight_11 : decode b_M_weight 11 = .ok (.goto 9, 3) := by decide +kernel
theorem d_M_weight_14 : decode b_M_weight 14 = .ok (.aload_n 0, 1) := by decide +kernel
theorem d_M_weight_15 : decode b_M_weight 15 = .ok (.getfield 7, 3) := by decide +kernel
theorem d_M_weight_18 : decode b_M_weight 18 = .ok (.iload_n 1, 1) := by decide +kernel
theorem d_M_weight_19 : decode b_M_weight 19 = .ok (.iaload, 1) := by decide +kernel
theorem d_M_weight_20 : decode b_M_weight 20 = .ok (.ireturn, 1) := by decide +kernel
theorem d_M_feed_0 : decode b_M_feed 0 = .ok (.iload_n 2, 1) := by decide +kernel
theorem d_M_feed_1 : decode b_M_feed 1 = .ok (.ifCond .lt 21, 3) := by decide +kernel
theorem d_M_feed_4 : decode b_M_feed 4 = .ok (.iload_n 2, 1) := by decide +kernel
theorem d_M_feed_5 : decode b_M_feed 5 = .ok (.bipush 32, 2) := by decide +kernel
theorem d_M_feed_7 : decode b_M_feed 7 = .ok (.if_icmp .gt 15, 3) := by decide +kernel
theorem d_M_feed_10 : decode b_M_feed 10 = .ok (.aload_n 0, 1) := by decide +kernel
theorem d_M_feed_11 : decode b_M_feed 11 = .ok (.getfield 22, 3) := by decide +kernel
theorem d_M_feed_14 : decode b_M_feed 14 = .ok (.iload_n 2, 1) := by decide +kernel
theorem d_M_feed_15 : decode b_M_feed 15 = .ok (.iadd, 1) := by decide +kernel
theorem d_M_feed_16 : decode b_M_feed 16 = .ok (.sipush 256, 3) := by decide +kernel
theorem d_M_feed_19 : decode b_M_feed 19 = .ok (.if_icmp .le 5, 3) := by decide +kernel
theorem d_M_feed_22 : decode b_M_feed 22 = .ok (.iconst (-1), 1) := by decide +kernel
theorem d_M_feed_23 : decode b_M_feed 23 = .ok (.ireturn, 1) := by decide +kernel
theorem d_M_feed_24 : decode b_M_feed 24 = .ok (.iload_n 2, 1) := by decide +kernel
theorem d_M_feed_25 : decode b_M_feed 25 = .ok (.iconst 1, 1) := by decide +kernel
theorem d_M_feed_26 : decode b_M_feed 26 = .ok (.isub, 1) := by decide +kernel
theorem d_M_feed_27 : decode b_M_feed 27 = .ok (.istore_n 3, 1) := by decide +kernel
theorem d_M_feed_28 : decode b_M_feed 28 = .ok (.iload_n 3, 1) := by decide +kernel
theorem d_M_feed_29 : decode b_M_feed 29 = .ok (.ifCond .lt 33, 3) := by decide +kernel
theorem d_M_feed_32 : decode b_M_feed 32 = .ok (.aload_n 0, 1) := by decide +kernel
theorem d_M_feed_33 : decode b_M_feed 33 = .ok (.getfield 13, 3) := by decide +kernel
theorem d_M_feed_36 : decode b_M_feed 36 = .ok (.aload_n 0, 1) := by decide +kernel
theorem d_M_feed_37 : decode b_M_feed 37 = .ok (.getfield 22, 3) := by decide +kernel
theorem d_M_feed_40 : decode b_M_feed 40 = .ok (.iload_n 1, 1) := by decide +kernel
theorem d_M_feed_41 : decode b_M_feed 41 = .ok (.iload_n 3, 1) := by decide +kernel
theorem d_M_feed_42 : decode b_M_feed 42 = .ok (.ishr, 1) := by decide +kernel
theorem d_M_feed_43 : decode b_M_feed 43 = .ok (.iconst 1, 1) := by decide +kernel
theorem d_M_feed_44 : decode b_M_feed 44 = .ok (.iand, 1) := by decide +kernel
theorem d_M_feed_45 : decode b_M_feed 45 = .ok (.iastore, 1) := by decide +kernel
theorem d_M_feed_46 : decode b_M_feed 46 = .ok (.aload_n 0, 1) := by decide +kernel
theorem d_M_feed_47 : decode b_M_feed 47 = .ok (.dup, 1) := by decide +kernel
theorem d_M_feed_48 : decode b_M_feed 48 = .ok (.getfield 22, 3) := by decide +kernel
theorem d_M_feed_51 : decode b_M_feed 51 = .ok (.iconst 1, 1) := by decide +kernel
theorem d_M_feed_52 : decode b_M_feed 52 = .ok (.iadd, 1) := by decide +kernel
theorem d_M_feed_53 : decode b_M_feed 53 = .ok (.putfield 22, 3) := by decide +kernel
theorem d_M_feed_56 : decode b_M_feed 56 = .ok (.iinc 3 (-1), 3) := by decide +kernel
theorem d_M_feed_59 : decode b_M_feed 59 = .ok (.goto (-31), 3) := by decide +kernel
theorem d_M_feed_62 : decode b_M_feed 62 = .ok (.aload_n 0, 1) := by decide +kernel
theorem d_M_feed_63 : decode b_M_feed 63 = .ok (.getfield 22, 3) := by decide +kernel
theorem d_M_feed_66 : decode b_M_feed 66 = .ok (.ireturn, 1) := by decide +kernel
theorem d_M_left_0 : decode b_M_left 0 = .ok (.aload_n 0, 1) := by decide +kernel
theorem d_M_left_1 : decode b_M_left 1 = .ok (.getfield 22, 3) := by decide +kernel
theorem d_M_left_4 : decode b_M_left 4 = .ok (.ireturn, 1) := by decide +kernel
theorem d_M_sum_0 : decode b_M_sum 0 = .ok (.iconst 0, 1) := by decide +kernel
theorem d_M_sum_1 : decode b_M_sum 1 = .ok (.istore_n 1, 1) := by decide +kernel
theorem d_M_sum_2 : decode b_M_sum 2 = .ok (.iconst 0, 1) := by decide +kernel
theorem d_M_sum_3 : decode b_M_sum 3 = .ok (.istore_n 2, 1) := by decide +kernel
theorem d_M_sum_4 : decode b_M_sum 4 = .ok (.iload_n 2, 1) := by decide +kernel
theorem d_M_sum_5 : decode b_M_sum 5 = .ok (.bipush 8, 2) := by decide +kernel
theorem d_M_sum_7 : decode b_M_sum 7 = .ok (.if_icmp .ge 18, 3) := by decide +kernel
theorem d_M_sum_10 : decode b_M_sum 10 = .ok (.iload_n 1, 1) := by decide +kernel
theorem d_M_sum_11 : decode b_M_sum 11 = .ok (.aload_n 0, 1) := by decide +kernel
theorem d_M_sum_12 : decode b_M_sum 12 = .ok (.getfield 7, 3) := by decide +kernel
theorem d_M_sum_15 : decode b_M_sum 15 = .ok (.iload_n 2, 1) := by decide +kernel
theorem d_M_sum_16 : decode b_M_sum 16 = .ok (.iaload, 1) := by decide +kernel
theorem d_M_sum_17 : decode b_M_sum 17 = .ok (.iadd, 1) := by decide +kernel
theorem d_M_sum_18 : decode b_M_sum 18 = .ok (.istore_n 1, 1) := by decide +kernel
theorem d_M_sum_19 : decode b_M_sum 19 = .ok (.iinc 2 1, 3) := by decide +kernel
theorem d_M_sum_22 : decode b_M_sum 22 = .ok (.goto (-18), 3) := by decide +kernel
theorem d_M_sum_25 : decode b_M_sum 25 = .ok (.iload_n 1, 1) := by decide +kernel
theorem d_M_sum_26 : decode b_M_sum 26 = .ok (.ireturn, 1) := by decide +kernel
theorem d_M_isOne_0 : decode b_M_isOne 0 = .ok (.iload_n 1, 1) := by decide +kernel
theorem d_M_isOne_1 : decode b_M_isOne 1 = .ok (.tableswitch 171 0 7 #[47, 47, 64, 90, 90, 106, 122, 148], 47) := by decide +kernel
theorem d_M_isOne_48 : decode b_M_isOne 48 = .ok (.iload_n 2, 1) := by decide +kernel
theorem d_M_isOne_49 : decode b_M_isOne 49 = .ok (.iconst 1, 1) := by decide +kernel
theorem d_M_isOne_50 : decode b_M_isOne 50 = .ok (.if_icmp .lt 13, 3) := by decide +kernel
theorem d_M_isOne_53 : decode b_M_isOne 53 = .ok (.iload_n 2, 1) := by decide +kernel
theorem d_M_isOne_54 : decode b_M_isOne 54 = .ok (.bipush 64, 2) := by decide +kernel
theorem d_M_isOne_56 : decode b_M_isOne 56 = .ok (.if_icmp .gt 7, 3) := by decide +kernel
theorem d_M_isOne_59 : decode b_M_isOne 59 = .ok (.iconst 1, 1) := by decide +kernel
theorem d_M_isOne_60 : decode b_M_isOne 60 = .ok (.goto 4, 3) := by decide +kernel
theorem d_M_isOne_63 : decode b_M_isOne 63 = .ok (.iconst 0, 1) := by decide +kernel
theorem d_M_isOne_64 : decode b_M_isOne 64 = .ok (.ireturn, 1) := by decide +kernel
theorem d_M_isOne_65 : decode b_M_isOne 65 = .ok (.iload_n 3, 1) := by decide +kernel
theorem d_M_isOne_66 : decode b_M_isOne 66 = .ok (.iconst 1, 1) := by decide +kernel
theorem d_M_isOne_67 : decode b_M_isOne 67 = .ok (.if_icmp .lt 22, 3) := by decide +kernel
theorem d_M_isOne_70 : decode b_M_isOne 70 = .ok (.iload_n 3, 1) := by decide +kernel
theorem d_M_isOne_71 : decode b_M_isOne 71 = .ok (.bipush 64, 2) := by decide +kernel
theorem d_M_isOne_73 : decode b_M_isOne 73 = .ok (.if_icmp .gt 16, 3) := by decide +kernel
theorem d_M_isOne_76 : decode b_M_isOne 76 = .ok (.iload_n 2, 1) := by decide +kernel
theorem d_M_isOne_77 : decode b_M_isOne 77 = .ok (.ifCond .lt 12, 3) := by decide +kernel
theorem d_M_isOne_80 : decode b_M_isOne 80 = .ok (.iload_n 2, 1) := by decide +kernel
theorem d_M_isOne_81 : decode b_M_isOne 81 = .ok (.iload_n 3, 1) := by decide +kernel
theorem d_M_isOne_82 : decode b_M_isOne 82 = .ok (.if_icmp .gt 7, 3) := by decide +kernel
theorem d_M_isOne_85 : decode b_M_isOne 85 = .ok (.iconst 1, 1) := by decide +kernel
theorem d_M_isOne_86 : decode b_M_isOne 86 = .ok (.goto 4, 3) := by decide +kernel
theorem d_M_isOne_89 : decode b_M_isOne 89 = .ok (.iconst 0, 1) := by decide +kernel
theorem d_M_isOne_90 : decode b_M_isOne 90 = .ok (.ireturn, 1) := by decide +kernel
theorem d_M_isOne_91 : decode b_M_isOne 91 = .ok (.iload_n 2, 1) := by decide +kernel
theorem d_M_isOne_92 : decode b_M_isOne 92 = .ok (.ifCond .lt 13, 3) := by decide +kernel
theorem d_M_isOne_95 : decode b_M_isOne 95 = .ok (.iload_n 2, 1) := by decide +kernel
theorem d_M_isOne_96 : decode b_M_isOne 96 = .ok (.bipush 12, 2) := by decide +kernel
theorem d_M_isOne_98 : decode b_M_isOne 98 = .ok (.if_icmp .gt 7, 3) := by decide +kernel
theorem d_M_isOne_101 : decode b_M_isOne 101 = .ok (.iconst 1, 1) := by decide +kernel
theorem d_M_isOne_102 : decode b_M_isOne 102 = .ok (.goto 4, 3) := by decide +kernel
theorem d_M_isOne_105 : decode b_M_isOne 105 = .ok (.iconst 0, 1) := by decide +kernel
theorem d_M_isOne_106 : decode b_M_isOne 106 = .ok (.ireturn, 1) := by decide +kernel
theorem d_M_isOne_107 : decode b_M_isOne 107 = .ok (.iload_n 2, 1) := by decide +kernel
theorem d_M_isOne_108 : decode b_M_isOne 108 = .ok (.iconst 1, 1) := by decide +kernel
theorem d_M_isOne_109 : decode b_M_isOne 109 = .ok (.if_icmp .lt 12, 3) := by decide +kernel
theorem d_M_isOne_112 : decode b_M_isOne 112 = .ok (.iload_n 2, 1) := by decide +kernel
theorem d_M_isOne_113 : decode b_M_isOne 113 = .ok (.iconst 4, 1) := by decide +kernel
theorem d_M_isOne_114 : decode b_M_isOne 114 = .ok (.if_icmp .gt 7, 3) := by decide +kernel
theorem d_M_isOne_117 : decode b_M_isOne 117 = .ok (.iconst 1, 1) := by decide +kernel
theorem d_M_isOne_118 : decode b_M_isOne 118 = .ok (.goto 4, 3) := by decide +kernel
theorem d_M_isOne_121 : decode b_M_isOne 121 = .ok (.iconst 0, 1) := by decide +kernel
theorem d_M_isOne_122 : decode b_M_isOne 122 = .ok (.ireturn, 1) := by decide +kernel
theorem d_M_isOne_123 : decode b_M_isOne 123 = .ok (.iload_n 2, 1) := by decide +kernel
theorem d_M_isOne_124 : decode b_M_isOne 124 = .ok (.iconst 1, 1) := by decide +kernel
theorem d_M_isOne_125 : decode b_M_isOne 125 = .ok (.if_icmp .lt 22, 3) := by decide +kernel
theorem d_M_isOne_128 : decode b_M_isOne 128 = .ok (.iload_n 2, 1) := by decide +kernel
theorem d_M_isOne_129 : decode b_M_isOne 129 = .ok (.bipush 6, 2) := by decide +kernel
theorem d_M_isOne_131 : decode b_M_isOne 131 = .ok (.if_icmp .gt 16, 3) := by decide +kernel
theorem d_M_isOne_134 : decode b_M_isOne 134 = .ok (.iload_n 3, 1) := by decide +kernel
theorem d_M_isOne_135 : decode b_M_isOne 135 = .ok (.ifCond .lt 12, 3) := by decide +kernel
theorem d_M_isOne_138 : decode b_M_isOne 138 = .ok (.iload_n 3, 1) := by decide +kernel
theorem d_M_isOne_139 : decode b_M_isOne 139 = .ok (.iload_n 2, 1) := by decide +kernel
theorem d_M_isOne_140 : decode b_M_isOne 140 = .ok (.if_icmp .gt 7, 3) := by decide +kernel
theorem d_M_isOne_143 : decode b_M_isOne 143 = .ok (.iconst 1, 1) := by decide +kernel
theorem d_M_isOne_144 : decode b_M_isOne 144 = .ok (.goto 4, 3) := by decide +kernel
theorem d_M_isOne_147 : decode b_M_isOne 147 = .ok (.iconst 0, 1) := by decide +kernel
theorem d_M_isOne_148 : decode b_M_isOne 148 = .ok (.ireturn, 1) := by decide +kernel
theorem d_M_isOne_149 : decode b_M_isOne 149 = .ok (.aload_n 0, 1) := by decide +kernel
theorem d_M_isOne_150 : decode b_M_isOne 150 = .ok (.invokevirtual 26, 3) := by decide +kernel
theorem d_M_isOne_153 : decode b_M_isOne 153 = .ok (.iconst 1, 1) := by decide +kernel
theorem d_M_isOne_154 : decode b_M_isOne 154 = .ok (.if_icmp .lt 16, 3) := by decide +kernel
theorem d_M_isOne_157 : decode b_M_isOne 157 = .ok (.aload_n 0, 1) := by decide +kernel
theorem d_M_isOne_158 : decode b_M_isOne 158 = .ok (.invokevirtual 26, 3) := by decide +kernel
theorem d_M_isOne_161 : decode b_M_isOne 161 = .ok (.bipush 64, 2) := by decide +kernel
theorem d_M_isOne_163 : decode b_M_isOne 163 = .ok (.if_icmp .gt 7, 3) := by decide +kernel
theorem d_M_isOne_166 : decode b_M_isOne 166 = .ok (.iconst 1, 1) := by decide +kernel
theorem d_M_isOne_167 : decode b_M_isOne 167 = .ok (.goto 4, 3) := by decide +kernel
theorem d_M_isOne_170 : decode b_M_isOne 170 = .ok (.iconst 0, 1) := by decide +kernel
theorem d_M_isOne_171 : decode b_M_isOne 171 = .ok (.ireturn, 1) := by decide +kernel
theorem d_M_isOne_172 : decode b_M_isOne 172 = .ok (.iconst 0, 1) := by decide +kernel
theorem d_M_isOne_173 : decode b_M_isOne 173 = .ok (.ireturn, 1) := by decide +kernel
theorem d_M_bit_0 : decode b_M_bit 0 = .ok (.aload_n 0, 1) := by decide +kernel
theorem d_M_bit_1 : decode b_M_bit 1 = .ok (.getfield 30, 3) := by decide +kernel
theorem d_M_bit_4 : decode b_M_bit 4 = .ok (.aload_n 0, 1) := by decide +kernel
theorem d_M_bit_5 : decode b_M_bit 5 = .ok (.getfield 33, 3) := by decide +kernel
theorem d_M_bit_8 : decode b_M_bit 8 = .ok (.if_icmp .ne 10, 3) := by decide +kernel
theorem d_M_bit_11 : decode b_M_bit 11 = .ok (.aload_n 0, 1) := by decide +kernel
theorem d_M_bit_12 : decode b_M_bit 12 = .ok (.iconst 1, 1) := by decide +kernel
theorem d_M_bit_13 : decode b_M_bit 13 = .ok (.putfield 36, 3) := by decide +kernel
theorem d_M_bit_16 : decode b_M_bit 16 = .ok (.iconst 0, 1) := by decide +kernel
theorem d_M_bit_17 : decode b_M_bit 17 = .ok (.ireturn, 1) := by decide +kernel
theorem d_M_bit_18 : decode b_M_bit 18 = .ok (.aload_n 0, 1) := by decide +kernel
theorem d_M_bit_19 : decode b_M_bit 19 = .ok (.dup, 1) := by decide +kernel
theorem d_M_bit_20 : decode b_M_bit 20 = .ok (.getfield 30, 3) := by decide +kernel
theorem d_M_bit_23 : decode b_M_bit 23 = .ok (.iconst 1, 1) := by decide +kernel
theorem d_M_bit_24 : decode b_M_bit 24 = .ok (.iadd, 1) := by decide +kernel
theorem d_M_bit_25 : decode b_M_bit 25 = .ok (.putfield 30, 3) := by decide +kernel
theorem d_M_bit_28 : decode b_M_bit 28 = .ok (.aload_n 0, 1) := by decide +kernel
theorem d_M_bit_29 : decode b_M_bit 29 = .ok (.getfield 16, 3) := by decide +kernel
theorem d_M_bit_32 : decode b_M_bit 32 = .ok (.aload_n 0, 1) := by decide +kernel
theorem d_M_bit_33 : decode b_M_bit 33 = .ok (.getfield 30, 3) := by decide +kernel
theorem d_M_bit_36 : decode b_M_bit 36 = .ok (.iconst 1, 1) := by decide +kernel
theorem d_M_bit_37 : decode b_M_bit 37 = .ok (.isub, 1) := by decide +kernel
theorem d_M_bit_38 : decode b_M_bit 38 = .ok (.iaload, 1) := by decide +kernel
theorem d_M_bit_39 : decode b_M_bit 39 = .ok (.ireturn, 1) := by decide +kernel
theorem d_M_plain_0 : decode b_M_plain 0 = .ok (.iload_n 1, 1) := by decide +kernel
theorem d_M_plain_1 : decode b_M_plain 1 = .ok (.istore_n 2, 1) := by decide +kernel
theorem d_M_plain_2 : decode b_M_plain 2 = .ok (.iload_n 2, 1) := by decide +kernel
theorem d_M_plain_3 : decode b_M_plain 3 = .ok (.iload_n 1, 1) := by decide +kernel
theorem d_M_plain_4 : decode b_M_plain 4 = .ok (.if_icmp .lt 45, 3) := by decide +kernel
theorem d_M_plain_7 : decode b_M_plain 7 = .ok (.aload_n 0, 1) := by decide +kernel
theorem d_M_plain_8 : decode b_M_plain 8 = .ok (.getfield 36, 3) := by decide +kernel
theorem d_M_plain_11 : decode b_M_plain 11 = .ok (.ifCond .ne 38, 3) := by decide +kernel
theorem d_M_plain_14 : decode b_M_plain 14 = .ok (.iconst 0, 1) := by decide +kernel
theorem d_M_plain_15 : decode b_M_plain 15 = .ok (.istore_n 2, 1) := by decide +kernel
theorem d_M_plain_16 : decode b_M_plain 16 = .ok (.iconst 1, 1) := by decide +kernel
theorem d_M_plain_17 : decode b_M_plain 17 = .ok (.istore_n 3, 1) := by decide +kernel
theorem d_M_plain_18 : decode b_M_plain 18 = .ok (.iload_n 3, 1) := by decide +kernel
theorem d_M_plain_19 : decode b_M_plain 19 = .ok (.iload_n 1, 1) := by decide +kernel
theorem d_M_plain_20 : decode b_M_plain 20 = .ok (.if_icmp .ge 26, 3) := by decide +kernel
theorem d_M_plain_23 : decode b_M_plain 23 = .ok (.aload_n 0, 1) := by decide +kernel
theorem d_M_plain_24 : decode b_M_plain 24 = .ok (.getfield 36, 3) := by decide +kernel
theorem d_M_plain_27 : decode b_M_plain 27 = .ok (.ifCond .ne 19, 3) := by decide +kernel
theorem d_M_plain_30 : decode b_M_plain 30 = .ok (.iconst 2, 1) := by decide +kernel
theorem d_M_plain_31 : decode b_M_plain 31 = .ok (.iload_n 2, 1) := by decide +kernel
theorem d_M_plain_32 : decode b_M_plain 32 = .ok (.imul, 1) := by decide +kernel
theorem d_M_plain_33 : decode b_M_plain 33 = .ok (.aload_n 0, 1) := by decide +kernel
theorem d_M_plain_34 : decode b_M_plain 34 = .ok (.invokevirtual 40, 3) := by decide +kernel
theorem d_M_plain_37 : decode b_M_plain 37 = .ok (.iadd, 1) := by decide +kernel
theorem d_M_plain_38 : decode b_M_plain 38 = .ok (.istore_n 2, 1) := by decide +kernel
theorem d_M_plain_39 : decode b_M_plain 39 = .ok (.iconst 2, 1) := by decide +kernel
theorem d_M_plain_40 : decode b_M_plain 40 = .ok (.iload_n 3, 1) := by decide +kernel
theorem d_M_plain_41 : decode b_M_plain 41 = .ok (.imul, 1) := by decide +kernel
theorem d_M_plain_42 : decode b_M_plain 42 = .ok (.istore_n 3, 1) := by decide +kernel
theorem d_M_plain_43 : decode b_M_plain 43 = .ok (.goto (-25), 3) := by decide +kernel
theorem d_M_plain_46 : decode b_M_plain 46 = .ok (.goto (-44), 3) := by decide +kernel
theorem d_M_plain_49 : decode b_M_plain 49 = .ok (.iload_n 2, 1) := by decide +kernel
theorem d_M_plain_50 : decode b_M_plain 50 = .ok (.ireturn, 1) := by decide +kernel
theorem d_M_thrifty_0 : decode b_M_thrifty 0 = .ok (.iconst 1, 1) := by decide +kernel
theorem d_M_thrifty_1 : decode b_M_thrifty 1 = .ok (.istore_n 2, 1) := by decide +kernel
theorem d_M_thrifty_2 : decode b_M_thrifty 2 = .ok (.iconst 0, 1) := by decide +kernel
theorem d_M_thrifty_3 : decode b_M_thrifty 3 = .ok (.istore_n 3, 1) := by decide +kernel
theorem d_M_thrifty_4 : decode b_M_thrifty 4 = .ok (.aload_n 0, 1) := by decide +kernel
theorem d_M_thrifty_5 : decode b_M_thrifty 5 = .ok (.getfield 36, 3) := by decide +kernel
theorem d_M_thrifty_8 : decode b_M_thrifty 8 = .ok (.ifCond .ne 49, 3) := by decide +kernel
theorem d_M_thrifty_11 : decode b_M_thrifty 11 = .ok (.iload_n 2, 1) := by decide +kernel
theorem d_M_thrifty_12 : decode b_M_thrifty 12 = .ok (.iload_n 1, 1) := by decide +kernel
theorem d_M_thrifty_13 : decode b_M_thrifty 13 = .ok (.if_icmp .ge 26, 3) := by decide +kernel
theorem d_M_thrifty_16 : decode b_M_thrifty 16 = .ok (.aload_n 0, 1) := by decide +kernel
theorem d_M_thrifty_17 : decode b_M_thrifty 17 = .ok (.getfield 36, 3) := by decide +kernel
theorem d_M_thrifty_20 : decode b_M_thrifty 20 = .ok (.ifCond .ne 19, 3) := by decide +kernel
theorem d_M_thrifty_23 : decode b_M_thrifty 23 = .ok (.iconst 2, 1) := by decide +kernel
theorem d_M_thrifty_24 : decode b_M_thrifty 24 = .ok (.iload_n 2, 1) := by decide +kernel
theorem d_M_thrifty_25 : decode b_M_thrifty 25 = .ok (.imul, 1) := by decide +kernel
theorem d_M_thrifty_26 : decode b_M_thrifty 26 = .ok (.istore_n 2, 1) := by decide +kernel
theorem d_M_thrifty_27 : decode b_M_thrifty 27 = .ok (.iconst 2, 1) := by decide +kernel
theorem d_M_thrifty_28 : decode b_M_thrifty 28 = .ok (.iload_n 3, 1) := by decide +kernel
theorem d_M_thrifty_29 : decode b_M_thrifty 29 = .ok (.imul, 1) := by decide +kernel
theorem d_M_thrifty_30 : decode b_M_thrifty 30 = .ok (.aload_n 0, 1) := by decide +kernel
theorem d_M_thrifty_31 : decode b_M_thrifty 31 = .ok (.invokevirtual 40, 3) := by decide +kernel
theorem d_M_thrifty_34 : decode b_M_thrifty 34 = .ok (.iadd, 1) := by decide +kernel
theorem d_M_thrifty_35 : decode b_M_thrifty 35 = .ok (.istore_n 3, 1) := by decide +kernel
theorem d_M_thrifty_36 : decode b_M_thrifty 36 = .ok (.goto (-25), 3) := by decide +kernel
theorem d_M_thrifty_39 : decode b_M_thrifty 39 = .ok (.iload_n 3, 1) := by decide +kernel
theorem d_M_thrifty_40 : decode b_M_thrifty 40 = .ok (.iload_n 1, 1) := by decide +kernel
theorem d_M_thrifty_41 : decode b_M_thrifty 41 = .ok (.if_icmp .ge 5, 3) := by decide +kernel
theorem d_M_thrifty_44 : decode b_M_thrifty 44 = .ok (.iload_n 3, 1) := by decide +kernel
theorem d_M_thrifty_45 : decode b_M_thrifty 45 = .ok (.ireturn, 1) := by decide +kernel
theorem d_M_thrifty_46 : decode b_M_thrifty 46 = .ok (.iload_n 2, 1) := by decide +kernel
theorem d_M_thrifty_47 : decode b_M_thrifty 47 = .ok (.iload_n 1, 1) := by decide +kernel
theorem d_M_thrifty_48 : decode b_M_thrifty 48 = .ok (.isub, 1) := by decide +kernel
theorem d_M_thrifty_49 : decode b_M_thrifty 49 = .ok (.istore_n 2, 1) := by decide +kernel
theorem d_M_thrifty_50 : decode b_M_thrifty 50 = .ok (.iload_n 3, 1) := by decide +kernel
theorem d_M_thrifty_51 : decode b_M_thrifty 51 = .ok (.iload_n 1, 1) := by decide +kernel
theorem d_M_thrifty_52 : decode b_M_thrifty 52 = .ok (.isub, 1) := by decide +kernel
theorem d_M_thrifty_53 : decode b_M_thrifty 53 = .ok (.istore_n 3, 1) := by decide +kernel
theorem d_M_thrifty_54 : decode b_M_thrifty 54 = .ok (.goto (-50), 3) := by decide +kernel
theorem d_M_thrifty_57 : decode b_M_thrifty 57 = .ok (.iload_n 3, 1) := by decide +kernel
theorem d_M_thrifty_58 : decode b_M_thrifty 58 = .ok (.ireturn, 1) := by decide +kernel
theorem d_M_coin_0 : decode b_M_coin 0 = .ok (.iload_n 1, 1) := by decide +kernel
theorem d_M_coin_1 : decode b_M_coin 1 = .ok (.istore_n 3, 1) := by decide +kernel
theorem d_M_coin_2 : decode b_M_coin 2 = .ok (.iload_n 3, 1) := by decide +kernel
theorem d_M_coin_3 : decode b_M_coin 3 = .ok (.ifCond .le 73, 3) := by decide +kernel
theorem d_M_coin_6 : decode b_M_coin 6 = .ok (.iload_n 3, 1) := by decide +kernel
theorem d_M_coin_7 : decode b_M_coin 7 = .ok (.iload_n 2, 1) := by decide +kernel
theorem d_M_coin_8 : decode b_M_coin 8 = .ok (.if_icmp .ge 68, 3) := by decide +kernel
theorem d_M_coin_11 : decode b_M_coin 11 = .ok (.aload_n 0, 1) := by decide +kernel
theorem d_M_coin_12 : decode b_M_coin 12 = .ok (.getfield 36, 3) := by decide +kernel
theorem d_M_coin_15 : decode b_M_coin 15 = .ok (.ifCond .ne 61, 3) := by decide +kernel
theorem d_M_coin_18 : decode b_M_coin 18 = .ok (.aload_n 0, 1) := by decide +kernel
theorem d_M_coin_19 : decode b_M_coin 19 = .ok (.invokevirtual 40, 3) := by decide +kernel
theorem d_M_coin_22 : decode b_M_coin 22 = .ok (.istore 4, 2) := by decide +kernel
theorem d_M_coin_24 : decode b_M_coin 24 = .ok (.iconst 2, 1) := by decide +kernel
theorem d_M_coin_25 : decode b_M_coin 25 = .ok (.iload_n 3, 1) := by decide +kernel
theorem d_M_coin_26 : decode b_M_coin 26 = .ok (.imul, 1) := by decide +kernel
theorem d_M_coin_27 : decode b_M_coin 27 = .ok (.istore_n 3, 1) := by decide +kernel
theorem d_M_coin_28 : decode b_M_coin 28 = .ok (.iload_n 3, 1) := by decide +kernel
theorem d_M_coin_29 : decode b_M_coin 29 = .ok (.iload_n 2, 1) := by decide +kernel
theorem d_M_coin_30 : decode b_M_coin 30 = .ok (.if_icmp .lt 7, 3) := by decide +kernel
theorem d_M_coin_33 : decode b_M_coin 33 = .ok (.iconst 1, 1) := by decide +kernel
theorem d_M_coin_34 : decode b_M_coin 34 = .ok (.goto 4, 3) := by decide +kernel
theorem d_M_coin_37 : decode b_M_coin 37 = .ok (.iconst 0, 1) := by decide +kernel
theorem d_M_coin_38 : decode b_M_coin 38 = .ok (.istore 5, 2) := by decide +kernel
theorem d_M_coin_40 : decode b_M_coin 40 = .ok (.iload_n 3, 1) := by decide +kernel
theorem d_M_coin_41 : decode b_M_coin 41 = .ok (.iload_n 2, 1) := by decide +kernel
theorem d_M_coin_42 : decode b_M_coin 42 = .ok (.if_icmp .lt 9, 3) := by decide +kernel
theorem d_M_coin_45 : decode b_M_coin 45 = .ok (.iload_n 3, 1) := by decide +kernel
theorem d_M_coin_46 : decode b_M_coin 46 = .ok (.iload_n 2, 1) := by decide +kernel
theorem d_M_coin_47 : decode b_M_coin 47 = .ok (.isub, 1) := by decide +kernel
theorem d_M_coin_48 : decode b_M_coin 48 = .ok (.goto 4, 3) := by decide +kernel
theorem d_M_coin_51 : decode b_M_coin 51 = .ok (.iload_n 3, 1) := by decide +kernel
theorem d_M_coin_52 : decode b_M_coin 52 = .ok (.istore_n 3, 1) := by decide +kernel
theorem d_M_coin_53 : decode b_M_coin 53 = .ok (.iload 4, 2) := by decide +kernel
theorem d_M_coin_55 : decode b_M_coin 55 = .ok (.iload 5, 2) := by decide +kernel
theorem d_M_coin_57 : decode b_M_coin 57 = .ok (.if_icmp .eq 16, 3) := by decide +kernel
theorem d_M_coin_60 : decode b_M_coin 60 = .ok (.iload 4, 2) := by decide +kernel
theorem d_M_coin_62 : decode b_M_coin 62 = .ok (.iload 5, 2) := by decide +kernel
theorem d_M_coin_64 : decode b_M_coin 64 = .ok (.if_icmp .ge 7, 3) := by decide +kernel
theorem d_M_coin_67 : decode b_M_coin 67 = .ok (.iconst 1, 1) := by decide +kernel
theorem d_M_coin_68 : decode b_M_coin 68 = .ok (.goto 4, 3) := by decide +kernel
theorem d_M_coin_71 : decode b_M_coin 71 = .ok (.iconst 0, 1) := by decide +kernel
theorem d_M_coin_72 : decode b_M_coin 72 = .ok (.ireturn, 1) := by decide +kernel
theorem d_M_coin_73 : decode b_M_coin 73 = .ok (.goto (-71), 3) := by decide +kernel
theorem d_M_coin_76 : decode b_M_coin 76 = .ok (.iload_n 3, 1) := by decide +kernel
theorem d_M_coin_77 : decode b_M_coin 77 = .ok (.ifCond .ne 7, 3) := by decide +kernel
theorem d_M_coin_80 : decode b_M_coin 80 = .ok (.iconst 0, 1) := by decide +kernel
theorem d_M_coin_81 : decode b_M_coin 81 = .ok (.goto 4, 3) := by decide +kernel
theorem d_M_coin_84 : decode b_M_coin 84 = .ok (.iconst 1, 1) := by decide +kernel
theorem d_M_coin_85 : decode b_M_coin 85 = .ok (.ireturn, 1) := by decide +kernel
theorem d_M_order_0 : decode b_M_order 0 = .ok (.iconst 0, 1) := by decide +kernel
theorem d_M_order_1 : decode b_M_order 1 = .ok (.istore_n 2, 1) := by decide +kernel
theorem d_M_order_2 : decode b_M_order 2 = .ok (.iload_n 2, 1) := by decide +kernel
theorem d_M_order_3 : decode b_M_order 3 = .ok (.iload_n 1, 1) := by decide +kernel
theorem d_M_order_4 : decode b_M_order 4 = .ok (.if_icmp .ge 16, 3) := by decide +kernel
theorem d_M_order_7 : decode b_M_order 7 = .ok (.aload_n 0, 1) := by decide +kernel
theorem d_M_order_8 : decode b_M_order 8 = .ok (.getfield 19, 3) := by decide +kernel
theorem d_M_order_11 : decode b_M_order 11 = .ok (.iload_n 2, 1) := by decide +kernel
theorem d_M_order_12 : decode b_M_order 12 = .ok (.iload_n 2, 1) := by decide +kernel
theorem d_M_order_13 : decode b_M_order 13 = .ok (.iastore, 1) := by decide +kernel
theorem d_M_order_14 : decode b_M_order 14 = .ok (.iinc 2 1, 3) := by decide +kernel
theorem d_M_order_17 : decode b_M_order 17 = .ok (.goto (-15), 3) := by decide +kernel
theorem d_M_order_20 : decode b_M_order 20 = .ok (.iload_n 1, 1) := by decide +kernel
theorem d_M_order_21 : decode b_M_order 21 = .ok (.iconst 1, 1) := by decide +kernel
theorem d_M_order_22 : decode b_M_order 22 = .ok (.isub, 1) := by decide +kernel
theorem d_M_order_23 : decode b_M_order 23 = .ok (.istore_n 2, 1) := by decide +kernel
theorem d_M_order_24 : decode b_M_order 24 = .ok (.iload_n 2, 1) := by decide +kernel
theorem d_M_order_25 : decode b_M_order 25 = .ok (.ifCond .le 59, 3) := by decide +kernel
theorem d_M_order_28 : decode b_M_order 28 = .ok (.aload_n 0, 1) := by decide +kernel
theorem d_M_order_29 : decode b_M_order 29 = .ok (.getfield 36, 3) := by decide +kernel
theorem d_M_order_32 : decode b_M_order 32 = .ok (.ifCond .ne 52, 3) := by decide +kernel
theorem d_M_order_35 : decode b_M_order 35 = .ok (.aload_n 0, 1) := by decide +kernel
theorem d_M_order_36 : decode b_M_order 36 = .ok (.iload_n 2, 1) := by decide +kernel
theorem d_M_order_37 : decode b_M_order 37 = .ok (.iconst 1, 1) := by decide +kernel
theorem d_M_order_38 : decode b_M_order 38 = .ok (.iadd, 1) := by decide +kernel
theorem d_M_order_39 : decode b_M_order 39 = .ok (.invokevirtual 43, 3) := by decide +kernel
theorem d_M_order_42 : decode b_M_order 42 = .ok (.istore_n 3, 1) := by decide +kernel
theorem d_M_order_43 : decode b_M_order 43 = .ok (.aload_n 0, 1) := by decide +kernel
theorem d_M_order_44 : decode b_M_order 44 = .ok (.getfield 36, 3) := by decide +kernel
theorem d_M_order_47 : decode b_M_order 47 = .ok (.ifCond .ne 31, 3) := by decide +kernel
theorem d_M_order_50 : decode b_M_order 50 = .ok (.aload_n 0, 1) := by decide +kernel
theorem d_M_order_51 : decode b_M_order 51 = .ok (.getfield 19, 3) := by decide +kernel
theorem d_M_order_54 : decode b_M_order 54 = .ok (.iload_n 2, 1) := by decide +kernel
theorem d_M_order_55 : decode b_M_order 55 = .ok (.iaload, 1) := by decide +kernel
theorem d_M_order_56 : decode b_M_order 56 = .ok (.istore 4, 2) := by decide +kernel
theorem d_M_order_58 : decode b_M_order 58 = .ok (.aload_n 0, 1) := by decide +kernel
theorem d_M_order_59 : decode b_M_order 59 = .ok (.getfield 19, 3) := by decide +kernel
theorem d_M_order_62 : decode b_M_order 62 = .ok (.iload_n 2, 1) := by decide +kernel
theorem d_M_order_63 : decode b_M_order 63 = .ok (.aload_n 0, 1) := by decide +kernel
theorem d_M_order_64 : decode b_M_order 64 = .ok (.getfield 19, 3) := by decide +kernel
theorem d_M_order_67 : decode b_M_order 67 = .ok (.iload_n 3, 1) := by decide +kernel
theorem d_M_order_68 : decode b_M_order 68 = .ok (.iaload, 1) := by decide +kernel
theorem d_M_order_69 : decode b_M_order 69 = .ok (.iastore, 1) := by decide +kernel
theorem d_M_order_70 : decode b_M_order 70 = .ok (.aload_n 0, 1) := by decide +kernel
theorem d_M_order_71 : decode b_M_order 71 = .ok (.getfield 19, 3) := by decide +kernel
theorem d_M_order_74 : decode b_M_order 74 = .ok (.iload_n 3, 1) := by decide +kernel
theorem d_M_order_75 : decode b_M_order 75 = .ok (.iload 4, 2) := by decide +kernel
theorem d_M_order_77 : decode b_M_order 77 = .ok (.iastore, 1) := by decide +kernel
theorem d_M_order_78 : decode b_M_order 78 = .ok (.iinc 2 (-1), 3) := by decide +kernel
theorem d_M_order_81 : decode b_M_order 81 = .ok (.goto (-57), 3) := by decide +kernel
theorem d_M_order_84 : decode b_M_order 84 = .ok (.iconst 0, 1) := by decide +kernel
theorem d_M_order_85 : decode b_M_order 85 = .ok (.istore_n 2, 1) := by decide +kernel
theorem d_M_order_86 : decode b_M_order 86 = .ok (.iconst 0, 1) := by decide +kernel
theorem d_M_order_87 : decode b_M_order 87 = .ok (.istore_n 3, 1) := by decide +kernel
end
section
theorem d_M_order_88 : decode b_M_order 88 = .ok (.iload_n 3, 1) := by decide +kernel
theorem d_M_order_89 : decode b_M_order 89 = .ok (.iload_n 1, 1) := by decide +kernel
theorem d_M_order_90 : decode b_M_order 90 = .ok (.if_icmp .ge 75, 3) := by decide +kernel
theorem d_M_order_93 : decode b_M_order 93 = .ok (.iconst 0, 1) := by decide +kernel
theorem d_M_order_94 : decode b_M_order 94 = .ok (.istore 4, 2) := by decide +kernel
theorem d_M_order_96 : decode b_M_order 96 = .ok (.iconst 1, 1) := by decide +kernel
theorem d_M_order_97 : decode b_M_order 97 = .ok (.istore 5, 2) := by decide +kernel
theorem d_M_order_99 : decode b_M_order 99 = .ok (.iload_n 3, 1) := by decide +kernel
theorem d_M_order_100 : decode b_M_order 100 = .ok (.iconst 1, 1) := by decide +kernel
theorem d_M_order_101 : decode b_M_order 101 = .ok (.iadd, 1) := by decide +kernel
theorem d_M_order_102 : decode b_M_order 102 = .ok (.istore 6, 2) := by decide +kernel
theorem d_M_order_104 : decode b_M_order 104 = .ok (.iload 6, 2) := by decide +kernel
theorem d_M_order_106 : decode b_M_order 106 = .ok (.iload_n 1, 1) := by decide +kernel
theorem d_M_order_107 : decode b_M_order 107 = .ok (.if_icmp .ge 44, 3) := by decide +kernel
theorem d_M_order_110 : decode b_M_order 110 = .ok (.iload 4, 2) := by decide +kernel
theorem d_M_order_112 : decode b_M_order 112 = .ok (.aload_n 0, 1) := by decide +kernel
theorem d_M_order_113 : decode b_M_order 113 = .ok (.getfield 19, 3) := by decide +kernel
theorem d_M_order_116 : decode b_M_order 116 = .ok (.iload 6, 2) := by decide +kernel
theorem d_M_order_118 : decode b_M_order 118 = .ok (.iaload, 1) := by decide +kernel
theorem d_M_order_119 : decode b_M_order 119 = .ok (.aload_n 0, 1) := by decide +kernel
theorem d_M_order_120 : decode b_M_order 120 = .ok (.getfield 19, 3) := by decide +kernel
theorem d_M_order_123 : decode b_M_order 123 = .ok (.iload_n 3, 1) := by decide +kernel
theorem d_M_order_124 : decode b_M_order 124 = .ok (.iaload, 1) := by decide +kernel
theorem d_M_order_125 : decode b_M_order 125 = .ok (.if_icmp .ge 7, 3) := by decide +kernel
theorem d_M_order_128 : decode b_M_order 128 = .ok (.iconst 1, 1) := by decide +kernel
theorem d_M_order_129 : decode b_M_order 129 = .ok (.goto 4, 3) := by decide +kernel
theorem d_M_order_132 : decode b_M_order 132 = .ok (.iconst 0, 1) := by decide +kernel
theorem d_M_order_133 : decode b_M_order 133 = .ok (.iadd, 1) := by decide +kernel
theorem d_M_order_134 : decode b_M_order 134 = .ok (.istore 4, 2) := by decide +kernel
theorem d_M_order_136 : decode b_M_order 136 = .ok (.iload 5, 2) := by decide +kernel
theorem d_M_order_138 : decode b_M_order 138 = .ok (.iload 6, 2) := by decide +kernel
theorem d_M_order_140 : decode b_M_order 140 = .ok (.iload_n 3, 1) := by decide +kernel
theorem d_M_order_141 : decode b_M_order 141 = .ok (.isub, 1) := by decide +kernel
theorem d_M_order_142 : decode b_M_order 142 = .ok (.imul, 1) := by decide +kernel
theorem d_M_order_143 : decode b_M_order 143 = .ok (.istore 5, 2) := by decide +kernel
theorem d_M_order_145 : decode b_M_order 145 = .ok (.iinc 6 1, 3) := by decide +kernel
theorem d_M_order_148 : decode b_M_order 148 = .ok (.goto (-44), 3) := by decide +kernel
theorem d_M_order_151 : decode b_M_order 151 = .ok (.iload_n 2, 1) := by decide +kernel
theorem d_M_order_152 : decode b_M_order 152 = .ok (.iload 4, 2) := by decide +kernel
theorem d_M_order_154 : decode b_M_order 154 = .ok (.iload 5, 2) := by decide +kernel
theorem d_M_order_156 : decode b_M_order 156 = .ok (.imul, 1) := by decide +kernel
theorem d_M_order_157 : decode b_M_order 157 = .ok (.iadd, 1) := by decide +kernel
theorem d_M_order_158 : decode b_M_order 158 = .ok (.istore_n 2, 1) := by decide +kernel
theorem d_M_order_159 : decode b_M_order 159 = .ok (.iinc 3 1, 3) := by decide +kernel
theorem d_M_order_162 : decode b_M_order 162 = .ok (.goto (-74), 3) := by decide +kernel
theorem d_M_order_165 : decode b_M_order 165 = .ok (.iload_n 2, 1) := by decide +kernel
theorem d_M_order_166 : decode b_M_order 166 = .ok (.ireturn, 1) := by decide +kernel
theorem d_M_choice_0 : decode b_M_choice 0 = .ok (.iconst 0, 1) := by decide +kernel
theorem d_M_choice_1 : decode b_M_choice 1 = .ok (.istore_n 3, 1) := by decide +kernel
theorem d_M_choice_2 : decode b_M_choice 2 = .ok (.iconst 0, 1) := by decide +kernel
theorem d_M_choice_3 : decode b_M_choice 3 = .ok (.istore 4, 2) := by decide +kernel
theorem d_M_choice_5 : decode b_M_choice 5 = .ok (.iconst 0, 1) := by decide +kernel
theorem d_M_choice_6 : decode b_M_choice 6 = .ok (.istore 5, 2) := by decide +kernel
theorem d_M_choice_8 : decode b_M_choice 8 = .ok (.iload 5, 2) := by decide +kernel
theorem d_M_choice_10 : decode b_M_choice 10 = .ok (.iload_n 1, 1) := by decide +kernel
theorem d_M_choice_11 : decode b_M_choice 11 = .ok (.if_icmp .ge 43, 3) := by decide +kernel
theorem d_M_choice_14 : decode b_M_choice 14 = .ok (.aload_n 0, 1) := by decide +kernel
theorem d_M_choice_15 : decode b_M_choice 15 = .ok (.getfield 36, 3) := by decide +kernel
theorem d_M_choice_18 : decode b_M_choice 18 = .ok (.ifCond .ne 36, 3) := by decide +kernel
theorem d_M_choice_21 : decode b_M_choice 21 = .ok (.aload_n 0, 1) := by decide +kernel
theorem d_M_choice_22 : decode b_M_choice 22 = .ok (.iload_n 2, 1) := by decide +kernel
theorem d_M_choice_23 : decode b_M_choice 23 = .ok (.iload_n 3, 1) := by decide +kernel
theorem d_M_choice_24 : decode b_M_choice 24 = .ok (.isub, 1) := by decide +kernel
theorem d_M_choice_25 : decode b_M_choice 25 = .ok (.iload_n 1, 1) := by decide +kernel
theorem d_M_choice_26 : decode b_M_choice 26 = .ok (.iload 5, 2) := by decide +kernel
theorem d_M_choice_28 : decode b_M_choice 28 = .ok (.isub, 1) := by decide +kernel
theorem d_M_choice_29 : decode b_M_choice 29 = .ok (.invokevirtual 47, 3) := by decide +kernel
theorem d_M_choice_32 : decode b_M_choice 32 = .ok (.iconst 1, 1) := by decide +kernel
theorem d_M_choice_33 : decode b_M_choice 33 = .ok (.if_icmp .ne 15, 3) := by decide +kernel
theorem d_M_choice_36 : decode b_M_choice 36 = .ok (.iinc 3 1, 3) := by decide +kernel
theorem d_M_choice_39 : decode b_M_choice 39 = .ok (.iload 4, 2) := by decide +kernel
theorem d_M_choice_41 : decode b_M_choice 41 = .ok (.iconst 1, 1) := by decide +kernel
theorem d_M_choice_42 : decode b_M_choice 42 = .ok (.iload 5, 2) := by decide +kernel
theorem d_M_choice_44 : decode b_M_choice 44 = .ok (.ishl, 1) := by decide +kernel
theorem d_M_choice_45 : decode b_M_choice 45 = .ok (.iadd, 1) := by decide +kernel
theorem d_M_choice_46 : decode b_M_choice 46 = .ok (.istore 4, 2) := by decide +kernel
theorem d_M_choice_48 : decode b_M_choice 48 = .ok (.iinc 5 1, 3) := by decide +kernel
theorem d_M_choice_51 : decode b_M_choice 51 = .ok (.goto (-43), 3) := by decide +kernel
theorem d_M_choice_54 : decode b_M_choice 54 = .ok (.iload 4, 2) := by decide +kernel
theorem d_M_choice_56 : decode b_M_choice 56 = .ok (.ireturn, 1) := by decide +kernel
theorem d_M_share_0 : decode b_M_share 0 = .ok (.aload_n 0, 1) := by decide +kernel
theorem d_M_share_1 : decode b_M_share 1 = .ok (.aload_n 0, 1) := by decide +kernel
theorem d_M_share_2 : decode b_M_share 2 = .ok (.invokevirtual 26, 3) := by decide +kernel
theorem d_M_share_5 : decode b_M_share 5 = .ok (.invokevirtual 43, 3) := by decide +kernel
theorem d_M_share_8 : decode b_M_share 8 = .ok (.istore_n 1, 1) := by decide +kernel
theorem d_M_share_9 : decode b_M_share 9 = .ok (.iconst 0, 1) := by decide +kernel
theorem d_M_share_10 : decode b_M_share 10 = .ok (.istore_n 2, 1) := by decide +kernel
theorem d_M_share_11 : decode b_M_share 11 = .ok (.aload_n 0, 1) := by decide +kernel
theorem d_M_share_12 : decode b_M_share 12 = .ok (.getfield 7, 3) := by decide +kernel
theorem d_M_share_15 : decode b_M_share 15 = .ok (.iconst 0, 1) := by decide +kernel
theorem d_M_share_16 : decode b_M_share 16 = .ok (.iaload, 1) := by decide +kernel
theorem d_M_share_17 : decode b_M_share 17 = .ok (.istore_n 3, 1) := by decide +kernel
theorem d_M_share_18 : decode b_M_share 18 = .ok (.iload_n 2, 1) := by decide +kernel
theorem d_M_share_19 : decode b_M_share 19 = .ok (.bipush 7, 2) := by decide +kernel
theorem d_M_share_21 : decode b_M_share 21 = .ok (.if_icmp .ge 23, 3) := by decide +kernel
theorem d_M_share_24 : decode b_M_share 24 = .ok (.iload_n 3, 1) := by decide +kernel
theorem d_M_share_25 : decode b_M_share 25 = .ok (.iload_n 1, 1) := by decide +kernel
theorem d_M_share_26 : decode b_M_share 26 = .ok (.if_icmp .gt 18, 3) := by decide +kernel
theorem d_M_share_29 : decode b_M_share 29 = .ok (.iinc 2 1, 3) := by decide +kernel
theorem d_M_share_32 : decode b_M_share 32 = .ok (.iload_n 3, 1) := by decide +kernel
theorem d_M_share_33 : decode b_M_share 33 = .ok (.aload_n 0, 1) := by decide +kernel
theorem d_M_share_34 : decode b_M_share 34 = .ok (.getfield 7, 3) := by decide +kernel
theorem d_M_share_37 : decode b_M_share 37 = .ok (.iload_n 2, 1) := by decide +kernel
theorem d_M_share_38 : decode b_M_share 38 = .ok (.iaload, 1) := by decide +kernel
theorem d_M_share_39 : decode b_M_share 39 = .ok (.iadd, 1) := by decide +kernel
theorem d_M_share_40 : decode b_M_share 40 = .ok (.istore_n 3, 1) := by decide +kernel
theorem d_M_share_41 : decode b_M_share 41 = .ok (.goto (-23), 3) := by decide +kernel
theorem d_M_share_44 : decode b_M_share 44 = .ok (.iload_n 2, 1) := by decide +kernel
theorem d_M_share_45 : decode b_M_share 45 = .ok (.ireturn, 1) := by decide +kernel
theorem d_M_run_0 : decode b_M_run 0 = .ok (.aload_n 0, 1) := by decide +kernel
theorem d_M_run_1 : decode b_M_run 1 = .ok (.iconst 0, 1) := by decide +kernel
theorem d_M_run_2 : decode b_M_run 2 = .ok (.putfield 30, 3) := by decide +kernel
theorem d_M_run_5 : decode b_M_run 5 = .ok (.aload_n 0, 1) := by decide +kernel
theorem d_M_run_6 : decode b_M_run 6 = .ok (.iconst 0, 1) := by decide +kernel
theorem d_M_run_7 : decode b_M_run 7 = .ok (.putfield 36, 3) := by decide +kernel
theorem d_M_run_10 : decode b_M_run 10 = .ok (.iload_n 1, 1) := by decide +kernel
theorem d_M_run_11 : decode b_M_run 11 = .ok (.tableswitch 135 0 6 #[41, 47, 53, 60, 90, 122, 128], 41) := by decide +kernel
theorem d_M_run_52 : decode b_M_run 52 = .ok (.aload_n 0, 1) := by decide +kernel
theorem d_M_run_53 : decode b_M_run 53 = .ok (.iload_n 2, 1) := by decide +kernel
theorem d_M_run_54 : decode b_M_run 54 = .ok (.invokevirtual 43, 3) := by decide +kernel
theorem d_M_run_57 : decode b_M_run 57 = .ok (.ireturn, 1) := by decide +kernel
theorem d_M_run_58 : decode b_M_run 58 = .ok (.aload_n 0, 1) := by decide +kernel
theorem d_M_run_59 : decode b_M_run 59 = .ok (.iload_n 2, 1) := by decide +kernel
theorem d_M_run_60 : decode b_M_run 60 = .ok (.invokevirtual 51, 3) := by decide +kernel
theorem d_M_run_63 : decode b_M_run 63 = .ok (.ireturn, 1) := by decide +kernel
theorem d_M_run_64 : decode b_M_run 64 = .ok (.aload_n 0, 1) := by decide +kernel
theorem d_M_run_65 : decode b_M_run 65 = .ok (.iload_n 2, 1) := by decide +kernel
theorem d_M_run_66 : decode b_M_run 66 = .ok (.iload_n 3, 1) := by decide +kernel
theorem d_M_run_67 : decode b_M_run 67 = .ok (.invokevirtual 47, 3) := by decide +kernel
theorem d_M_run_70 : decode b_M_run 70 = .ok (.ireturn, 1) := by decide +kernel
theorem d_M_run_71 : decode b_M_run 71 = .ok (.iconst 0, 1) := by decide +kernel
theorem d_M_run_72 : decode b_M_run 72 = .ok (.istore 4, 2) := by decide +kernel
theorem d_M_run_74 : decode b_M_run 74 = .ok (.iconst 0, 1) := by decide +kernel
theorem d_M_run_75 : decode b_M_run 75 = .ok (.istore 5, 2) := by decide +kernel
theorem d_M_run_77 : decode b_M_run 77 = .ok (.iload 5, 2) := by decide +kernel
theorem d_M_run_79 : decode b_M_run 79 = .ok (.iload_n 2, 1) := by decide +kernel
theorem d_M_run_80 : decode b_M_run 80 = .ok (.if_icmp .ge 18, 3) := by decide +kernel
theorem d_M_run_83 : decode b_M_run 83 = .ok (.iload 4, 2) := by decide +kernel
theorem d_M_run_85 : decode b_M_run 85 = .ok (.aload_n 0, 1) := by decide +kernel
theorem d_M_run_86 : decode b_M_run 86 = .ok (.invokevirtual 40, 3) := by decide +kernel
theorem d_M_run_89 : decode b_M_run 89 = .ok (.iadd, 1) := by decide +kernel
theorem d_M_run_90 : decode b_M_run 90 = .ok (.istore 4, 2) := by decide +kernel
theorem d_M_run_92 : decode b_M_run 92 = .ok (.iinc 5 1, 3) := by decide +kernel
theorem d_M_run_95 : decode b_M_run 95 = .ok (.goto (-18), 3) := by decide +kernel
theorem d_M_run_98 : decode b_M_run 98 = .ok (.iload 4, 2) := by decide +kernel
theorem d_M_run_100 : decode b_M_run 100 = .ok (.ireturn, 1) := by decide +kernel
theorem d_M_run_101 : decode b_M_run 101 = .ok (.iconst 0, 1) := by decide +kernel
theorem d_M_run_102 : decode b_M_run 102 = .ok (.istore 5, 2) := by decide +kernel
theorem d_M_run_104 : decode b_M_run 104 = .ok (.iload 5, 2) := by decide +kernel
theorem d_M_run_106 : decode b_M_run 106 = .ok (.iload_n 2, 1) := by decide +kernel
theorem d_M_run_107 : decode b_M_run 107 = .ok (.if_icmp .ge 23, 3) := by decide +kernel
theorem d_M_run_110 : decode b_M_run 110 = .ok (.aload_n 0, 1) := by decide +kernel
theorem d_M_run_111 : decode b_M_run 111 = .ok (.getfield 36, 3) := by decide +kernel
theorem d_M_run_114 : decode b_M_run 114 = .ok (.ifCond .ne 16, 3) := by decide +kernel
theorem d_M_run_117 : decode b_M_run 117 = .ok (.aload_n 0, 1) := by decide +kernel
theorem d_M_run_118 : decode b_M_run 118 = .ok (.invokevirtual 40, 3) := by decide +kernel
theorem d_M_run_121 : decode b_M_run 121 = .ok (.ifCond .ne 9, 3) := by decide +kernel
theorem d_M_run_124 : decode b_M_run 124 = .ok (.iinc 5 1, 3) := by decide +kernel
theorem d_M_run_127 : decode b_M_run 127 = .ok (.goto (-23), 3) := by decide +kernel
theorem d_M_run_130 : decode b_M_run 130 = .ok (.iload 5, 2) := by decide +kernel
theorem d_M_run_132 : decode b_M_run 132 = .ok (.ireturn, 1) := by decide +kernel
theorem d_M_run_133 : decode b_M_run 133 = .ok (.aload_n 0, 1) := by decide +kernel
theorem d_M_run_134 : decode b_M_run 134 = .ok (.iload_n 2, 1) := by decide +kernel
theorem d_M_run_135 : decode b_M_run 135 = .ok (.invokevirtual 54, 3) := by decide +kernel
theorem d_M_run_138 : decode b_M_run 138 = .ok (.ireturn, 1) := by decide +kernel
theorem d_M_run_139 : decode b_M_run 139 = .ok (.aload_n 0, 1) := by decide +kernel
theorem d_M_run_140 : decode b_M_run 140 = .ok (.iload_n 2, 1) := by decide +kernel
theorem d_M_run_141 : decode b_M_run 141 = .ok (.iload_n 3, 1) := by decide +kernel
theorem d_M_run_142 : decode b_M_run 142 = .ok (.invokevirtual 57, 3) := by decide +kernel
theorem d_M_run_145 : decode b_M_run 145 = .ok (.ireturn, 1) := by decide +kernel
theorem d_M_run_146 : decode b_M_run 146 = .ok (.aload_n 0, 1) := by decide +kernel
theorem d_M_run_147 : decode b_M_run 147 = .ok (.invokevirtual 60, 3) := by decide +kernel
theorem d_M_run_150 : decode b_M_run 150 = .ok (.ireturn, 1) := by decide +kernel
theorem d_M_draw_0 : decode b_M_draw 0 = .ok (.aload_n 0, 1) := by decide +kernel
theorem d_M_draw_1 : decode b_M_draw 1 = .ok (.iload_n 1, 1) := by decide +kernel
theorem d_M_draw_2 : decode b_M_draw 2 = .ok (.iload_n 2, 1) := by decide +kernel
theorem d_M_draw_3 : decode b_M_draw 3 = .ok (.iload_n 3, 1) := by decide +kernel
theorem d_M_draw_4 : decode b_M_draw 4 = .ok (.invokevirtual 63, 3) := by decide +kernel
theorem d_M_draw_7 : decode b_M_draw 7 = .ok (.ifCond .ne 5, 3) := by decide +kernel
theorem d_M_draw_10 : decode b_M_draw 10 = .ok (.iconst (-1), 1) := by decide +kernel
theorem d_M_draw_11 : decode b_M_draw 11 = .ok (.ireturn, 1) := by decide +kernel
theorem d_M_draw_12 : decode b_M_draw 12 = .ok (.iconst 0, 1) := by decide +kernel
theorem d_M_draw_13 : decode b_M_draw 13 = .ok (.istore 4, 2) := by decide +kernel
theorem d_M_draw_15 : decode b_M_draw 15 = .ok (.iload 4, 2) := by decide +kernel
theorem d_M_draw_17 : decode b_M_draw 17 = .ok (.aload_n 0, 1) := by decide +kernel
theorem d_M_draw_18 : decode b_M_draw 18 = .ok (.getfield 22, 3) := by decide +kernel
theorem d_M_draw_21 : decode b_M_draw 21 = .ok (.if_icmp .ge 23, 3) := by decide +kernel
theorem d_M_draw_24 : decode b_M_draw 24 = .ok (.aload_n 0, 1) := by decide +kernel
theorem d_M_draw_25 : decode b_M_draw 25 = .ok (.getfield 16, 3) := by decide +kernel
theorem d_M_draw_28 : decode b_M_draw 28 = .ok (.iload 4, 2) := by decide +kernel
theorem d_M_draw_30 : decode b_M_draw 30 = .ok (.aload_n 0, 1) := by decide +kernel
theorem d_M_draw_31 : decode b_M_draw 31 = .ok (.getfield 13, 3) := by decide +kernel
theorem d_M_draw_34 : decode b_M_draw 34 = .ok (.iload 4, 2) := by decide +kernel
theorem d_M_draw_36 : decode b_M_draw 36 = .ok (.iaload, 1) := by decide +kernel
theorem d_M_draw_37 : decode b_M_draw 37 = .ok (.iastore, 1) := by decide +kernel
theorem d_M_draw_38 : decode b_M_draw 38 = .ok (.iinc 4 1, 3) := by decide +kernel
theorem d_M_draw_41 : decode b_M_draw 41 = .ok (.goto (-26), 3) := by decide +kernel
theorem d_M_draw_44 : decode b_M_draw 44 = .ok (.aload_n 0, 1) := by decide +kernel
theorem d_M_draw_45 : decode b_M_draw 45 = .ok (.aload_n 0, 1) := by decide +kernel
theorem d_M_draw_46 : decode b_M_draw 46 = .ok (.getfield 22, 3) := by decide +kernel
theorem d_M_draw_49 : decode b_M_draw 49 = .ok (.putfield 33, 3) := by decide +kernel
theorem d_M_draw_52 : decode b_M_draw 52 = .ok (.aload_n 0, 1) := by decide +kernel
theorem d_M_draw_53 : decode b_M_draw 53 = .ok (.iload_n 1, 1) := by decide +kernel
theorem d_M_draw_54 : decode b_M_draw 54 = .ok (.iload_n 2, 1) := by decide +kernel
theorem d_M_draw_55 : decode b_M_draw 55 = .ok (.iload_n 3, 1) := by decide +kernel
theorem d_M_draw_56 : decode b_M_draw 56 = .ok (.invokevirtual 67, 3) := by decide +kernel
theorem d_M_draw_59 : decode b_M_draw 59 = .ok (.istore 4, 2) := by decide +kernel
theorem d_M_draw_61 : decode b_M_draw 61 = .ok (.aload_n 0, 1) := by decide +kernel
theorem d_M_draw_62 : decode b_M_draw 62 = .ok (.getfield 36, 3) := by decide +kernel
theorem d_M_draw_65 : decode b_M_draw 65 = .ok (.ifCond .eq 5, 3) := by decide +kernel
theorem d_M_draw_68 : decode b_M_draw 68 = .ok (.iconst (-1), 1) := by decide +kernel
theorem d_M_draw_69 : decode b_M_draw 69 = .ok (.ireturn, 1) := by decide +kernel
theorem d_M_draw_70 : decode b_M_draw 70 = .ok (.aload_n 0, 1) := by decide +kernel
theorem d_M_draw_71 : decode b_M_draw 71 = .ok (.getfield 30, 3) := by decide +kernel
theorem d_M_draw_74 : decode b_M_draw 74 = .ok (.istore 5, 2) := by decide +kernel
theorem d_M_draw_76 : decode b_M_draw 76 = .ok (.iload 5, 2) := by decide +kernel
theorem d_M_draw_78 : decode b_M_draw 78 = .ok (.aload_n 0, 1) := by decide +kernel
theorem d_M_draw_79 : decode b_M_draw 79 = .ok (.getfield 22, 3) := by decide +kernel
theorem d_M_draw_82 : decode b_M_draw 82 = .ok (.if_icmp .ge 28, 3) := by decide +kernel
theorem d_M_draw_85 : decode b_M_draw 85 = .ok (.aload_n 0, 1) := by decide +kernel
theorem d_M_draw_86 : decode b_M_draw 86 = .ok (.getfield 13, 3) := by decide +kernel
theorem d_M_draw_89 : decode b_M_draw 89 = .ok (.iload 5, 2) := by decide +kernel
theorem d_M_draw_91 : decode b_M_draw 91 = .ok (.aload_n 0, 1) := by decide +kernel
theorem d_M_draw_92 : decode b_M_draw 92 = .ok (.getfield 30, 3) := by decide +kernel
theorem d_M_draw_95 : decode b_M_draw 95 = .ok (.isub, 1) := by decide +kernel
theorem d_M_draw_96 : decode b_M_draw 96 = .ok (.aload_n 0, 1) := by decide +kernel
theorem d_M_draw_97 : decode b_M_draw 97 = .ok (.getfield 13, 3) := by decide +kernel
theorem d_M_draw_100 : decode b_M_draw 100 = .ok (.iload 5, 2) := by decide +kernel
theorem d_M_draw_102 : decode b_M_draw 102 = .ok (.iaload, 1) := by decide +kernel
theorem d_M_draw_103 : decode b_M_draw 103 = .ok (.iastore, 1) := by decide +kernel
theorem d_M_draw_104 : decode b_M_draw 104 = .ok (.iinc 5 1, 3) := by decide +kernel
theorem d_M_draw_107 : decode b_M_draw 107 = .ok (.goto (-31), 3) := by decide +kernel
theorem d_M_draw_110 : decode b_M_draw 110 = .ok (.aload_n 0, 1) := by decide +kernel
theorem d_M_draw_111 : decode b_M_draw 111 = .ok (.dup, 1) := by decide +kernel
theorem d_M_draw_112 : decode b_M_draw 112 = .ok (.getfield 22, 3) := by decide +kernel
theorem d_M_draw_115 : decode b_M_draw 115 = .ok (.aload_n 0, 1) := by decide +kernel
theorem d_M_draw_116 : decode b_M_draw 116 = .ok (.getfield 30, 3) := by decide +kernel
theorem d_M_draw_119 : decode b_M_draw 119 = .ok (.isub, 1) := by decide +kernel
theorem d_M_draw_120 : decode b_M_draw 120 = .ok (.putfield 22, 3) := by decide +kernel
theorem d_M_draw_123 : decode b_M_draw 123 = .ok (.aload_n 0, 1) := by decide +kernel
theorem d_M_draw_124 : decode b_M_draw 124 = .ok (.aload_n 0, 1) := by decide +kernel
theorem d_M_draw_125 : decode b_M_draw 125 = .ok (.getfield 30, 3) := by decide +kernel
theorem d_M_draw_128 : decode b_M_draw 128 = .ok (.putfield 71, 3) := by decide +kernel
theorem d_M_draw_131 : decode b_M_draw 131 = .ok (.iload 4, 2) := by decide +kernel
theorem d_M_draw_133 : decode b_M_draw 133 = .ok (.ireturn, 1) := by decide +kernel
theorem d_M_spent_0 : decode b_M_spent 0 = .ok (.aload_n 0, 1) := by decide +kernel
theorem d_M_spent_1 : decode b_M_spent 1 = .ok (.getfield 71, 3) := by decide +kernel
theorem d_M_spent_4 : decode b_M_spent 4 = .ok (.ireturn, 1) := by decide +kernel
theorem d_M_tryAll_0 : decode b_M_tryAll 0 = .ok (.aload_n 0, 1) := by decide +kernel
theorem d_M_tryAll_1 : decode b_M_tryAll 1 = .ok (.iconst 0, 1) := by decide +kernel
theorem d_M_tryAll_2 : decode b_M_tryAll 2 = .ok (.putfield 74, 3) := by decide +kernel
theorem d_M_tryAll_5 : decode b_M_tryAll 5 = .ok (.aload_n 0, 1) := by decide +kernel
theorem d_M_tryAll_6 : decode b_M_tryAll 6 = .ok (.iconst 0, 1) := by decide +kernel
theorem d_M_tryAll_7 : decode b_M_tryAll 7 = .ok (.putfield 77, 3) := by decide +kernel
theorem d_M_tryAll_10 : decode b_M_tryAll 10 = .ok (.aload_n 0, 1) := by decide +kernel
theorem d_M_tryAll_11 : decode b_M_tryAll 11 = .ok (.iconst 0, 1) := by decide +kernel
theorem d_M_tryAll_12 : decode b_M_tryAll 12 = .ok (.putfield 80, 3) := by decide +kernel
theorem d_M_tryAll_15 : decode b_M_tryAll 15 = .ok (.aload_n 0, 1) := by decide +kernel
theorem d_M_tryAll_16 : decode b_M_tryAll 16 = .ok (.iload 4, 2) := by decide +kernel
theorem d_M_tryAll_18 : decode b_M_tryAll 18 = .ok (.putfield 33, 3) := by decide +kernel
theorem d_M_tryAll_21 : decode b_M_tryAll 21 = .ok (.iconst 0, 1) := by decide +kernel
theorem d_M_tryAll_22 : decode b_M_tryAll 22 = .ok (.istore 6, 2) := by decide +kernel
theorem d_M_tryAll_24 : decode b_M_tryAll 24 = .ok (.iload 6, 2) := by decide +kernel
theorem d_M_tryAll_26 : decode b_M_tryAll 26 = .ok (.iconst 1, 1) := by decide +kernel
theorem d_M_tryAll_27 : decode b_M_tryAll 27 = .ok (.iload 4, 2) := by decide +kernel
theorem d_M_tryAll_29 : decode b_M_tryAll 29 = .ok (.ishl, 1) := by decide +kernel
theorem d_M_tryAll_30 : decode b_M_tryAll 30 = .ok (.if_icmp .ge 116, 3) := by decide +kernel
theorem d_M_tryAll_33 : decode b_M_tryAll 33 = .ok (.iconst 0, 1) := by decide +kernel
theorem d_M_tryAll_34 : decode b_M_tryAll 34 = .ok (.istore 7, 2) := by decide +kernel
theorem d_M_tryAll_36 : decode b_M_tryAll 36 = .ok (.iload 7, 2) := by decide +kernel
theorem d_M_tryAll_38 : decode b_M_tryAll 38 = .ok (.iload 4, 2) := by decide +kernel
theorem d_M_tryAll_40 : decode b_M_tryAll 40 = .ok (.if_icmp .ge 23, 3) := by decide +kernel
theorem d_M_tryAll_43 : decode b_M_tryAll 43 = .ok (.aload_n 0, 1) := by decide +kernel
theorem d_M_tryAll_44 : decode b_M_tryAll 44 = .ok (.getfield 16, 3) := by decide +kernel
theorem d_M_tryAll_47 : decode b_M_tryAll 47 = .ok (.iload 7, 2) := by decide +kernel
theorem d_M_tryAll_49 : decode b_M_tryAll 49 = .ok (.iload 6, 2) := by decide +kernel
theorem d_M_tryAll_51 : decode b_M_tryAll 51 = .ok (.iload 7, 2) := by decide +kernel
theorem d_M_tryAll_53 : decode b_M_tryAll 53 = .ok (.ishr, 1) := by decide +kernel
theorem d_M_tryAll_54 : decode b_M_tryAll 54 = .ok (.iconst 1, 1) := by decide +kernel
theorem d_M_tryAll_55 : decode b_M_tryAll 55 = .ok (.iand, 1) := by decide +kernel
theorem d_M_tryAll_56 : decode b_M_tryAll 56 = .ok (.iastore, 1) := by decide +kernel
theorem d_M_tryAll_57 : decode b_M_tryAll 57 = .ok (.iinc 7 1, 3) := by decide +kernel
theorem d_M_tryAll_60 : decode b_M_tryAll 60 = .ok (.goto (-24), 3) := by decide +kernel
theorem d_M_tryAll_63 : decode b_M_tryAll 63 = .ok (.aload_n 0, 1) := by decide +kernel
theorem d_M_tryAll_64 : decode b_M_tryAll 64 = .ok (.iload_n 1, 1) := by decide +kernel
theorem d_M_tryAll_65 : decode b_M_tryAll 65 = .ok (.iload_n 2, 1) := by decide +kernel
theorem d_M_tryAll_66 : decode b_M_tryAll 66 = .ok (.iload_n 3, 1) := by decide +kernel
theorem d_M_tryAll_67 : decode b_M_tryAll 67 = .ok (.invokevirtual 67, 3) := by decide +kernel
theorem d_M_tryAll_70 : decode b_M_tryAll 70 = .ok (.istore 7, 2) := by decide +kernel
theorem d_M_tryAll_72 : decode b_M_tryAll 72 = .ok (.aload_n 0, 1) := by decide +kernel
theorem d_M_tryAll_73 : decode b_M_tryAll 73 = .ok (.dup, 1) := by decide +kernel
theorem d_M_tryAll_74 : decode b_M_tryAll 74 = .ok (.getfield 80, 3) := by decide +kernel
theorem d_M_tryAll_77 : decode b_M_tryAll 77 = .ok (.aload_n 0, 1) := by decide +kernel
theorem d_M_tryAll_78 : decode b_M_tryAll 78 = .ok (.getfield 30, 3) := by decide +kernel
theorem d_M_tryAll_81 : decode b_M_tryAll 81 = .ok (.iadd, 1) := by decide +kernel
theorem d_M_tryAll_82 : decode b_M_tryAll 82 = .ok (.putfield 80, 3) := by decide +kernel
theorem d_M_tryAll_85 : decode b_M_tryAll 85 = .ok (.aload_n 0, 1) := by decide +kernel
theorem d_M_tryAll_86 : decode b_M_tryAll 86 = .ok (.aload_n 0, 1) := by decide +kernel
theorem d_M_tryAll_87 : decode b_M_tryAll 87 = .ok (.getfield 36, 3) := by decide +kernel
theorem d_M_tryAll_90 : decode b_M_tryAll 90 = .ok (.ifCond .eq 12, 3) := by decide +kernel
theorem d_M_tryAll_93 : decode b_M_tryAll 93 = .ok (.aload_n 0, 1) := by decide +kernel
theorem d_M_tryAll_94 : decode b_M_tryAll 94 = .ok (.getfield 77, 3) := by decide +kernel
theorem d_M_tryAll_97 : decode b_M_tryAll 97 = .ok (.iconst 1, 1) := by decide +kernel
theorem d_M_tryAll_98 : decode b_M_tryAll 98 = .ok (.iadd, 1) := by decide +kernel
theorem d_M_tryAll_99 : decode b_M_tryAll 99 = .ok (.goto 7, 3) := by decide +kernel
theorem d_M_tryAll_102 : decode b_M_tryAll 102 = .ok (.aload_n 0, 1) := by decide +kernel
theorem d_M_tryAll_103 : decode b_M_tryAll 103 = .ok (.getfield 77, 3) := by decide +kernel
theorem d_M_tryAll_106 : decode b_M_tryAll 106 = .ok (.putfield 77, 3) := by decide +kernel
theorem d_M_tryAll_109 : decode b_M_tryAll 109 = .ok (.aload_n 0, 1) := by decide +kernel
theorem d_M_tryAll_110 : decode b_M_tryAll 110 = .ok (.aload_n 0, 1) := by decide +kernel
theorem d_M_tryAll_111 : decode b_M_tryAll 111 = .ok (.getfield 36, 3) := by decide +kernel
theorem d_M_tryAll_114 : decode b_M_tryAll 114 = .ok (.ifCond .ne 19, 3) := by decide +kernel
theorem d_M_tryAll_117 : decode b_M_tryAll 117 = .ok (.iload 7, 2) := by decide +kernel
theorem d_M_tryAll_119 : decode b_M_tryAll 119 = .ok (.iload 5, 2) := by decide +kernel
theorem d_M_tryAll_121 : decode b_M_tryAll 121 = .ok (.if_icmp .ne 12, 3) := by decide +kernel
theorem d_M_tryAll_124 : decode b_M_tryAll 124 = .ok (.aload_n 0, 1) := by decide +kernel
theorem d_M_tryAll_125 : decode b_M_tryAll 125 = .ok (.getfield 74, 3) := by decide +kernel
theorem d_M_tryAll_128 : decode b_M_tryAll 128 = .ok (.iconst 1, 1) := by decide +kernel
theorem d_M_tryAll_129 : decode b_M_tryAll 129 = .ok (.iadd, 1) := by decide +kernel
theorem d_M_tryAll_130 : decode b_M_tryAll 130 = .ok (.goto 7, 3) := by decide +kernel
theorem d_M_tryAll_133 : decode b_M_tryAll 133 = .ok (.aload_n 0, 1) := by decide +kernel
theorem d_M_tryAll_134 : decode b_M_tryAll 134 = .ok (.getfield 74, 3) := by decide +kernel
theorem d_M_tryAll_137 : decode b_M_tryAll 137 = .ok (.putfield 74, 3) := by decide +kernel
theorem d_M_tryAll_140 : decode b_M_tryAll 140 = .ok (.iinc 6 1, 3) := by decide +kernel
theorem d_M_tryAll_143 : decode b_M_tryAll 143 = .ok (.goto (-119), 3) := by decide +kernel
theorem d_M_tryAll_146 : decode b_M_tryAll 146 = .ok (.return_, 1) := by decide +kernel
theorem d_M_isAll_0 : decode b_M_isAll 0 = .ok (.aload_n 0, 1) := by decide +kernel
theorem d_M_isAll_1 : decode b_M_isAll 1 = .ok (.iload_n 1, 1) := by decide +kernel
theorem d_M_isAll_2 : decode b_M_isAll 2 = .ok (.iload_n 2, 1) := by decide +kernel
theorem d_M_isAll_3 : decode b_M_isAll 3 = .ok (.iload_n 3, 1) := by decide +kernel
theorem d_M_isAll_4 : decode b_M_isAll 4 = .ok (.invokevirtual 63, 3) := by decide +kernel
theorem d_M_isAll_7 : decode b_M_isAll 7 = .ok (.ifCond .eq 19, 3) := by decide +kernel
theorem d_M_isAll_10 : decode b_M_isAll 10 = .ok (.iload 4, 2) := by decide +kernel
theorem d_M_isAll_12 : decode b_M_isAll 12 = .ok (.ifCond .lt 14, 3) := by decide +kernel
theorem d_M_isAll_15 : decode b_M_isAll 15 = .ok (.iload 4, 2) := by decide +kernel
theorem d_M_isAll_17 : decode b_M_isAll 17 = .ok (.bipush 12, 2) := by decide +kernel
theorem d_M_isAll_19 : decode b_M_isAll 19 = .ok (.if_icmp .gt 7, 3) := by decide +kernel
theorem d_M_isAll_22 : decode b_M_isAll 22 = .ok (.iconst 1, 1) := by decide +kernel
theorem d_M_isAll_23 : decode b_M_isAll 23 = .ok (.goto 4, 3) := by decide +kernel
theorem d_M_isAll_26 : decode b_M_isAll 26 = .ok (.iconst 0, 1) := by decide +kernel
theorem d_M_isAll_27 : decode b_M_isAll 27 = .ok (.ireturn, 1) := by decide +kernel
theorem d_M_count_0 : decode b_M_count 0 = .ok (.aload_n 0, 1) := by decide +kernel
theorem d_M_count_1 : decode b_M_count 1 = .ok (.iload_n 1, 1) := by decide +kernel
theorem d_M_count_2 : decode b_M_count 2 = .ok (.iload_n 2, 1) := by decide +kernel
theorem d_M_count_3 : decode b_M_count 3 = .ok (.iload_n 3, 1) := by decide +kernel
theorem d_M_count_4 : decode b_M_count 4 = .ok (.iload 4, 2) := by decide +kernel
theorem d_M_count_6 : decode b_M_count 6 = .ok (.invokevirtual 83, 3) := by decide +kernel
theorem d_M_count_9 : decode b_M_count 9 = .ok (.ifCond .ne 5, 3) := by decide +kernel
theorem d_M_count_12 : decode b_M_count 12 = .ok (.iconst (-1), 1) := by decide +kernel
theorem d_M_count_13 : decode b_M_count 13 = .ok (.ireturn, 1) := by decide +kernel
theorem d_M_count_14 : decode b_M_count 14 = .ok (.aload_n 0, 1) := by decide +kernel
theorem d_M_count_15 : decode b_M_count 15 = .ok (.iload_n 1, 1) := by decide +kernel
theorem d_M_count_16 : decode b_M_count 16 = .ok (.iload_n 2, 1) := by decide +kernel
theorem d_M_count_17 : decode b_M_count 17 = .ok (.iload_n 3, 1) := by decide +kernel
theorem d_M_count_18 : decode b_M_count 18 = .ok (.iload 4, 2) := by decide +kernel
theorem d_M_count_20 : decode b_M_count 20 = .ok (.iload 5, 2) := by decide +kernel
theorem d_M_count_22 : decode b_M_count 22 = .ok (.invokevirtual 87, 3) := by decide +kernel
theorem d_M_count_25 : decode b_M_count 25 = .ok (.aload_n 0, 1) := by decide +kernel
theorem d_M_count_26 : decode b_M_count 26 = .ok (.getfield 74, 3) := by decide +kernel
theorem d_M_count_29 : decode b_M_count 29 = .ok (.ireturn, 1) := by decide +kernel
theorem d_M_fails_0 : decode b_M_fails 0 = .ok (.aload_n 0, 1) := by decide +kernel
theorem d_M_fails_1 : decode b_M_fails 1 = .ok (.iload_n 1, 1) := by decide +kernel
theorem d_M_fails_2 : decode b_M_fails 2 = .ok (.iload_n 2, 1) := by decide +kernel
theorem d_M_fails_3 : decode b_M_fails 3 = .ok (.iload_n 3, 1) := by decide +kernel
theorem d_M_fails_4 : decode b_M_fails 4 = .ok (.iload 4, 2) := by decide +kernel
theorem d_M_fails_6 : decode b_M_fails 6 = .ok (.invokevirtual 83, 3) := by decide +kernel
theorem d_M_fails_9 : decode b_M_fails 9 = .ok (.ifCond .ne 5, 3) := by decide +kernel
theorem d_M_fails_12 : decode b_M_fails 12 = .ok (.iconst (-1), 1) := by decide +kernel
theorem d_M_fails_13 : decode b_M_fails 13 = .ok (.ireturn, 1) := by decide +kernel
theorem d_M_fails_14 : decode b_M_fails 14 = .ok (.aload_n 0, 1) := by decide +kernel
theorem d_M_fails_15 : decode b_M_fails 15 = .ok (.iload_n 1, 1) := by decide +kernel
theorem d_M_fails_16 : decode b_M_fails 16 = .ok (.iload_n 2, 1) := by decide +kernel
theorem d_M_fails_17 : decode b_M_fails 17 = .ok (.iload_n 3, 1) := by decide +kernel
theorem d_M_fails_18 : decode b_M_fails 18 = .ok (.iload 4, 2) := by decide +kernel
theorem d_M_fails_20 : decode b_M_fails 20 = .ok (.iconst 0, 1) := by decide +kernel
theorem d_M_fails_21 : decode b_M_fails 21 = .ok (.invokevirtual 87, 3) := by decide +kernel
theorem d_M_fails_24 : decode b_M_fails 24 = .ok (.aload_n 0, 1) := by decide +kernel
theorem d_M_fails_25 : decode b_M_fails 25 = .ok (.getfield 77, 3) := by decide +kernel
theorem d_M_fails_28 : decode b_M_fails 28 = .ok (.ireturn, 1) := by decide +kernel
theorem d_M_work_0 : decode b_M_work 0 = .ok (.aload_n 0, 1) := by decide +kernel
theorem d_M_work_1 : decode b_M_work 1 = .ok (.iload_n 1, 1) := by decide +kernel
theorem d_M_work_2 : decode b_M_work 2 = .ok (.iload_n 2, 1) := by decide +kernel
theorem d_M_work_3 : decode b_M_work 3 = .ok (.iload_n 3, 1) := by decide +kernel
theorem d_M_work_4 : decode b_M_work 4 = .ok (.iload 4, 2) := by decide +kernel
theorem d_M_work_6 : decode b_M_work 6 = .ok (.invokevirtual 83, 3) := by decide +kernel
theorem d_M_work_9 : decode b_M_work 9 = .ok (.ifCond .ne 5, 3) := by decide +kernel
theorem d_M_work_12 : decode b_M_work 12 = .ok (.iconst (-1), 1) := by decide +kernel
theorem d_M_work_13 : decode b_M_work 13 = .ok (.ireturn, 1) := by decide +kernel
theorem d_M_work_14 : decode b_M_work 14 = .ok (.aload_n 0, 1) := by decide +kernel
theorem d_M_work_15 : decode b_M_work 15 = .ok (.iload_n 1, 1) := by decide +kernel
theorem d_M_work_16 : decode b_M_work 16 = .ok (.iload_n 2, 1) := by decide +kernel
theorem d_M_work_17 : decode b_M_work 17 = .ok (.iload_n 3, 1) := by decide +kernel
theorem d_M_work_18 : decode b_M_work 18 = .ok (.iload 4, 2) := by decide +kernel
theorem d_M_work_20 : decode b_M_work 20 = .ok (.iconst 0, 1) := by decide +kernel
theorem d_M_work_21 : decode b_M_work 21 = .ok (.invokevirtual 87, 3) := by decide +kernel
theorem d_M_work_24 : decode b_M_work 24 = .ok (.aload_n 0, 1) := by decide +kernel
theorem d_M_work_25 : decode b_M_work 25 = .ok (.getfield 80, 3) := by decide +kernel
theorem d_M_work_28 : decode b_M_work 28 = .ok (.ireturn, 1) := by decide +kernel
theorem d_M_first_0 : decode b_M_first 0 = .ok (.aload_n 0, 1) := by decide +kernel
theorem d_M_first_1 : decode b_M_first 1 = .ok (.iload_n 1, 1) := by decide +kernel
end
section
theorem d_M_first_2 : decode b_M_first 2 = .ok (.iload_n 2, 1) := by decide +kernel
theorem d_M_first_3 : decode b_M_first 3 = .ok (.iload_n 3, 1) := by decide +kernel
theorem d_M_first_4 : decode b_M_first 4 = .ok (.invokevirtual 63, 3) := by decide +kernel
theorem d_M_first_7 : decode b_M_first 7 = .ok (.ifCond .ne 5, 3) := by decide +kernel
theorem d_M_first_10 : decode b_M_first 10 = .ok (.iconst (-1), 1) := by decide +kernel
theorem d_M_first_11 : decode b_M_first 11 = .ok (.ireturn, 1) := by decide +kernel
theorem d_M_first_12 : decode b_M_first 12 = .ok (.iconst 0, 1) := by decide +kernel
theorem d_M_first_13 : decode b_M_first 13 = .ok (.istore 5, 2) := by decide +kernel
theorem d_M_first_15 : decode b_M_first 15 = .ok (.iload 5, 2) := by decide +kernel
theorem d_M_first_17 : decode b_M_first 17 = .ok (.bipush 12, 2) := by decide +kernel
theorem d_M_first_19 : decode b_M_first 19 = .ok (.if_icmp .gt 30, 3) := by decide +kernel
theorem d_M_first_22 : decode b_M_first 22 = .ok (.aload_n 0, 1) := by decide +kernel
theorem d_M_first_23 : decode b_M_first 23 = .ok (.iload_n 1, 1) := by decide +kernel
theorem d_M_first_24 : decode b_M_first 24 = .ok (.iload_n 2, 1) := by decide +kernel
theorem d_M_first_25 : decode b_M_first 25 = .ok (.iload_n 3, 1) := by decide +kernel
theorem d_M_first_26 : decode b_M_first 26 = .ok (.iload 5, 2) := by decide +kernel
theorem d_M_first_28 : decode b_M_first 28 = .ok (.iload 4, 2) := by decide +kernel
theorem d_M_first_30 : decode b_M_first 30 = .ok (.invokevirtual 87, 3) := by decide +kernel
theorem d_M_first_33 : decode b_M_first 33 = .ok (.aload_n 0, 1) := by decide +kernel
theorem d_M_first_34 : decode b_M_first 34 = .ok (.getfield 74, 3) := by decide +kernel
theorem d_M_first_37 : decode b_M_first 37 = .ok (.ifCond .le 6, 3) := by decide +kernel
theorem d_M_first_40 : decode b_M_first 40 = .ok (.iload 5, 2) := by decide +kernel
theorem d_M_first_42 : decode b_M_first 42 = .ok (.ireturn, 1) := by decide +kernel
theorem d_M_first_43 : decode b_M_first 43 = .ok (.iinc 5 1, 3) := by decide +kernel
theorem d_M_first_46 : decode b_M_first 46 = .ok (.goto (-31), 3) := by decide +kernel
theorem d_M_first_49 : decode b_M_first 49 = .ok (.bipush 13, 2) := by decide +kernel
theorem d_M_first_51 : decode b_M_first 51 = .ok (.ireturn, 1) := by decide +kernel
end
section
theorem d_T_init_0 : decode b_T_init 0 = .ok (.aload_n 0, 1) := by decide +kernel
theorem d_T_init_1 : decode b_T_init 1 = .ok (.invokespecial 3, 3) := by decide +kernel
theorem d_T_init_4 : decode b_T_init 4 = .ok (.aload_n 0, 1) := by decide +kernel
theorem d_T_init_5 : decode b_T_init 5 = .ok (.iload_n 1, 1) := by decide +kernel
theorem d_T_init_6 : decode b_T_init 6 = .ok (.newarray .int, 2) := by decide +kernel
theorem d_T_init_8 : decode b_T_init 8 = .ok (.putfield 9, 3) := by decide +kernel
theorem d_T_init_11 : decode b_T_init 11 = .ok (.aload_n 0, 1) := by decide +kernel
theorem d_T_init_12 : decode b_T_init 12 = .ok (.iconst 0, 1) := by decide +kernel
theorem d_T_init_13 : decode b_T_init 13 = .ok (.putfield 15, 3) := by decide +kernel
theorem d_T_init_16 : decode b_T_init 16 = .ok (.aload_n 0, 1) := by decide +kernel
theorem d_T_init_17 : decode b_T_init 17 = .ok (.iconst 0, 1) := by decide +kernel
theorem d_T_init_18 : decode b_T_init 18 = .ok (.putfield 19, 3) := by decide +kernel
theorem d_T_init_21 : decode b_T_init 21 = .ok (.return_, 1) := by decide +kernel
theorem d_T_size_0 : decode b_T_size 0 = .ok (.aload_n 0, 1) := by decide +kernel
theorem d_T_size_1 : decode b_T_size 1 = .ok (.getfield 15, 3) := by decide +kernel
theorem d_T_size_4 : decode b_T_size 4 = .ok (.ireturn, 1) := by decide +kernel
theorem d_T_readSoFar_0 : decode b_T_readSoFar 0 = .ok (.aload_n 0, 1) := by decide +kernel
theorem d_T_readSoFar_1 : decode b_T_readSoFar 1 = .ok (.getfield 19, 3) := by decide +kernel
theorem d_T_readSoFar_4 : decode b_T_readSoFar 4 = .ok (.ireturn, 1) := by decide +kernel
theorem d_T_clear_0 : decode b_T_clear 0 = .ok (.aload_n 0, 1) := by decide +kernel
theorem d_T_clear_1 : decode b_T_clear 1 = .ok (.iconst 0, 1) := by decide +kernel
theorem d_T_clear_2 : decode b_T_clear 2 = .ok (.putfield 15, 3) := by decide +kernel
theorem d_T_clear_5 : decode b_T_clear 5 = .ok (.aload_n 0, 1) := by decide +kernel
theorem d_T_clear_6 : decode b_T_clear 6 = .ok (.iconst 0, 1) := by decide +kernel
theorem d_T_clear_7 : decode b_T_clear 7 = .ok (.putfield 19, 3) := by decide +kernel
theorem d_T_clear_10 : decode b_T_clear 10 = .ok (.return_, 1) := by decide +kernel
theorem d_T_rewind_0 : decode b_T_rewind 0 = .ok (.aload_n 0, 1) := by decide +kernel
theorem d_T_rewind_1 : decode b_T_rewind 1 = .ok (.iconst 0, 1) := by decide +kernel
theorem d_T_rewind_2 : decode b_T_rewind 2 = .ok (.putfield 19, 3) := by decide +kernel
theorem d_T_rewind_5 : decode b_T_rewind 5 = .ok (.return_, 1) := by decide +kernel
theorem d_T_append_0 : decode b_T_append 0 = .ok (.iload_n 2, 1) := by decide +kernel
theorem d_T_append_1 : decode b_T_append 1 = .ok (.ifCond .lt 23, 3) := by decide +kernel
theorem d_T_append_4 : decode b_T_append 4 = .ok (.iload_n 2, 1) := by decide +kernel
theorem d_T_append_5 : decode b_T_append 5 = .ok (.bipush 32, 2) := by decide +kernel
theorem d_T_append_7 : decode b_T_append 7 = .ok (.if_icmp .gt 17, 3) := by decide +kernel
theorem d_T_append_10 : decode b_T_append 10 = .ok (.iload_n 2, 1) := by decide +kernel
theorem d_T_append_11 : decode b_T_append 11 = .ok (.aload_n 0, 1) := by decide +kernel
theorem d_T_append_12 : decode b_T_append 12 = .ok (.getfield 9, 3) := by decide +kernel
theorem d_T_append_15 : decode b_T_append 15 = .ok (.arraylength, 1) := by decide +kernel
theorem d_T_append_16 : decode b_T_append 16 = .ok (.aload_n 0, 1) := by decide +kernel
theorem d_T_append_17 : decode b_T_append 17 = .ok (.getfield 15, 3) := by decide +kernel
theorem d_T_append_20 : decode b_T_append 20 = .ok (.isub, 1) := by decide +kernel
theorem d_T_append_21 : decode b_T_append 21 = .ok (.if_icmp .le 5, 3) := by decide +kernel
theorem d_T_append_24 : decode b_T_append 24 = .ok (.iconst 0, 1) := by decide +kernel
theorem d_T_append_25 : decode b_T_append 25 = .ok (.ireturn, 1) := by decide +kernel
theorem d_T_append_26 : decode b_T_append 26 = .ok (.iload_n 2, 1) := by decide +kernel
theorem d_T_append_27 : decode b_T_append 27 = .ok (.iconst 1, 1) := by decide +kernel
theorem d_T_append_28 : decode b_T_append 28 = .ok (.isub, 1) := by decide +kernel
theorem d_T_append_29 : decode b_T_append 29 = .ok (.istore_n 3, 1) := by decide +kernel
theorem d_T_append_30 : decode b_T_append 30 = .ok (.iload_n 3, 1) := by decide +kernel
theorem d_T_append_31 : decode b_T_append 31 = .ok (.ifCond .lt 33, 3) := by decide +kernel
theorem d_T_append_34 : decode b_T_append 34 = .ok (.aload_n 0, 1) := by decide +kernel
theorem d_T_append_35 : decode b_T_append 35 = .ok (.getfield 9, 3) := by decide +kernel
theorem d_T_append_38 : decode b_T_append 38 = .ok (.aload_n 0, 1) := by decide +kernel
theorem d_T_append_39 : decode b_T_append 39 = .ok (.getfield 15, 3) := by decide +kernel
theorem d_T_append_42 : decode b_T_append 42 = .ok (.iload_n 1, 1) := by decide +kernel
theorem d_T_append_43 : decode b_T_append 43 = .ok (.iload_n 3, 1) := by decide +kernel
theorem d_T_append_44 : decode b_T_append 44 = .ok (.iushr, 1) := by decide +kernel
theorem d_T_append_45 : decode b_T_append 45 = .ok (.iconst 1, 1) := by decide +kernel
theorem d_T_append_46 : decode b_T_append 46 = .ok (.iand, 1) := by decide +kernel
theorem d_T_append_47 : decode b_T_append 47 = .ok (.iastore, 1) := by decide +kernel
theorem d_T_append_48 : decode b_T_append 48 = .ok (.aload_n 0, 1) := by decide +kernel
theorem d_T_append_49 : decode b_T_append 49 = .ok (.dup, 1) := by decide +kernel
theorem d_T_append_50 : decode b_T_append 50 = .ok (.getfield 15, 3) := by decide +kernel
theorem d_T_append_53 : decode b_T_append 53 = .ok (.iconst 1, 1) := by decide +kernel
theorem d_T_append_54 : decode b_T_append 54 = .ok (.iadd, 1) := by decide +kernel
theorem d_T_append_55 : decode b_T_append 55 = .ok (.putfield 15, 3) := by decide +kernel
theorem d_T_append_58 : decode b_T_append 58 = .ok (.iinc 3 (-1), 3) := by decide +kernel
theorem d_T_append_61 : decode b_T_append 61 = .ok (.goto (-31), 3) := by decide +kernel
theorem d_T_append_64 : decode b_T_append 64 = .ok (.iconst 1, 1) := by decide +kernel
theorem d_T_append_65 : decode b_T_append 65 = .ok (.ireturn, 1) := by decide +kernel
theorem d_T_readBit_0 : decode b_T_readBit 0 = .ok (.aload_n 0, 1) := by decide +kernel
theorem d_T_readBit_1 : decode b_T_readBit 1 = .ok (.getfield 19, 3) := by decide +kernel
theorem d_T_readBit_4 : decode b_T_readBit 4 = .ok (.aload_n 0, 1) := by decide +kernel
theorem d_T_readBit_5 : decode b_T_readBit 5 = .ok (.getfield 15, 3) := by decide +kernel
theorem d_T_readBit_8 : decode b_T_readBit 8 = .ok (.if_icmp .lt 5, 3) := by decide +kernel
theorem d_T_readBit_11 : decode b_T_readBit 11 = .ok (.iconst (-1), 1) := by decide +kernel
theorem d_T_readBit_12 : decode b_T_readBit 12 = .ok (.ireturn, 1) := by decide +kernel
theorem d_T_readBit_13 : decode b_T_readBit 13 = .ok (.aload_n 0, 1) := by decide +kernel
theorem d_T_readBit_14 : decode b_T_readBit 14 = .ok (.getfield 9, 3) := by decide +kernel
theorem d_T_readBit_17 : decode b_T_readBit 17 = .ok (.aload_n 0, 1) := by decide +kernel
theorem d_T_readBit_18 : decode b_T_readBit 18 = .ok (.getfield 19, 3) := by decide +kernel
theorem d_T_readBit_21 : decode b_T_readBit 21 = .ok (.iaload, 1) := by decide +kernel
theorem d_T_readBit_22 : decode b_T_readBit 22 = .ok (.istore_n 1, 1) := by decide +kernel
theorem d_T_readBit_23 : decode b_T_readBit 23 = .ok (.aload_n 0, 1) := by decide +kernel
theorem d_T_readBit_24 : decode b_T_readBit 24 = .ok (.dup, 1) := by decide +kernel
theorem d_T_readBit_25 : decode b_T_readBit 25 = .ok (.getfield 19, 3) := by decide +kernel
theorem d_T_readBit_28 : decode b_T_readBit 28 = .ok (.iconst 1, 1) := by decide +kernel
theorem d_T_readBit_29 : decode b_T_readBit 29 = .ok (.iadd, 1) := by decide +kernel
theorem d_T_readBit_30 : decode b_T_readBit 30 = .ok (.putfield 19, 3) := by decide +kernel
theorem d_T_readBit_33 : decode b_T_readBit 33 = .ok (.iload_n 1, 1) := by decide +kernel
theorem d_T_readBit_34 : decode b_T_readBit 34 = .ok (.ireturn, 1) := by decide +kernel
theorem d_T_readNumber_0 : decode b_T_readNumber 0 = .ok (.iconst 0, 1) := by decide +kernel
theorem d_T_readNumber_1 : decode b_T_readNumber 1 = .ok (.istore_n 2, 1) := by decide +kernel
theorem d_T_readNumber_2 : decode b_T_readNumber 2 = .ok (.iconst 0, 1) := by decide +kernel
theorem d_T_readNumber_3 : decode b_T_readNumber 3 = .ok (.istore_n 3, 1) := by decide +kernel
theorem d_T_readNumber_4 : decode b_T_readNumber 4 = .ok (.iload_n 3, 1) := by decide +kernel
theorem d_T_readNumber_5 : decode b_T_readNumber 5 = .ok (.iload_n 1, 1) := by decide +kernel
theorem d_T_readNumber_6 : decode b_T_readNumber 6 = .ok (.if_icmp .ge 30, 3) := by decide +kernel
theorem d_T_readNumber_9 : decode b_T_readNumber 9 = .ok (.aload_n 0, 1) := by decide +kernel
theorem d_T_readNumber_10 : decode b_T_readNumber 10 = .ok (.invokevirtual 22, 3) := by decide +kernel
theorem d_T_readNumber_13 : decode b_T_readNumber 13 = .ok (.istore 4, 2) := by decide +kernel
theorem d_T_readNumber_15 : decode b_T_readNumber 15 = .ok (.iload 4, 2) := by decide +kernel
theorem d_T_readNumber_17 : decode b_T_readNumber 17 = .ok (.iconst (-1), 1) := by decide +kernel
theorem d_T_readNumber_18 : decode b_T_readNumber 18 = .ok (.if_icmp .ne 5, 3) := by decide +kernel
theorem d_T_readNumber_21 : decode b_T_readNumber 21 = .ok (.iconst (-1), 1) := by decide +kernel
theorem d_T_readNumber_22 : decode b_T_readNumber 22 = .ok (.ireturn, 1) := by decide +kernel
theorem d_T_readNumber_23 : decode b_T_readNumber 23 = .ok (.iconst 2, 1) := by decide +kernel
theorem d_T_readNumber_24 : decode b_T_readNumber 24 = .ok (.iload_n 2, 1) := by decide +kernel
theorem d_T_readNumber_25 : decode b_T_readNumber 25 = .ok (.imul, 1) := by decide +kernel
theorem d_T_readNumber_26 : decode b_T_readNumber 26 = .ok (.iload 4, 2) := by decide +kernel
theorem d_T_readNumber_28 : decode b_T_readNumber 28 = .ok (.iadd, 1) := by decide +kernel
theorem d_T_readNumber_29 : decode b_T_readNumber 29 = .ok (.istore_n 2, 1) := by decide +kernel
theorem d_T_readNumber_30 : decode b_T_readNumber 30 = .ok (.iinc 3 1, 3) := by decide +kernel
theorem d_T_readNumber_33 : decode b_T_readNumber 33 = .ok (.goto (-29), 3) := by decide +kernel
theorem d_T_readNumber_36 : decode b_T_readNumber 36 = .ok (.iload_n 2, 1) := by decide +kernel
theorem d_T_readNumber_37 : decode b_T_readNumber 37 = .ok (.ireturn, 1) := by decide +kernel
theorem d_T_dropRead_0 : decode b_T_dropRead 0 = .ok (.aload_n 0, 1) := by decide +kernel
theorem d_T_dropRead_1 : decode b_T_dropRead 1 = .ok (.getfield 9, 3) := by decide +kernel
theorem d_T_dropRead_4 : decode b_T_dropRead 4 = .ok (.aload_n 0, 1) := by decide +kernel
theorem d_T_dropRead_5 : decode b_T_dropRead 5 = .ok (.getfield 19, 3) := by decide +kernel
theorem d_T_dropRead_8 : decode b_T_dropRead 8 = .ok (.aload_n 0, 1) := by decide +kernel
theorem d_T_dropRead_9 : decode b_T_dropRead 9 = .ok (.getfield 9, 3) := by decide +kernel
theorem d_T_dropRead_12 : decode b_T_dropRead 12 = .ok (.iconst 0, 1) := by decide +kernel
theorem d_T_dropRead_13 : decode b_T_dropRead 13 = .ok (.aload_n 0, 1) := by decide +kernel
theorem d_T_dropRead_14 : decode b_T_dropRead 14 = .ok (.getfield 15, 3) := by decide +kernel
theorem d_T_dropRead_17 : decode b_T_dropRead 17 = .ok (.aload_n 0, 1) := by decide +kernel
theorem d_T_dropRead_18 : decode b_T_dropRead 18 = .ok (.getfield 19, 3) := by decide +kernel
theorem d_T_dropRead_21 : decode b_T_dropRead 21 = .ok (.isub, 1) := by decide +kernel
theorem d_T_dropRead_22 : decode b_T_dropRead 22 = .ok (.invokestatic 26, 3) := by decide +kernel
theorem d_T_dropRead_25 : decode b_T_dropRead 25 = .ok (.aload_n 0, 1) := by decide +kernel
theorem d_T_dropRead_26 : decode b_T_dropRead 26 = .ok (.dup, 1) := by decide +kernel
theorem d_T_dropRead_27 : decode b_T_dropRead 27 = .ok (.getfield 15, 3) := by decide +kernel
theorem d_T_dropRead_30 : decode b_T_dropRead 30 = .ok (.aload_n 0, 1) := by decide +kernel
theorem d_T_dropRead_31 : decode b_T_dropRead 31 = .ok (.getfield 19, 3) := by decide +kernel
theorem d_T_dropRead_34 : decode b_T_dropRead 34 = .ok (.isub, 1) := by decide +kernel
theorem d_T_dropRead_35 : decode b_T_dropRead 35 = .ok (.putfield 15, 3) := by decide +kernel
theorem d_T_dropRead_38 : decode b_T_dropRead 38 = .ok (.aload_n 0, 1) := by decide +kernel
theorem d_T_dropRead_39 : decode b_T_dropRead 39 = .ok (.iconst 0, 1) := by decide +kernel
theorem d_T_dropRead_40 : decode b_T_dropRead 40 = .ok (.putfield 19, 3) := by decide +kernel
theorem d_T_dropRead_43 : decode b_T_dropRead 43 = .ok (.return_, 1) := by decide +kernel
end
section
theorem d_Y_init_0 : decode b_Y_init 0 = .ok (.aload_n 0, 1) := by decide +kernel
theorem d_Y_init_1 : decode b_Y_init 1 = .ok (.invokespecial 3, 3) := by decide +kernel
theorem d_Y_init_4 : decode b_Y_init 4 = .ok (.return_, 1) := by decide +kernel
theorem d_Y_clear_0 : decode b_Y_clear 0 = .ok (.aload_n 0, 1) := by decide +kernel
theorem d_Y_clear_1 : decode b_Y_clear 1 = .ok (.iconst 0, 1) := by decide +kernel
theorem d_Y_clear_2 : decode b_Y_clear 2 = .ok (.putfield 9, 3) := by decide +kernel
theorem d_Y_clear_5 : decode b_Y_clear 5 = .ok (.aload_n 0, 1) := by decide +kernel
theorem d_Y_clear_6 : decode b_Y_clear 6 = .ok (.iconst 0, 1) := by decide +kernel
theorem d_Y_clear_7 : decode b_Y_clear 7 = .ok (.putfield 15, 3) := by decide +kernel
theorem d_Y_clear_10 : decode b_Y_clear 10 = .ok (.aload_n 0, 1) := by decide +kernel
theorem d_Y_clear_11 : decode b_Y_clear 11 = .ok (.iconst 0, 1) := by decide +kernel
theorem d_Y_clear_12 : decode b_Y_clear 12 = .ok (.putfield 18, 3) := by decide +kernel
theorem d_Y_clear_15 : decode b_Y_clear 15 = .ok (.aload_n 0, 1) := by decide +kernel
theorem d_Y_clear_16 : decode b_Y_clear 16 = .ok (.bipush 13, 2) := by decide +kernel
theorem d_Y_clear_18 : decode b_Y_clear 18 = .ok (.putfield 21, 3) := by decide +kernel
theorem d_Y_clear_21 : decode b_Y_clear 21 = .ok (.return_, 1) := by decide +kernel
theorem d_Y_add_0 : decode b_Y_add 0 = .ok (.aload_n 0, 1) := by decide +kernel
theorem d_Y_add_1 : decode b_Y_add 1 = .ok (.dup, 1) := by decide +kernel
theorem d_Y_add_2 : decode b_Y_add 2 = .ok (.getfield 18, 3) := by decide +kernel
theorem d_Y_add_5 : decode b_Y_add 5 = .ok (.iload_n 3, 1) := by decide +kernel
theorem d_Y_add_6 : decode b_Y_add 6 = .ok (.iload 4, 2) := by decide +kernel
theorem d_Y_add_8 : decode b_Y_add 8 = .ok (.imul, 1) := by decide +kernel
theorem d_Y_add_9 : decode b_Y_add 9 = .ok (.iadd, 1) := by decide +kernel
theorem d_Y_add_10 : decode b_Y_add 10 = .ok (.putfield 18, 3) := by decide +kernel
theorem d_Y_add_13 : decode b_Y_add 13 = .ok (.iload_n 1, 1) := by decide +kernel
theorem d_Y_add_14 : decode b_Y_add 14 = .ok (.iconst (-1), 1) := by decide +kernel
theorem d_Y_add_15 : decode b_Y_add 15 = .ok (.if_icmp .ne 17, 3) := by decide +kernel
theorem d_Y_add_18 : decode b_Y_add 18 = .ok (.aload_n 0, 1) := by decide +kernel
theorem d_Y_add_19 : decode b_Y_add 19 = .ok (.dup, 1) := by decide +kernel
theorem d_Y_add_20 : decode b_Y_add 20 = .ok (.getfield 15, 3) := by decide +kernel
theorem d_Y_add_23 : decode b_Y_add 23 = .ok (.iload 4, 2) := by decide +kernel
theorem d_Y_add_25 : decode b_Y_add 25 = .ok (.iadd, 1) := by decide +kernel
theorem d_Y_add_26 : decode b_Y_add 26 = .ok (.putfield 15, 3) := by decide +kernel
theorem d_Y_add_29 : decode b_Y_add 29 = .ok (.goto 31, 3) := by decide +kernel
theorem d_Y_add_32 : decode b_Y_add 32 = .ok (.iload_n 1, 1) := by decide +kernel
theorem d_Y_add_33 : decode b_Y_add 33 = .ok (.iload_n 2, 1) := by decide +kernel
theorem d_Y_add_34 : decode b_Y_add 34 = .ok (.if_icmp .ne 26, 3) := by decide +kernel
theorem d_Y_add_37 : decode b_Y_add 37 = .ok (.aload_n 0, 1) := by decide +kernel
theorem d_Y_add_38 : decode b_Y_add 38 = .ok (.dup, 1) := by decide +kernel
theorem d_Y_add_39 : decode b_Y_add 39 = .ok (.getfield 9, 3) := by decide +kernel
theorem d_Y_add_42 : decode b_Y_add 42 = .ok (.iload 4, 2) := by decide +kernel
theorem d_Y_add_44 : decode b_Y_add 44 = .ok (.iadd, 1) := by decide +kernel
theorem d_Y_add_45 : decode b_Y_add 45 = .ok (.putfield 9, 3) := by decide +kernel
theorem d_Y_add_48 : decode b_Y_add 48 = .ok (.aload_n 0, 1) := by decide +kernel
theorem d_Y_add_49 : decode b_Y_add 49 = .ok (.aload_n 0, 1) := by decide +kernel
theorem d_Y_add_50 : decode b_Y_add 50 = .ok (.getfield 21, 3) := by decide +kernel
theorem d_Y_add_53 : decode b_Y_add 53 = .ok (.iload_n 3, 1) := by decide +kernel
theorem d_Y_add_54 : decode b_Y_add 54 = .ok (.invokestatic 24, 3) := by decide +kernel
theorem d_Y_add_57 : decode b_Y_add 57 = .ok (.putfield 21, 3) := by decide +kernel
theorem d_Y_add_60 : decode b_Y_add 60 = .ok (.return_, 1) := by decide +kernel
end
section
/-! contracts over any heap with the cells ws; one list of words for all methods; the words of nest mates beside it -/
def gPre (D : va_G) (tys : List (ClassId × FieldType)) (ws : va_W) (sz : Nat) : State → Prop := fun U => U.heap.size = sz ∧ va_P D gCl ws U.heap ∧ va_K D gCl tys U ∧ va_D (fun _ => True) ws ∧ gNest U
def gPost (D : va_G) (tys : List (ClassId × FieldType)) (A : Nat → Prop) (ws : va_W) (t : State) : Prop := va_P D gCl ws t.heap ∧ va_K D gCl tys t ∧ va_D A ws
def gW (c : Cond) : List Cond := c :: gG
theorem gGood {c : Cond} (h : c ∈ gG) : GoodIn gG (gW c) := by
  intro w hw
  rcases List.mem_cons.mp hw with rfl | hw
  · exact ⟨h, good_of_word (List.mem_filter.mp h).2⟩
  · exact ⟨hw, good_of_word (List.mem_filter.mp hw).2⟩
def gMi (l : Launch) (D : va_G) (tys : List (ClassId × FieldType)) (y : MethodName) (cc : ByteArray) (n : Nat) (ret : FieldType) (rm : Room) (As : List Value) (ws : va_W) {S : Type} (ws' : S → va_W) (post : Int32 → S → Prop) : Prop :=
  ∀ sz : Nat, Met l y (gW (.code y cc n (some ret))) rm (va_Pc As (gPre D tys ws sz)) (va_Qi post (fun u t => gPost D tys (va_A ws sz) (ws' u) t) (va_A ws sz)) 0 0 (va_A ws sz)
def gMv (l : Launch) (D : va_G) (tys : List (ClassId × FieldType)) (y : MethodName) (cc : ByteArray) (n : Nat) (rm : Room) (As : List Value) (ws : va_W) {S : Type} (ws' : S → va_W) (post : S → Prop) : Prop :=
  ∀ sz : Nat, Met l y (gW (.code y cc n none)) rm (va_Pc As (gPre D tys ws sz)) (va_Qv post (fun u t => gPost D tys (va_A ws sz) (ws' u) t) (va_A ws sz)) 0 0 (va_A ws sz)
theorem gMi.of {l : Launch} {D : va_G} {tys : List (ClassId × FieldType)} {y : MethodName} {cc : ByteArray} {n : Nat} {ret : FieldType} {rm : Room} {As : List Value} {ws : va_W} {S : Type} {ws' : S → va_W} {post : Int32 → S → Prop} (hy : plainName y.cls = true) (hlen : (lg_sl As).length ≤ n)
    (body : ∀ (p : Program) (e : Env) (s : State) (m : MethodId) (args : Array Value) (below : List Frame) (meth : Method) (c : Code) (A : Nat → Prop) (Q : State → Prop) (ls : Array Slot),
      p.tables.exec = Jvm.exec → c.code = cc → c.maxLocals = n → s.vm.findClass y.cls = some m.cls → (∀ w ∈ gG, w.before args s = true) → gNest s → va_K D gCl tys s → (∀ q, s.heap.size ≤ q → A q) → va_P D gCl ws s.heap → va_D A ws →
      (∀ (H : Heap) (locs : List Loc) (r : Int32) (u : S) (pc : Nat) (ls : Array Slot), post r u → narrow ret (.int r) = .int r → va_P D gCl (ws' u) H → va_D A (ws' u) → va_S A s.heap H locs → decode cc pc = .ok (.ireturn, 1) → W p l e rm s m args below meth c H locs 0 0 Q (F0 m pc ls [.int r])) →
      lv_has ls n (lv_args 0 As) → W p l e rm s m args below meth c s.heap [] 0 0 Q (F0 m 0 ls [])) : gMi l D tys y cc n ret rm As ws ws' post := by
  intro sz
  refine Met.ofW (cc := cc) (maxL := n) (ret := some ret) hy rfl ?_
  intro p e s m args below meth c s₁ B hml hv
  obtain ⟨hav, hsz, hP, hK, hD0, hN⟩ := hv
  have hts := atoms_spec (ws := gW (.code y cc n (some ret))) B.pre
  have hown := findClass_of_methodNamed B.named
  have hlocks := B.notSynchronized
  subst hsz
  have hl := lv_entry As (n := n) hlen
  rw [show entryFrame m args n = F0 m 0 _ [] from by rw [hav, lg_entry_eq]]
  refine body p e s m args below meth c (va_A ws s.heap.size) _ _ B.exec B.bytes hml hown (fun w h => hts w (List.mem_cons_of_mem _ h)) hN hK (fun q h => Or.inr h) hP hD0.self ?_ hl
  intro H locs r u pc ls hp hn hP1 hD1 hS hd
  exact W.zret (v := r) B.exec B.bytes B.returns hn (fun t ht hW => ⟨⟨r, u, rfl, hp, by rw [ht]; exact hP1, va_K.moved hW.alike hK, hD1⟩, hS.F ht⟩) hS.2.2 hd
theorem gMv.of {l : Launch} {D : va_G} {tys : List (ClassId × FieldType)} {y : MethodName} {cc : ByteArray} {n : Nat} {rm : Room} {As : List Value} {ws : va_W} {S : Type} {ws' : S → va_W} {post : S → Prop} (hy : plainName y.cls = true) (hlen : (lg_sl As).length ≤ n)
    (body : ∀ (p : Program) (e : Env) (s : State) (m : MethodId) (args : Array Value) (below : List Frame) (meth : Method) (c : Code) (A : Nat → Prop) (Q : State → Prop) (ls : Array Slot),
      p.tables.exec = Jvm.exec → c.code = cc → c.maxLocals = n → s.vm.findClass y.cls = some m.cls → (∀ w ∈ gG, w.before args s = true) → gNest s → va_K D gCl tys s → (∀ q, s.heap.size ≤ q → A q) → va_P D gCl ws s.heap → va_D A ws →
      (∀ (H : Heap) (locs : List Loc) (u : S) (pc : Nat) (ls : Array Slot), post u → va_P D gCl (ws' u) H → va_D A (ws' u) → va_S A s.heap H locs → decode cc pc = .ok (.return_, 1) → W p l e rm s m args below meth c H locs 0 0 Q (F0 m pc ls [])) →
      lv_has ls n (lv_args 0 As) → W p l e rm s m args below meth c s.heap [] 0 0 Q (F0 m 0 ls [])) : gMv l D tys y cc n rm As ws ws' post := by
  intro sz
  refine Met.ofW (cc := cc) (maxL := n) (ret := none) hy rfl ?_
  intro p e s m args below meth c s₁ B hml hv
  obtain ⟨hav, hsz, hP, hK, hD0, hN⟩ := hv
  have hts := atoms_spec (ws := gW (.code y cc n none)) B.pre
  have hown := findClass_of_methodNamed B.named
  have hlocks := B.notSynchronized
  subst hsz
  have hl := lv_entry As (n := n) hlen
  rw [show entryFrame m args n = F0 m 0 _ [] from by rw [hav, lg_entry_eq]]
  refine body p e s m args below meth c (va_A ws s.heap.size) _ _ B.exec B.bytes hml hown (fun w h => hts w (List.mem_cons_of_mem _ h)) hN hK (fun q h => Or.inr h) hP hD0.self ?_ hl
  intro H locs u pc ls hp hP1 hD1 hS hd
  exact W.vret B.exec B.bytes B.returns (fun t ht hW => ⟨⟨u, rfl, hp, by rw [ht]; exact hP1, va_K.moved hW.alike hK, hD1⟩, hS.F ht⟩) hS.2.2 hd
def gOkD (y : MethodName) (n : Nat) : Prop := y.cls ≠ "java/lang/invoke/MethodHandle" ∧ y.cls ≠ "java/lang/invoke/VarHandle" ∧ (parseMethodDescriptor y.desc).map (fun d => d.parameters.length) = some n
def gFV (y : MethodName) (cc : ByteArray) (maxL : Nat) (ret : Option FieldType) (n : Nat) : Prop := Cond.code y cc maxL ret ∈ gG ∧ Cond.initialized y.cls ∈ gG ∧ gOkD y n ∧ Cond.instanceMethod y ∈ gG ∧ Cond.selects y.cls y y ∈ gG
def gFS (y : MethodName) (cc : ByteArray) (maxL : Nat) (ret : Option FieldType) (n : Nat) : Prop := Cond.code y cc maxL ret ∈ gG ∧ Cond.initialized y.cls ∈ gG ∧ gOkD y n ∧ Cond.static y ∈ gG
section GC
variable {p : Program} {l : Launch} {e : Env} {R : Room} {s : State} {m : MethodId} {args : Array Value} {below : List Frame} {meth : Method} {c : Code} {H : Heap} {locs : List Loc} {cells slots : Nat} {Q : State → Prop}
variable {cc : ByteArray} {pc nL : Nat} {ls : Array Slot} {rest : List Value} {D : va_G} {A : Nat → Prop} {a : Nat} {tys : List (ClassId × FieldType)} {ws : va_W} {own : String}
theorem gCallB {index n maxL : Nat} {y : MethodName} {cd : ByteArray} {ret : Option FieldType} {rm : Room} (hts : ∀ w ∈ gG, w.before args s = true) (hc : Cond.code y cd maxL ret ∈ gG) (hi : Cond.initialized y.cls ∈ gG) (hd : gOkD y n) (hl : Cond.methodLink own index y ∈ gG) (hz : rm.cells = 0 ∧ rm.slots = 0) (hR : rm.frames + 1 ≤ R.frames ∧ 8 + (maxL + 11) + rm.locals ≤ R.locals) :
    CallB R s args own index y cd maxL ret (gW (.code y cd maxL ret)) rm 0 0 n := callB_of n hts (gGood hc) rfl hz.1 hz.2 (hts _ hi) (hts _ hl) hd hR
theorem gBlind {As : List Value} {wc : va_W} {sz : Nat} : FrameBlind (va_Pc As (gPre D tys wc sz)) := fun a U g mk q => by
  obtain ⟨q0, q1, qP, qK, qD, qN⟩ := q
  exact ⟨q0, q1, qP, va_K.moved (u := U) (U := U.calling g mk a) (Vm.Alike.refl U.vm) qK, qD, gNest.same (u := U) (U := U.calling g mk a) rfl qN⟩
theorem gSubP {wc : va_W} (hP : va_P D gCl ws H) (isC : List Nat) (hC : isC.map (fun i => ws[i]?) = wc.map some) : va_P D gCl wc H := hP.by (fun k => isC.getD k 0) (fun k q hq => by
  have h1 : (isC.map (fun i => ws[i]?))[k]? = some (some q) := by rw [hC, List.getElem?_map, hq]; rfl
  rw [List.getElem?_map] at h1
  cases hi : isC[k]? with
  | none => rw [hi] at h1; cases h1
  | some i => rw [hi] at h1; rw [List.getD_eq_getElem?_getD, hi]; exact Option.some.inj h1)
theorem g_cVi {y : MethodName} {cd : ByteArray} {maxL n index : Nat} {ret : FieldType} {rm : Room} {b : Nat} {As : List Value} {wc wr : va_W} {S : Type} {wc' : S → va_W} {post : Int32 → S → Prop} {st : List Value}
    (fx : CallFix p m c cc nL s args gG own) (hM : gMi l D tys y cd maxL ret rm (.ref b :: As) wc wc' post) (hF : gFV y cd maxL (some ret) n) (hl : Cond.methodLink own index y ∈ gG) (hz : rm.cells = 0 ∧ rm.slots = 0) (hR : rm.frames + 1 ≤ R.frames ∧ 8 + (maxL + 11) + rm.locals ≤ R.locals)
    (hN : gNest s) (hK : va_K D gCl tys s) (hA : ∀ q, s.heap.size ≤ q → A q) (hP : va_P D gCl ws H) (hD : va_D A ws) (hS : va_S A s.heap H locs)
    (isC isR : List Nat) (hC : isC.map (fun i => ws[i]?) = wc.map some) (hRr : isR.map (fun i => ws[i]?) = wr.map some) (hnC : va_nd isC = true) (hn : va_nd isR = true) (hdis : ∀ i ∈ isR, i ∉ isC)
    (q0 : Nat) {ci : Nat} {fs : List Value} {T : u_T} {N : Nat} (hrc : wc[q0]? = some (b, .inr (ci, fs))) (hcl : gCl[ci]? = some (y.cls, T, N))
    (hst : st = As.reverse ++ .ref b :: rest) (hAs : As.length = n) (hls : ls.size = nL) (hW : (rest.map fun v => v.category).sum ≤ 8) (hdg : decode cc pc = .ok (.invokevirtual index, 3)) (hcs : cells ≤ R.cells ∧ slots ≤ R.slots)
    (kk : ∀ (r : Int32) (u : S) (H1 : Heap) (locs1 : List Loc), post r u → va_P D gCl (wr ++ wc' u) H1 → va_D A (wr ++ wc' u) → va_S A s.heap H1 locs1 → W p l e R s m args below meth c H1 locs1 cells slots Q (F0 m (pc + 3) ls (.int r :: rest))) : W p l e R s m args below meth c H locs cells slots Q (F0 m pc ls st) := by
  obtain ⟨hc, hi, hd, hin, hse⟩ := hF
  have hts := fx.2.2.2.2
  have hPc := gSubP hP isC hC
  have hFc := va_free (wc := wc) hD hS hA isC hC
  have hDc := hD.sub isC hnC hC
  subst hst
  refine va_calli (va_runV (As := As) (rest := rest) fx (hM H.size) ⟨gCallB hts hc hi hd hl hz hR, hts _ hin, hts _ hse⟩ ⟨gBlind, va_recv hK hPc hcl hrc, fun U hU hW => ⟨rfl, by rw [hU], by rw [hU]; exact hPc, va_K.moved hW.alike hK, hDc.weaken (fun _ _ _ _ => trivial), hN.warm hW⟩⟩ rfl hAs hls rfl (by show 2 * 0 + _ ≤ 8; omega) hdg ⟨by omega, by omega⟩) hS (fun q _ h => hFc q h) hFc (fun r u t H1 locs1 ht hvm hw hB hz1 hk1 hS1 => ?_)
  obtain ⟨hP1, hK1, hD1⟩ := hB
  rw [ht] at hP1
  obtain ⟨hP2, hD2⟩ := va_join (wr := wr) (w1 := wc' u) hP hD isC isR hC hRr hn hdis hk1 hFc hP1 hD1
  exact kk r u H1 locs1 hw hP2 hD2 hS1
theorem g_cVv {y : MethodName} {cd : ByteArray} {maxL n index : Nat} {rm : Room} {b : Nat} {As : List Value} {wc wr : va_W} {S : Type} {wc' : S → va_W} {post : S → Prop} {st : List Value}
    (fx : CallFix p m c cc nL s args gG own) (hM : gMv l D tys y cd maxL rm (.ref b :: As) wc wc' post) (hF : gFV y cd maxL none n) (hl : Cond.methodLink own index y ∈ gG) (hz : rm.cells = 0 ∧ rm.slots = 0) (hR : rm.frames + 1 ≤ R.frames ∧ 8 + (maxL + 11) + rm.locals ≤ R.locals)
    (hN : gNest s) (hK : va_K D gCl tys s) (hA : ∀ q, s.heap.size ≤ q → A q) (hP : va_P D gCl ws H) (hD : va_D A ws) (hS : va_S A s.heap H locs)
    (isC isR : List Nat) (hC : isC.map (fun i => ws[i]?) = wc.map some) (hRr : isR.map (fun i => ws[i]?) = wr.map some) (hnC : va_nd isC = true) (hn : va_nd isR = true) (hdis : ∀ i ∈ isR, i ∉ isC)
    (q0 : Nat) {ci : Nat} {fs : List Value} {T : u_T} {N : Nat} (hrc : wc[q0]? = some (b, .inr (ci, fs))) (hcl : gCl[ci]? = some (y.cls, T, N))
    (hst : st = As.reverse ++ .ref b :: rest) (hAs : As.length = n) (hls : ls.size = nL) (hW : (rest.map fun v => v.category).sum ≤ 8) (hdg : decode cc pc = .ok (.invokevirtual index, 3)) (hcs : cells ≤ R.cells ∧ slots ≤ R.slots)
    (kk : ∀ (u : S) (H1 : Heap) (locs1 : List Loc), post u → va_P D gCl (wr ++ wc' u) H1 → va_D A (wr ++ wc' u) → va_S A s.heap H1 locs1 → W p l e R s m args below meth c H1 locs1 cells slots Q (F0 m (pc + 3) ls rest)) : W p l e R s m args below meth c H locs cells slots Q (F0 m pc ls st) := by
  obtain ⟨hc, hi, hd, hin, hse⟩ := hF
  have hts := fx.2.2.2.2
  have hPc := gSubP hP isC hC
  have hFc := va_free (wc := wc) hD hS hA isC hC
  have hDc := hD.sub isC hnC hC
  subst hst
  refine va_callv (va_runV (As := As) (rest := rest) fx (hM H.size) ⟨gCallB hts hc hi hd hl hz hR, hts _ hin, hts _ hse⟩ ⟨gBlind, va_recv hK hPc hcl hrc, fun U hU hW => ⟨rfl, by rw [hU], by rw [hU]; exact hPc, va_K.moved hW.alike hK, hDc.weaken (fun _ _ _ _ => trivial), hN.warm hW⟩⟩ rfl hAs hls rfl (by show 2 * 0 + _ ≤ 8; omega) hdg ⟨by omega, by omega⟩) hS (fun q _ h => hFc q h) hFc (fun u t H1 locs1 ht hvm hw hB hz1 hk1 hS1 => ?_)
  obtain ⟨hP1, hK1, hD1⟩ := hB
  rw [ht] at hP1
  obtain ⟨hP2, hD2⟩ := va_join (wr := wr) (w1 := wc' u) hP hD isC isR hC hRr hn hdis hk1 hFc hP1 hD1
  exact kk u H1 locs1 hw hP2 hD2 hS1
theorem g_cSi {y : MethodName} {cd : ByteArray} {maxL n index : Nat} {ret : FieldType} {rm : Room} {As : List Value} {wc wr : va_W} {S : Type} {wc' : S → va_W} {post : Int32 → S → Prop} {st : List Value}
    (fx : CallFix p m c cc nL s args gG own) (hM : gMi l D tys y cd maxL ret rm As wc wc' post) (hF : gFS y cd maxL (some ret) n) (hl : Cond.methodLink own index y ∈ gG) (hz : rm.cells = 0 ∧ rm.slots = 0) (hR : rm.frames + 1 ≤ R.frames ∧ 8 + (maxL + 11) + rm.locals ≤ R.locals)
    (hN : gNest s) (hK : va_K D gCl tys s) (hA : ∀ q, s.heap.size ≤ q → A q) (hP : va_P D gCl ws H) (hD : va_D A ws) (hS : va_S A s.heap H locs)
    (isC isR : List Nat) (hC : isC.map (fun i => ws[i]?) = wc.map some) (hRr : isR.map (fun i => ws[i]?) = wr.map some) (hnC : va_nd isC = true) (hn : va_nd isR = true) (hdis : ∀ i ∈ isR, i ∉ isC)
    (hst : st = As.reverse ++ rest) (hAs : As.length = n) (hls : ls.size = nL) (hW : (rest.map fun v => v.category).sum ≤ 8) (hdg : decode cc pc = .ok (.invokestatic index, 3)) (hcs : cells ≤ R.cells ∧ slots ≤ R.slots)
    (kk : ∀ (r : Int32) (u : S) (H1 : Heap) (locs1 : List Loc), post r u → va_P D gCl (wr ++ wc' u) H1 → va_D A (wr ++ wc' u) → va_S A s.heap H1 locs1 → W p l e R s m args below meth c H1 locs1 cells slots Q (F0 m (pc + 3) ls (.int r :: rest))) : W p l e R s m args below meth c H locs cells slots Q (F0 m pc ls st) := by
  obtain ⟨hc, hi, hd, hse⟩ := hF
  have hts := fx.2.2.2.2
  have hPc := gSubP hP isC hC
  have hFc := va_free (wc := wc) hD hS hA isC hC
  have hDc := hD.sub isC hnC hC
  subst hst
  refine va_calli (va_runS (As := As) (rest := rest) fx (hM H.size) ⟨gCallB hts hc hi hd hl hz hR, hts _ hse⟩ ⟨gBlind, fun U hU hW => ⟨rfl, by rw [hU], by rw [hU]; exact hPc, va_K.moved hW.alike hK, hDc.weaken (fun _ _ _ _ => trivial), hN.warm hW⟩⟩ rfl hAs hls rfl (by show 2 * 0 + _ ≤ 8; omega) hdg ⟨by omega, by omega⟩) hS (fun q _ h => hFc q h) hFc (fun r u t H1 locs1 ht hvm hw hB hz1 hk1 hS1 => ?_)
  obtain ⟨hP1, hK1, hD1⟩ := hB
  rw [ht] at hP1
  obtain ⟨hP2, hD2⟩ := va_join (wr := wr) (w1 := wc' u) hP hD isC isR hC hRr hn hdis hk1 hFc hP1 hD1
  exact kk r u H1 locs1 hw hP2 hD2 hS1
theorem g_cSv {y : MethodName} {cd : ByteArray} {maxL n index : Nat} {rm : Room} {As : List Value} {wc wr : va_W} {S : Type} {wc' : S → va_W} {post : S → Prop} {st : List Value}
    (fx : CallFix p m c cc nL s args gG own) (hM : gMv l D tys y cd maxL rm As wc wc' post) (hF : gFS y cd maxL none n) (hl : Cond.methodLink own index y ∈ gG) (hz : rm.cells = 0 ∧ rm.slots = 0) (hR : rm.frames + 1 ≤ R.frames ∧ 8 + (maxL + 11) + rm.locals ≤ R.locals)
    (hN : gNest s) (hK : va_K D gCl tys s) (hA : ∀ q, s.heap.size ≤ q → A q) (hP : va_P D gCl ws H) (hD : va_D A ws) (hS : va_S A s.heap H locs)
    (isC isR : List Nat) (hC : isC.map (fun i => ws[i]?) = wc.map some) (hRr : isR.map (fun i => ws[i]?) = wr.map some) (hnC : va_nd isC = true) (hn : va_nd isR = true) (hdis : ∀ i ∈ isR, i ∉ isC)
    (hst : st = As.reverse ++ rest) (hAs : As.length = n) (hls : ls.size = nL) (hW : (rest.map fun v => v.category).sum ≤ 8) (hdg : decode cc pc = .ok (.invokestatic index, 3)) (hcs : cells ≤ R.cells ∧ slots ≤ R.slots)
    (kk : ∀ (u : S) (H1 : Heap) (locs1 : List Loc), post u → va_P D gCl (wr ++ wc' u) H1 → va_D A (wr ++ wc' u) → va_S A s.heap H1 locs1 → W p l e R s m args below meth c H1 locs1 cells slots Q (F0 m (pc + 3) ls rest)) : W p l e R s m args below meth c H locs cells slots Q (F0 m pc ls st) := by
  obtain ⟨hc, hi, hd, hse⟩ := hF
  have hts := fx.2.2.2.2
  have hPc := gSubP hP isC hC
  have hFc := va_free (wc := wc) hD hS hA isC hC
  have hDc := hD.sub isC hnC hC
  subst hst
  refine va_callv (va_runS (As := As) (rest := rest) fx (hM H.size) ⟨gCallB hts hc hi hd hl hz hR, hts _ hse⟩ ⟨gBlind, fun U hU hW => ⟨rfl, by rw [hU], by rw [hU]; exact hPc, va_K.moved hW.alike hK, hDc.weaken (fun _ _ _ _ => trivial), hN.warm hW⟩⟩ rfl hAs hls rfl (by show 2 * 0 + _ ≤ 8; omega) hdg ⟨by omega, by omega⟩) hS (fun q _ h => hFc q h) hFc (fun u t H1 locs1 ht hvm hw hB hz1 hk1 hS1 => ?_)
  obtain ⟨hP1, hK1, hD1⟩ := hB
  rw [ht] at hP1
  obtain ⟨hP2, hD2⟩ := va_join (wr := wr) (w1 := wc' u) hP hD isC isR hC hRr hn hdis hk1 hFc hP1 hD1
  exact kk u H1 locs1 hw hP2 hD2 hS1
theorem gGet {ci index k : Nat} {C : String} {T : u_T} {N : Nat} {fs : List Value} {v : Value} (fx : CallFix p m c cc nL s args gG own) (hK : va_K D gCl tys s) (hP : va_P D gCl ws H) (q0 : Nat) (he : ws[q0]? = some (a, .inr (ci, fs))) (hin : ∀ w ∈ u_ws C T N, w ∈ gG) (hc : gCl[ci]? = some (C, T, N)) (hk : k < N) (hlink : Cond.fieldLink own index (T k).1 (T k).2.1 (T k).2.2.1 ∈ gG) (hv : fs[k]? = some v) (hdg : decode cc pc = .ok (.getfield index, 3))
    (kk : W p l e R s m args below meth c H locs cells slots Q (F0 m (pc + 3) ls (v :: rest))) : W p l e R s m args below meth c H locs cells slots Q (F0 m pc ls (.ref a :: rest)) :=
  va_get fx.1 fx.2.1 fx.2.2.2.2 hin fx.2.2.2.1 hK hP q0 he hc k hk (fx.2.2.2.2 _ hlink) (fun _ h => h) hv hdg kk
theorem gGetN {ci index k : Nat} {C host : String} {T : u_T} {N : Nat} {fs : List Value} {v : Value} (fx : CallFix p m c cc nL s args gG own) (hN : gNest s) (hK : va_K D gCl tys s) (hP : va_P D gCl ws H) (q0 : Nat) (he : ws[q0]? = some (a, .inr (ci, fs))) (hin : ∀ w ∈ u_ws C T N, w ∈ gG) (hc : gCl[ci]? = some (C, T, N)) (hk : k < N) (hlink : Cond.fieldLinkNest own index (T k).1 (T k).2.1 (T k).2.2.1 host ∈ gN) (hv : fs[k]? = some v) (hdg : decode cc pc = .ok (.getfield index, 3))
    (kk : W p l e R s m args below meth c H locs cells slots Q (F0 m (pc + 3) ls (v :: rest))) : W p l e R s m args below meth c H locs cells slots Q (F0 m pc ls (.ref a :: rest)) :=
  va_getN fx.1 fx.2.1 fx.2.2.2.2 hin fx.2.2.2.1 hK hP q0 he hc k hk (va_Nw.use rfl (hN _ hlink)) (fun _ h => h) hv hdg kk
theorem gPut {ci index k : Nat} {C : String} {T : u_T} {N : Nat} {fs : List Value} {v : Value} {ty0 : Nat → FieldType} (fx : CallFix p m c cc nL s args gG own) (hK : va_K D gCl tys s) (hP : va_P D gCl ws H) (hD : va_D A ws) (hS : va_S A s.heap H locs) (q0 : Nat) (he : ws[q0]? = some (a, .inr (ci, fs))) (hin : ∀ w ∈ u_ws C T N, w ∈ gG) (hty : ∀ k, k < N → parseFieldDescriptor (T k).2.2.1 = some (ty0 k)) (hnm : ∀ a, a < N → ∀ b, b < N → a ≠ b → (T a).2.1 ≠ (T b).2.1) (hc : gCl[ci]? = some (C, T, N)) (hk : k < N) (hlink : Cond.fieldLink own index (T k).1 (T k).2.1 (T k).2.2.1 ∈ gG) (hfin : (T k).2.2.2 = false) (hn : narrow (ty0 k) v = v) (hfit : fits (ty0 k) v = true) (hl : k < fs.length) (hdg : decode cc pc = .ok (.putfield index, 3))
    (kk : ∀ (H1 : Heap) (locs1 : List Loc), va_P D gCl (ws.set q0 (a, .inr (ci, fs.set k v))) H1 → va_D A (ws.set q0 (a, .inr (ci, fs.set k v))) → va_S A s.heap H1 locs1 → W p l e R s m args below meth c H1 locs1 cells slots Q (F0 m (pc + 3) ls rest)) : W p l e R s m args below meth c H locs cells slots Q (F0 m pc ls (v :: .ref a :: rest)) :=
  va_put fx.1 fx.2.1 fx.2.2.2.2 hin ty0 hty hnm fx.2.2.2.1 hK hP hD hS q0 he hc k hk (fx.2.2.2.2 _ hlink) (fun _ h => h) hfin (hty k hk) hn hfit hl hdg kk
/-- a switch by a known number -/
theorem g_sw {dflt lo hi : Int} {offs : Array Int} {len : Nat} {x : Int32} (K : Int32) {off : Int} {tgt : Nat} (hexec : p.tables.exec = Jvm.exec) (hb : c.code = cc) (hdg : decode cc pc = .ok (.tableswitch dflt lo hi offs, len)) (hxK : x = K) (h1 : ¬ K.toInt < lo) (h2 : ¬ hi < K.toInt) (ho : offs[(K.toInt - lo).toNat]? = some off) (ht : (pc : Int) + off = (tgt : Int))
    (kk : W p l e R s m args below meth c H locs cells slots Q (F0 m tgt ls rest)) : W p l e R s m args below meth c H locs cells slots Q (F0 m pc ls (.int x :: rest)) := by
  subst hxK
  exact lv_tableIn hexec hb hdg h1 h2 ho ht kk
end GC
/-- a number that is none of 0 .. n - 1 -/
theorem g_out {x : Int32} {n : Nat} (hn : n < 2 ^ 31) (h : ∀ j, j < n → ¬ x = nI j) : x.toInt < 0 ∨ ((n : Int) - 1) < x.toInt := by
  by_cases h0 : x < 0
  · left
    have := Int32.lt_iff_toInt_lt.mp h0
    simpa using this
  · right
    obtain ⟨j, hj, rfl⟩ := nI_of h0
    rw [nI_toInt hj]
    have : ¬ j < n := fun hlt => h j hlt rfl
    omega
theorem i32_m1 : Int32.ofInt (-1) = -1 := by decide
/-! loops in the pure part: a body F, turned n times at most -/
def gL1 {A1 : Type} (F : (A1 → Prop) → A1 → Prop) : Nat → A1 → Prop
  | 0 => fun _ => False
  | n + 1 => F (gL1 F n)
def gL2 {A1 A2 : Type} (F : (A1 → A2 → Prop) → A1 → A2 → Prop) : Nat → A1 → A2 → Prop
  | 0 => fun _ _ => False
  | n + 1 => F (gL2 F n)
def gL3 {A1 A2 A3 : Type} (F : (A1 → A2 → A3 → Prop) → A1 → A2 → A3 → Prop) : Nat → A1 → A2 → A3 → Prop
  | 0 => fun _ _ _ => False
  | n + 1 => F (gL3 F n)
def gL4 {A1 A2 A3 A4 : Type} (F : (A1 → A2 → A3 → A4 → Prop) → A1 → A2 → A3 → A4 → Prop) : Nat → A1 → A2 → A3 → A4 → Prop
  | 0 => fun _ _ _ _ => False
  | n + 1 => F (gL4 F n)
def gL5 {A1 A2 A3 A4 A5 : Type} (F : (A1 → A2 → A3 → A4 → A5 → Prop) → A1 → A2 → A3 → A4 → A5 → Prop) : Nat → A1 → A2 → A3 → A4 → A5 → Prop
  | 0 => fun _ _ _ _ _ => False
  | n + 1 => F (gL5 F n)
def gL6 {A1 A2 A3 A4 A5 A6 : Type} (F : (A1 → A2 → A3 → A4 → A5 → A6 → Prop) → A1 → A2 → A3 → A4 → A5 → A6 → Prop) : Nat → A1 → A2 → A3 → A4 → A5 → A6 → Prop
  | 0 => fun _ _ _ _ _ _ => False
  | n + 1 => F (gL6 F n)
def gL7 {A1 A2 A3 A4 A5 A6 A7 : Type} (F : (A1 → A2 → A3 → A4 → A5 → A6 → A7 → Prop) → A1 → A2 → A3 → A4 → A5 → A6 → A7 → Prop) : Nat → A1 → A2 → A3 → A4 → A5 → A6 → A7 → Prop
  | 0 => fun _ _ _ _ _ _ _ => False
  | n + 1 => F (gL7 F n)
def gL8 {A1 A2 A3 A4 A5 A6 A7 A8 : Type} (F : (A1 → A2 → A3 → A4 → A5 → A6 → A7 → A8 → Prop) → A1 → A2 → A3 → A4 → A5 → A6 → A7 → A8 → Prop) : Nat → A1 → A2 → A3 → A4 → A5 → A6 → A7 → A8 → Prop
  | 0 => fun _ _ _ _ _ _ _ _ => False
  | n + 1 => F (gL8 F n)
def gL9 {A1 A2 A3 A4 A5 A6 A7 A8 A9 : Type} (F : (A1 → A2 → A3 → A4 → A5 → A6 → A7 → A8 → A9 → Prop) → A1 → A2 → A3 → A4 → A5 → A6 → A7 → A8 → A9 → Prop) : Nat → A1 → A2 → A3 → A4 → A5 → A6 → A7 → A8 → A9 → Prop
  | 0 => fun _ _ _ _ _ _ _ _ _ => False
  | n + 1 => F (gL9 F n)
def gL10 {A1 A2 A3 A4 A5 A6 A7 A8 A9 A10 : Type} (F : (A1 → A2 → A3 → A4 → A5 → A6 → A7 → A8 → A9 → A10 → Prop) → A1 → A2 → A3 → A4 → A5 → A6 → A7 → A8 → A9 → A10 → Prop) : Nat → A1 → A2 → A3 → A4 → A5 → A6 → A7 → A8 → A9 → A10 → Prop
  | 0 => fun _ _ _ _ _ _ _ _ _ _ => False
  | n + 1 => F (gL10 F n)
def gL11 {A1 A2 A3 A4 A5 A6 A7 A8 A9 A10 A11 : Type} (F : (A1 → A2 → A3 → A4 → A5 → A6 → A7 → A8 → A9 → A10 → A11 → Prop) → A1 → A2 → A3 → A4 → A5 → A6 → A7 → A8 → A9 → A10 → A11 → Prop) : Nat → A1 → A2 → A3 → A4 → A5 → A6 → A7 → A8 → A9 → A10 → A11 → Prop
  | 0 => fun _ _ _ _ _ _ _ _ _ _ _ => False
  | n + 1 => F (gL11 F n)
def gL12 {A1 A2 A3 A4 A5 A6 A7 A8 A9 A10 A11 A12 : Type} (F : (A1 → A2 → A3 → A4 → A5 → A6 → A7 → A8 → A9 → A10 → A11 → A12 → Prop) → A1 → A2 → A3 → A4 → A5 → A6 → A7 → A8 → A9 → A10 → A11 → A12 → Prop) : Nat → A1 → A2 → A3 → A4 → A5 → A6 → A7 → A8 → A9 → A10 → A11 → A12 → Prop
  | 0 => fun _ _ _ _ _ _ _ _ _ _ _ _ => False
  | n + 1 => F (gL12 F n)
def gL13 {A1 A2 A3 A4 A5 A6 A7 A8 A9 A10 A11 A12 A13 : Type} (F : (A1 → A2 → A3 → A4 → A5 → A6 → A7 → A8 → A9 → A10 → A11 → A12 → A13 → Prop) → A1 → A2 → A3 → A4 → A5 → A6 → A7 → A8 → A9 → A10 → A11 → A12 → A13 → Prop) : Nat → A1 → A2 → A3 → A4 → A5 → A6 → A7 → A8 → A9 → A10 → A11 → A12 → A13 → Prop
  | 0 => fun _ _ _ _ _ _ _ _ _ _ _ _ _ => False
  | n + 1 => F (gL13 F n)
def gL14 {A1 A2 A3 A4 A5 A6 A7 A8 A9 A10 A11 A12 A13 A14 : Type} (F : (A1 → A2 → A3 → A4 → A5 → A6 → A7 → A8 → A9 → A10 → A11 → A12 → A13 → A14 → Prop) → A1 → A2 → A3 → A4 → A5 → A6 → A7 → A8 → A9 → A10 → A11 → A12 → A13 → A14 → Prop) : Nat → A1 → A2 → A3 → A4 → A5 → A6 → A7 → A8 → A9 → A10 → A11 → A12 → A13 → A14 → Prop
  | 0 => fun _ _ _ _ _ _ _ _ _ _ _ _ _ _ => False
  | n + 1 => F (gL14 F n)
theorem gBool {r : Int32} (h : r = nI 0 ∨ r = nI 1) : narrow .boolean (.int r) = .int r := by
  rcases h with rfl | rfl <;> rfl
end
section
def wp_T_size (post : Int32 → Prop) (t_size : Int32) (t_at : Int32) : Prop :=
  post t_size
abbrev rm_T_size : Room := { frames := 0, cells := 0, slots := 0, locals := 0 }
theorem mf_T_size : gFV y_T_size b_T_size 1 (some .int) 0 := ⟨w_96, w_2, ⟨by decide, by decide, by decide +kernel⟩, w_94, w_95⟩
set_option maxHeartbeats 4000000 in
set_option maxRecDepth 100000 in
theorem c_T_size (l : Launch) (D : va_G) (cI : ClassId) (h_t : Nat) (t_bits : Nat) (t_size : Int32) (t_at : Int32) (post : Int32 → Prop) (hw : wp_T_size post t_size t_at) :
    gMi l D [(cI, .int)] y_T_size b_T_size 1 .int rm_T_size [.ref h_t] [(h_t, .inr (1, [.ref t_bits, .int t_size, .int t_at]))] (S := Unit) (fun u => [(h_t, .inr (1, [.ref t_bits, .int t_size, .int t_at]))]) (fun r u => post r) := by
  rw [wp_T_size] at hw
  refine gMi.of (by decide) (Nat.le_of_ble_eq_true rfl) (fun p e s m args below meth c A Q ls hx hb hml hown hts hN hK hA hP hD hret hl => ?_)
  have fx : CallFix p m c b_T_size 1 s args gG "TapeCounter$Tape" := ⟨hx, hb, hml, hown, hts⟩
  have hl : lv_has ls 1 [(0, .ref h_t)] := hl
  have hS : va_S A s.heap s.heap [] := va_S.rf
  refine lv_aload_n hx hb d_T_size_0 rfl (lv_at hl 0 rfl) ?_
  refine gGet fx hK hP 0 rfl inT rfl (k := 1) (by decide) w_22 rfl d_T_size_1 ?_
  exact hret _ _ _ () _ _ hw rfl hP hD hS d_T_size_4
def wp_T_readSoFar (post : Int32 → Prop) (t_size : Int32) (t_at : Int32) : Prop :=
  post t_at
abbrev rm_T_readSoFar : Room := { frames := 0, cells := 0, slots := 0, locals := 0 }
theorem mf_T_readSoFar : gFV y_T_readSoFar b_T_readSoFar 1 (some .int) 0 := ⟨w_167, w_2, ⟨by decide, by decide, by decide +kernel⟩, w_165, w_166⟩
set_option maxHeartbeats 4000000 in
set_option maxRecDepth 100000 in
theorem c_T_readSoFar (l : Launch) (D : va_G) (cI : ClassId) (h_t : Nat) (t_bits : Nat) (t_size : Int32) (t_at : Int32) (post : Int32 → Prop) (hw : wp_T_readSoFar post t_size t_at) :
    gMi l D [(cI, .int)] y_T_readSoFar b_T_readSoFar 1 .int rm_T_readSoFar [.ref h_t] [(h_t, .inr (1, [.ref t_bits, .int t_size, .int t_at]))] (S := Unit) (fun u => [(h_t, .inr (1, [.ref t_bits, .int t_size, .int t_at]))]) (fun r u => post r) := by
  rw [wp_T_readSoFar] at hw
  refine gMi.of (by decide) (Nat.le_of_ble_eq_true rfl) (fun p e s m args below meth c A Q ls hx hb hml hown hts hN hK hA hP hD hret hl => ?_)
  have fx : CallFix p m c b_T_readSoFar 1 s args gG "TapeCounter$Tape" := ⟨hx, hb, hml, hown, hts⟩
  have hl : lv_has ls 1 [(0, .ref h_t)] := hl
  have hS : va_S A s.heap s.heap [] := va_S.rf
  refine lv_aload_n hx hb d_T_readSoFar_0 rfl (lv_at hl 0 rfl) ?_
  refine gGet fx hK hP 0 rfl inT rfl (k := 2) (by decide) w_23 rfl d_T_readSoFar_1 ?_
  exact hret _ _ _ () _ _ hw rfl hP hD hS d_T_readSoFar_4
def wp_T_clear (post : Int32 → Int32 → Prop) (t_size : Int32) (t_at : Int32) : Prop :=
  post (nI 0) (nI 0)
abbrev rm_T_clear : Room := { frames := 0, cells := 0, slots := 0, locals := 0 }
theorem mf_T_clear : gFV y_T_clear b_T_clear 1 none 0 := ⟨w_198, w_2, ⟨by decide, by decide, by decide +kernel⟩, w_196, w_197⟩
set_option maxHeartbeats 4000000 in
set_option maxRecDepth 100000 in
theorem c_T_clear (l : Launch) (D : va_G) (cI : ClassId) (h_t : Nat) (t_bits : Nat) (t_size : Int32) (t_at : Int32) (post : Int32 → Int32 → Prop) (hw : wp_T_clear post t_size t_at) :
    gMv l D [(cI, .int)] y_T_clear b_T_clear 1 rm_T_clear [.ref h_t] [(h_t, .inr (1, [.ref t_bits, .int t_size, .int t_at]))] (S := Int32 × Int32) (fun u => [(h_t, .inr (1, [.ref t_bits, .int u.1, .int u.2]))]) (fun u => post u.1 u.2) := by
  rw [wp_T_clear] at hw
  refine gMv.of (by decide) (Nat.le_of_ble_eq_true rfl) (fun p e s m args below meth c A Q ls hx hb hml hown hts hN hK hA hP hD hret hl => ?_)
  have fx : CallFix p m c b_T_clear 1 s args gG "TapeCounter$Tape" := ⟨hx, hb, hml, hown, hts⟩
  have hl : lv_has ls 1 [(0, .ref h_t)] := hl
  have hS : va_S A s.heap s.heap [] := va_S.rf
  refine lv_aload_n hx hb d_T_clear_0 rfl (lv_at hl 0 rfl) ?_
  refine lv_iconst (v := (nI 0)) hx hb d_T_clear_1 (by decide) ?_
  refine gPut fx hK hP hD hS 0 rfl inT tyT nmT rfl (k := 1) (by decide) w_22 rfl rfl rfl (Nat.le_of_ble_eq_true rfl) d_T_clear_2 (fun H locs hP hD hS => ?_)
  have hP : va_P D gCl [(h_t, .inr (1, [.ref t_bits, .int (nI 0), .int t_at]))] H := hP
  have hD : va_D A [(h_t, .inr (1, [.ref t_bits, .int (nI 0), .int t_at]))] := hD
  refine lv_aload_n hx hb d_T_clear_5 rfl (lv_at hl 0 rfl) ?_
  refine lv_iconst (v := (nI 0)) hx hb d_T_clear_6 (by decide) ?_
  refine gPut fx hK hP hD hS 0 rfl inT tyT nmT rfl (k := 2) (by decide) w_23 rfl rfl rfl (Nat.le_of_ble_eq_true rfl) d_T_clear_7 (fun H locs hP hD hS => ?_)
  have hP : va_P D gCl [(h_t, .inr (1, [.ref t_bits, .int (nI 0), .int (nI 0)]))] H := hP
  have hD : va_D A [(h_t, .inr (1, [.ref t_bits, .int (nI 0), .int (nI 0)]))] := hD
  exact hret _ _ ((nI 0), (nI 0)) _ _ hw hP hD hS d_T_clear_10
def wp_T_rewind (post : Int32 → Prop) (t_size : Int32) (t_at : Int32) : Prop :=
  post (nI 0)
abbrev rm_T_rewind : Room := { frames := 0, cells := 0, slots := 0, locals := 0 }
theorem mf_T_rewind : gFV y_T_rewind b_T_rewind 1 none 0 := ⟨w_117, w_2, ⟨by decide, by decide, by decide +kernel⟩, w_115, w_116⟩
set_option maxHeartbeats 4000000 in
set_option maxRecDepth 100000 in
theorem c_T_rewind (l : Launch) (D : va_G) (cI : ClassId) (h_t : Nat) (t_bits : Nat) (t_size : Int32) (t_at : Int32) (post : Int32 → Prop) (hw : wp_T_rewind post t_size t_at) :
    gMv l D [(cI, .int)] y_T_rewind b_T_rewind 1 rm_T_rewind [.ref h_t] [(h_t, .inr (1, [.ref t_bits, .int t_size, .int t_at]))] (S := Int32) (fun u => [(h_t, .inr (1, [.ref t_bits, .int t_size, .int u]))]) (fun u => post u) := by
  rw [wp_T_rewind] at hw
  refine gMv.of (by decide) (Nat.le_of_ble_eq_true rfl) (fun p e s m args below meth c A Q ls hx hb hml hown hts hN hK hA hP hD hret hl => ?_)
  have fx : CallFix p m c b_T_rewind 1 s args gG "TapeCounter$Tape" := ⟨hx, hb, hml, hown, hts⟩
  have hl : lv_has ls 1 [(0, .ref h_t)] := hl
  have hS : va_S A s.heap s.heap [] := va_S.rf
  refine lv_aload_n hx hb d_T_rewind_0 rfl (lv_at hl 0 rfl) ?_
  refine lv_iconst (v := (nI 0)) hx hb d_T_rewind_1 (by decide) ?_
  refine gPut fx hK hP hD hS 0 rfl inT tyT nmT rfl (k := 2) (by decide) w_23 rfl rfl rfl (Nat.le_of_ble_eq_true rfl) d_T_rewind_2 (fun H locs hP hD hS => ?_)
  have hP : va_P D gCl [(h_t, .inr (1, [.ref t_bits, .int t_size, .int (nI 0)]))] H := hP
  have hD : va_D A [(h_t, .inr (1, [.ref t_bits, .int t_size, .int (nI 0)]))] := hD
  exact hret _ _ (nI 0) _ _ hw hP hD hS d_T_rewind_5
def wpF_T_append_30 (post : Int32 → Int32 → (Nat → Int32) → Prop) (Nb : Nat) (x1 : Int32) (K_30 : Int32 → (Nat → Int32) → Int32 → Prop) (t_size : Int32) (vb : Nat → Int32) (x3 : Int32) : Prop :=
  ((x3 < 0 → post (nI 1) t_size vb) ∧ (¬ x3 < 0 → (vp_in t_size Nb ∧ K_30 (t_size + (nI 1)) (upd vb (t_size).toNatClampNeg (((x1).toUInt32 >>> ((x3).toUInt32 &&& Int32.toUInt32 31)).toInt32 &&& (nI 1))) (x3 + (-1)))))
def wp_T_append (post : Int32 → Int32 → (Nat → Int32) → Prop) (Nb : Nat) (t_size : Int32) (t_at : Int32) (vb : Nat → Int32) (x1 : Int32) (x2 : Int32) : Prop :=
  ((x2 < 0 → post (nI 0) t_size vb) ∧ (¬ x2 < 0 → (((nI 32) < x2 → post (nI 0) t_size vb) ∧ (¬ (nI 32) < x2 → ((x2 ≤ ((nI Nb) - t_size) → (∃ n, gL3 (wpF_T_append_30 post Nb x1) n t_size vb (x2 - (nI 1)))) ∧ (¬ x2 ≤ ((nI Nb) - t_size) → post (nI 0) t_size vb))))))
abbrev rm_T_append : Room := { frames := 0, cells := 0, slots := 0, locals := 0 }
theorem mf_T_append : gFV y_T_append b_T_append 4 (some .boolean) 2 := ⟨w_92, w_2, ⟨by decide, by decide, by decide +kernel⟩, w_90, w_91⟩
set_option maxHeartbeats 4000000 in
set_option maxRecDepth 100000 in
theorem c_T_append (l : Launch) (D : va_G) (cI : ClassId) (h_t : Nat) (h_b : Nat) (Nb : Nat) (t_size : Int32) (t_at : Int32) (vb : Nat → Int32) (x1 : Int32) (x2 : Int32) (post : Int32 → Int32 → (Nat → Int32) → Prop) (hw : wp_T_append post Nb t_size t_at vb x1 x2) :
    gMi l D [(cI, .int)] y_T_append b_T_append 4 .boolean rm_T_append [.ref h_t, .int x1, .int x2] [(h_t, .inr (1, [.ref h_b, .int t_size, .int t_at])), (h_b, .inl (cI, Nb, .inl vb))] (S := Int32 × (Nat → Int32)) (fun u => [(h_t, .inr (1, [.ref h_b, .int u.1, .int t_at])), (h_b, .inl (cI, Nb, .inl u.2))]) (fun r u => post r u.1 u.2) := by
  rw [wp_T_append] at hw
  refine gMi.of (by decide) (Nat.le_of_ble_eq_true rfl) (fun p e s m args below meth c A Q ls hx hb hml hown hts hN hK hA hP hD hret hl => ?_)
  have fx : CallFix p m c b_T_append 4 s args gG "TapeCounter$Tape" := ⟨hx, hb, hml, hown, hts⟩
  have hl : lv_has ls 4 [(0, .ref h_t), (1, .int x1), (2, .int x2)] := hl
  have hS : va_S A s.heap s.heap [] := va_S.rf
  refine lv_iload_n hx hb d_T_append_0 rfl (lv_at hl 2 rfl) ?_
  refine lv_if_lt (tgt := 24) hx hb d_T_append_1 (by decide) (fun c1 => ?_) (fun c1 => ?_)
  · have hw := hw.1 c1
    refine lv_iconst (v := (nI 0)) hx hb d_T_append_24 (by decide) ?_
    exact hret _ _ _ (t_size, vb) _ _ hw rfl hP hD hS d_T_append_25
  · have hw := hw.2 c1
    refine lv_iload_n hx hb d_T_append_4 rfl (lv_at hl 2 rfl) ?_
    refine lv_bipush (v := (nI 32)) hx hb d_T_append_5 (by decide) ?_
    refine lv_icmp_gt (tgt := 24) hx hb d_T_append_7 (by decide) (fun c7 => ?_) (fun c7 => ?_)
    · have hw := hw.1 c7
      refine lv_iconst (v := (nI 0)) hx hb d_T_append_24 (by decide) ?_
      exact hret _ _ _ (t_size, vb) _ _ hw rfl hP hD hS d_T_append_25
    · have hw := hw.2 c7
      refine lv_iload_n hx hb d_T_append_10 rfl (lv_at hl 2 rfl) ?_
      refine lv_aload_n hx hb d_T_append_11 rfl (lv_at hl 0 rfl) ?_
      refine gGet fx hK hP 0 rfl inT rfl (k := 0) (by decide) w_21 rfl d_T_append_12 ?_
      refine va_alen hx hb hK hP 1 0 rfl rfl (v := nI Nb) rfl d_T_append_15 ?_
      refine lv_aload_n hx hb d_T_append_16 rfl (lv_at hl 0 rfl) ?_
      refine gGet fx hK hP 0 rfl inT rfl (k := 1) (by decide) w_22 rfl d_T_append_17 ?_
      refine lv_isub hx hb d_T_append_20 ?_
      refine lv_icmp_le (tgt := 26) hx hb d_T_append_21 (by decide) (fun c21 => ?_) (fun c21 => ?_)
      · have hw := hw.1 c21
        refine lv_iload_n hx hb d_T_append_26 rfl (lv_at hl 2 rfl) ?_
        refine lv_iconst (v := (nI 1)) hx hb d_T_append_27 (by decide) ?_
        refine lv_isub hx hb d_T_append_28 ?_
        refine lv_istore_n (lv' := [(3, .int (x2 - (nI 1))), (0, .ref h_t), (1, .int x1), (2, .int x2)]) hx hb d_T_append_29 rfl hl (by decide) rfl (fun ls hl => ?_)
        obtain ⟨n_30, hw⟩ := hw
        have k_30 : ∀ (n_30 : Nat) (t_size : Int32) (vb : Nat → Int32) (x3 : Int32), gL3 (wpF_T_append_30 post Nb x1) n_30 t_size vb x3 → ∀ (H : Heap) (locs : List Loc) (ls : Array Slot), va_P D gCl [(h_t, .inr (1, [.ref h_b, .int t_size, .int t_at])), (h_b, .inl (cI, Nb, .inl vb))] H → va_D A [(h_t, .inr (1, [.ref h_b, .int t_size, .int t_at])), (h_b, .inl (cI, Nb, .inl vb))] → va_S A s.heap H locs → lv_has ls 4 [(3, .int x3), (0, .ref h_t), (1, .int x1)] → W p l e rm_T_append s m args below meth c H locs 0 0 Q (F0 m 30 ls []) := by
          clear hw hP hD hS hl
          intro n_30
          induction n_30 with
          | zero => exact fun _ _ _ h => h.elim
          | succ n_30 ih_30 =>
            intro t_size vb x3 hw H locs ls hP hD hS hl
            have hw : wpF_T_append_30 post Nb x1 (gL3 (wpF_T_append_30 post Nb x1) n_30) t_size vb x3 := hw
            rw [wpF_T_append_30] at hw
            refine lv_iload_n hx hb d_T_append_30 rfl (lv_at hl 0 rfl) ?_
            refine lv_if_lt (tgt := 64) hx hb d_T_append_31 (by decide) (fun c31 => ?_) (fun c31 => ?_)
            · have hw := hw.1 c31
              refine lv_iconst (v := (nI 1)) hx hb d_T_append_64 (by decide) ?_
              exact hret _ _ _ (t_size, vb) _ _ hw rfl hP hD hS d_T_append_65
            · have hw := hw.2 c31
              refine lv_aload_n hx hb d_T_append_34 rfl (lv_at hl 1 rfl) ?_
              refine gGet fx hK hP 0 rfl inT rfl (k := 0) (by decide) w_21 rfl d_T_append_35 ?_
              refine lv_aload_n hx hb d_T_append_38 rfl (lv_at hl 1 rfl) ?_
              refine gGet fx hK hP 0 rfl inT rfl (k := 1) (by decide) w_22 rfl d_T_append_39 ?_
              refine lv_iload_n hx hb d_T_append_42 rfl (lv_at hl 2 rfl) ?_
              refine lv_iload_n hx hb d_T_append_43 rfl (lv_at hl 0 rfl) ?_
              refine lv_iushr hx hb d_T_append_44 rfl ?_
              refine lv_iconst (v := (nI 1)) hx hb d_T_append_45 (by decide) ?_
              refine lv_iand hx hb d_T_append_46 ?_
              refine va_iast hx hb hK hP hD hS 1 0 rfl rfl hw.1 d_T_append_47 (fun H locs hP hD hS => ?_)
              have hw := hw.2
              have hP : va_P D gCl [(h_t, .inr (1, [.ref h_b, .int t_size, .int t_at])), (h_b, .inl (cI, Nb, .inl (upd vb (t_size).toNatClampNeg (((x1).toUInt32 >>> ((x3).toUInt32 &&& Int32.toUInt32 31)).toInt32 &&& (nI 1)))))] H := hP
              have hD : va_D A [(h_t, .inr (1, [.ref h_b, .int t_size, .int t_at])), (h_b, .inl (cI, Nb, .inl (upd vb (t_size).toNatClampNeg (((x1).toUInt32 >>> ((x3).toUInt32 &&& Int32.toUInt32 31)).toInt32 &&& (nI 1)))))] := hD
              refine lv_aload_n hx hb d_T_append_48 rfl (lv_at hl 1 rfl) ?_
              refine lv_dup hx hb d_T_append_49 rfl ?_
              refine gGet fx hK hP 0 rfl inT rfl (k := 1) (by decide) w_22 rfl d_T_append_50 ?_
              refine lv_iconst (v := (nI 1)) hx hb d_T_append_53 (by decide) ?_
              refine lv_iadd hx hb d_T_append_54 ?_
              refine gPut fx hK hP hD hS 0 rfl inT tyT nmT rfl (k := 1) (by decide) w_22 rfl rfl rfl (Nat.le_of_ble_eq_true rfl) d_T_append_55 (fun H locs hP hD hS => ?_)
              have hP : va_P D gCl [(h_t, .inr (1, [.ref h_b, .int (t_size + (nI 1)), .int t_at])), (h_b, .inl (cI, Nb, .inl (upd vb (t_size).toNatClampNeg (((x1).toUInt32 >>> ((x3).toUInt32 &&& Int32.toUInt32 31)).toInt32 &&& (nI 1)))))] H := hP
              have hD : va_D A [(h_t, .inr (1, [.ref h_b, .int (t_size + (nI 1)), .int t_at])), (h_b, .inl (cI, Nb, .inl (upd vb (t_size).toNatClampNeg (((x1).toUInt32 >>> ((x3).toUInt32 &&& Int32.toUInt32 31)).toInt32 &&& (nI 1)))))] := hD
              refine lv_iinc (v := (x3 + (-1))) (lv' := [(3, .int (x3 + (-1))), (0, .ref h_t), (1, .int x1)]) hx hb d_T_append_58 hl (k := 0) rfl (by rw [i32_m1]) (by decide) rfl (fun ls hl => ?_)
              refine lv_goto (tgt := 30) hx hb d_T_append_61 (by decide) ?_
              exact ih_30 _ _ _ hw _ _ _ hP hD hS (lv_sub hl [0, 1, 2] rfl)
        exact k_30 n_30 _ _ _ hw _ _ _ hP hD hS (lv_sub hl [0, 1, 2] rfl)
      · have hw := hw.2 c21
        refine lv_iconst (v := (nI 0)) hx hb d_T_append_24 (by decide) ?_
        exact hret _ _ _ (t_size, vb) _ _ hw rfl hP hD hS d_T_append_25
def wp_T_readBit (post : Int32 → Int32 → Prop) (Nb : Nat) (t_size : Int32) (t_at : Int32) (vb : Nat → Int32) : Prop :=
  ((t_at < t_size → (vp_in t_at Nb ∧ post (vb (t_at).toNatClampNeg) (t_at + (nI 1)))) ∧ (¬ t_at < t_size → post (-1) t_at))
abbrev rm_T_readBit : Room := { frames := 0, cells := 0, slots := 0, locals := 0 }
theorem mf_T_readBit : gFV y_T_readBit b_T_readBit 2 (some .int) 0 := ⟨w_135, w_2, ⟨by decide, by decide, by decide +kernel⟩, w_133, w_134⟩
set_option maxHeartbeats 4000000 in
set_option maxRecDepth 100000 in
theorem c_T_readBit (l : Launch) (D : va_G) (cI : ClassId) (h_t : Nat) (h_b : Nat) (Nb : Nat) (t_size : Int32) (t_at : Int32) (vb : Nat → Int32) (post : Int32 → Int32 → Prop) (hw : wp_T_readBit post Nb t_size t_at vb) :
    gMi l D [(cI, .int)] y_T_readBit b_T_readBit 2 .int rm_T_readBit [.ref h_t] [(h_t, .inr (1, [.ref h_b, .int t_size, .int t_at])), (h_b, .inl (cI, Nb, .inl vb))] (S := Int32) (fun u => [(h_t, .inr (1, [.ref h_b, .int t_size, .int u])), (h_b, .inl (cI, Nb, .inl vb))]) (fun r u => post r u) := by
  rw [wp_T_readBit] at hw
  refine gMi.of (by decide) (Nat.le_of_ble_eq_true rfl) (fun p e s m args below meth c A Q ls hx hb hml hown hts hN hK hA hP hD hret hl => ?_)
  have fx : CallFix p m c b_T_readBit 2 s args gG "TapeCounter$Tape" := ⟨hx, hb, hml, hown, hts⟩
  have hl : lv_has ls 2 [(0, .ref h_t)] := hl
  have hS : va_S A s.heap s.heap [] := va_S.rf
  refine lv_aload_n hx hb d_T_readBit_0 rfl (lv_at hl 0 rfl) ?_
  refine gGet fx hK hP 0 rfl inT rfl (k := 2) (by decide) w_23 rfl d_T_readBit_1 ?_
  refine lv_aload_n hx hb d_T_readBit_4 rfl (lv_at hl 0 rfl) ?_
  refine gGet fx hK hP 0 rfl inT rfl (k := 1) (by decide) w_22 rfl d_T_readBit_5 ?_
  refine lv_icmp_lt (tgt := 13) hx hb d_T_readBit_8 (by decide) (fun c8 => ?_) (fun c8 => ?_)
  · have hw := hw.1 c8
    refine lv_aload_n hx hb d_T_readBit_13 rfl (lv_at hl 0 rfl) ?_
    refine gGet fx hK hP 0 rfl inT rfl (k := 0) (by decide) w_21 rfl d_T_readBit_14 ?_
    refine lv_aload_n hx hb d_T_readBit_17 rfl (lv_at hl 0 rfl) ?_
    refine gGet fx hK hP 0 rfl inT rfl (k := 2) (by decide) w_23 rfl d_T_readBit_18 ?_
    refine va_iald hx hb hK hP 1 0 rfl rfl hw.1 d_T_readBit_21 ?_
    have hw := hw.2
    refine lv_istore_n (lv' := [(1, .int (vb (t_at).toNatClampNeg)), (0, .ref h_t)]) hx hb d_T_readBit_22 rfl hl (by decide) rfl (fun ls hl => ?_)
    refine lv_aload_n hx hb d_T_readBit_23 rfl (lv_at hl 1 rfl) ?_
    refine lv_dup hx hb d_T_readBit_24 rfl ?_
    refine gGet fx hK hP 0 rfl inT rfl (k := 2) (by decide) w_23 rfl d_T_readBit_25 ?_
    refine lv_iconst (v := (nI 1)) hx hb d_T_readBit_28 (by decide) ?_
    refine lv_iadd hx hb d_T_readBit_29 ?_
    refine gPut fx hK hP hD hS 0 rfl inT tyT nmT rfl (k := 2) (by decide) w_23 rfl rfl rfl (Nat.le_of_ble_eq_true rfl) d_T_readBit_30 (fun H locs hP hD hS => ?_)
    have hP : va_P D gCl [(h_t, .inr (1, [.ref h_b, .int t_size, .int (t_at + (nI 1))])), (h_b, .inl (cI, Nb, .inl vb))] H := hP
    have hD : va_D A [(h_t, .inr (1, [.ref h_b, .int t_size, .int (t_at + (nI 1))])), (h_b, .inl (cI, Nb, .inl vb))] := hD
    refine lv_iload_n hx hb d_T_readBit_33 rfl (lv_at hl 0 rfl) ?_
    exact hret _ _ _ (t_at + (nI 1)) _ _ hw rfl hP hD hS d_T_readBit_34
  · have hw := hw.2 c8
    refine lv_iconst (v := (-1)) hx hb d_T_readBit_11 (by decide) ?_
    exact hret _ _ _ t_at _ _ hw rfl hP hD hS d_T_readBit_12
def wpF_T_readNumber_4 (post : Int32 → Int32 → Prop) (Nb : Nat) (t_size : Int32) (vb : Nat → Int32) (x1 : Int32) (K_4 : Int32 → Int32 → Int32 → Prop) (t_at : Int32) (x2 : Int32) (x3 : Int32) : Prop :=
  ((x1 ≤ x3 → post x2 t_at) ∧ (¬ x1 ≤ x3 → wp_T_readBit (fun r_1 tat_2 => ((¬ r_1 = (-1) → K_4 tat_2 (((nI 2) * x2) + r_1) (x3 + (nI 1))) ∧ (r_1 = (-1) → post (-1) tat_2))) Nb t_size t_at vb))
def wp_T_readNumber (post : Int32 → Int32 → Prop) (Nb : Nat) (t_size : Int32) (t_at : Int32) (vb : Nat → Int32) (x1 : Int32) : Prop :=
  (∃ n, gL3 (wpF_T_readNumber_4 post Nb t_size vb x1) n t_at (nI 0) (nI 0))
abbrev rm_T_readNumber : Room := { frames := 1, cells := 0, slots := 0, locals := 21 }
theorem mf_T_readNumber : gFV y_T_readNumber b_T_readNumber 5 (some .int) 1 := ⟨w_131, w_2, ⟨by decide, by decide, by decide +kernel⟩, w_129, w_130⟩
set_option maxHeartbeats 4000000 in
set_option maxRecDepth 100000 in
theorem c_T_readNumber (l : Launch) (D : va_G) (cI : ClassId) (h_t : Nat) (h_b : Nat) (Nb : Nat) (t_size : Int32) (t_at : Int32) (vb : Nat → Int32) (x1 : Int32) (post : Int32 → Int32 → Prop) (hw : wp_T_readNumber post Nb t_size t_at vb x1) :
    gMi l D [(cI, .int)] y_T_readNumber b_T_readNumber 5 .int rm_T_readNumber [.ref h_t, .int x1] [(h_t, .inr (1, [.ref h_b, .int t_size, .int t_at])), (h_b, .inl (cI, Nb, .inl vb))] (S := Int32) (fun u => [(h_t, .inr (1, [.ref h_b, .int t_size, .int u])), (h_b, .inl (cI, Nb, .inl vb))]) (fun r u => post r u) := by
  rw [wp_T_readNumber] at hw
  refine gMi.of (by decide) (Nat.le_of_ble_eq_true rfl) (fun p e s m args below meth c A Q ls hx hb hml hown hts hN hK hA hP hD hret hl => ?_)
  have fx : CallFix p m c b_T_readNumber 5 s args gG "TapeCounter$Tape" := ⟨hx, hb, hml, hown, hts⟩
  have hl : lv_has ls 5 [(0, .ref h_t), (1, .int x1)] := hl
  have hS : va_S A s.heap s.heap [] := va_S.rf
  refine lv_iconst (v := (nI 0)) hx hb d_T_readNumber_0 (by decide) ?_
  refine lv_istore_n (lv' := [(2, .int (nI 0)), (0, .ref h_t), (1, .int x1)]) hx hb d_T_readNumber_1 rfl hl (by decide) rfl (fun ls hl => ?_)
  refine lv_iconst (v := (nI 0)) hx hb d_T_readNumber_2 (by decide) ?_
  refine lv_istore_n (lv' := [(3, .int (nI 0)), (2, .int (nI 0)), (0, .ref h_t), (1, .int x1)]) hx hb d_T_readNumber_3 rfl hl (by decide) rfl (fun ls hl => ?_)
  obtain ⟨n_4, hw⟩ := hw
  have k_4 : ∀ (n_4 : Nat) (t_at : Int32) (x2 : Int32) (x3 : Int32), gL3 (wpF_T_readNumber_4 post Nb t_size vb x1) n_4 t_at x2 x3 → ∀ (H : Heap) (locs : List Loc) (ls : Array Slot), va_P D gCl [(h_t, .inr (1, [.ref h_b, .int t_size, .int t_at])), (h_b, .inl (cI, Nb, .inl vb))] H → va_D A [(h_t, .inr (1, [.ref h_b, .int t_size, .int t_at])), (h_b, .inl (cI, Nb, .inl vb))] → va_S A s.heap H locs → lv_has ls 5 [(3, .int x3), (2, .int x2), (0, .ref h_t), (1, .int x1)] → W p l e rm_T_readNumber s m args below meth c H locs 0 0 Q (F0 m 4 ls []) := by
    clear hw hP hD hS hl
    intro n_4
    induction n_4 with
    | zero => exact fun _ _ _ h => h.elim
    | succ n_4 ih_4 =>
      intro t_at x2 x3 hw H locs ls hP hD hS hl
      have hw : wpF_T_readNumber_4 post Nb t_size vb x1 (gL3 (wpF_T_readNumber_4 post Nb t_size vb x1) n_4) t_at x2 x3 := hw
      rw [wpF_T_readNumber_4] at hw
      refine lv_iload_n hx hb d_T_readNumber_4 rfl (lv_at hl 0 rfl) ?_
      refine lv_iload_n hx hb d_T_readNumber_5 rfl (lv_at hl 3 rfl) ?_
      refine lv_icmp_ge (tgt := 36) hx hb d_T_readNumber_6 (by decide) (fun c6 => ?_) (fun c6 => ?_)
      · have hw := hw.1 c6
        refine lv_iload_n hx hb d_T_readNumber_36 rfl (lv_at hl 1 rfl) ?_
        exact hret _ _ _ t_at _ _ hw rfl hP hD hS d_T_readNumber_37
      · have hw := hw.2 c6
        refine lv_aload_n hx hb d_T_readNumber_9 rfl (lv_at hl 2 rfl) ?_
        refine g_cVi (wr := []) fx (c_T_readBit l D cI h_t h_b Nb t_size t_at vb _ hw) mf_T_readBit w_132 ⟨rfl, rfl⟩ ⟨Nat.le_of_ble_eq_true rfl, Nat.le_of_ble_eq_true rfl⟩ hN hK hA hP hD hS [0, 1] [] rfl rfl rfl rfl (by decide) 0 rfl rfl rfl rfl hl.1 (Nat.le_of_ble_eq_true rfl) d_T_readNumber_10 ⟨Nat.zero_le _, Nat.zero_le _⟩ (fun r_1 u H locs hw hP hD hS => ?_)
        obtain ⟨tat_2, rfl⟩ : ∃ z, z = u := ⟨_, rfl⟩
        try dsimp only at hw
        have hP : va_P D gCl [(h_t, .inr (1, [.ref h_b, .int t_size, .int tat_2])), (h_b, .inl (cI, Nb, .inl vb))] H := hP
        have hD : va_D A [(h_t, .inr (1, [.ref h_b, .int t_size, .int tat_2])), (h_b, .inl (cI, Nb, .inl vb))] := hD
        refine lv_istore (lv' := [(4, .int r_1), (3, .int x3), (2, .int x2), (0, .ref h_t), (1, .int x1)]) hx hb d_T_readNumber_13 hl (by decide) rfl (fun ls hl => ?_)
        refine lv_iload hx hb d_T_readNumber_15 (lv_at hl 0 rfl) ?_
        refine lv_iconst (v := (-1)) hx hb d_T_readNumber_17 (by decide) ?_
        refine lv_icmp_ne (tgt := 23) hx hb d_T_readNumber_18 (by decide) (fun c18 => ?_) (fun c18 => ?_)
        · have hw := hw.1 c18
          refine lv_iconst (v := (nI 2)) hx hb d_T_readNumber_23 (by decide) ?_
          refine lv_iload_n hx hb d_T_readNumber_24 rfl (lv_at hl 2 rfl) ?_
          refine lv_imul hx hb d_T_readNumber_25 ?_
          refine lv_iload hx hb d_T_readNumber_26 (lv_at hl 0 rfl) ?_
          refine lv_iadd hx hb d_T_readNumber_28 ?_
          refine lv_istore_n (lv' := [(2, .int (((nI 2) * x2) + r_1)), (4, .int r_1), (3, .int x3), (0, .ref h_t), (1, .int x1)]) hx hb d_T_readNumber_29 rfl hl (by decide) rfl (fun ls hl => ?_)
          refine lv_iinc (v := (x3 + (nI 1))) (lv' := [(3, .int (x3 + (nI 1))), (2, .int (((nI 2) * x2) + r_1)), (4, .int r_1), (0, .ref h_t), (1, .int x1)]) hx hb d_T_readNumber_30 hl (k := 2) rfl rfl (by decide) rfl (fun ls hl => ?_)
          refine lv_goto (tgt := 4) hx hb d_T_readNumber_33 (by decide) ?_
          exact ih_4 _ _ _ hw _ _ _ hP hD hS (lv_sub hl [0, 1, 3, 4] rfl)
        · have hw := hw.2 c18
          refine lv_iconst (v := (-1)) hx hb d_T_readNumber_21 (by decide) ?_
          exact hret _ _ _ tat_2 _ _ hw rfl hP hD hS d_T_readNumber_22
  exact k_4 n_4 _ _ _ hw _ _ _ hP hD hS (lv_sub hl [0, 1, 2, 3] rfl)
def wp_T_dropRead (post : Int32 → Int32 → (Nat → Int32) → Prop) (Nb : Nat) (t_size : Int32) (t_at : Int32) (vb : Nat → Int32) : Prop :=
  (¬ t_at < 0 ∧ ¬ (nI 0) < 0 ∧ ¬ (t_size - t_at) < 0 ∧ (t_at).toNatClampNeg + ((t_size - t_at)).toNatClampNeg ≤ Nb ∧ ((nI 0)).toNatClampNeg + ((t_size - t_at)).toNatClampNeg ≤ Nb ∧ post (t_size - t_at) (nI 0) (va_cpy vb vb (t_at).toNatClampNeg ((nI 0)).toNatClampNeg ((t_size - t_at)).toNatClampNeg))
abbrev rm_T_dropRead : Room := { frames := 1, cells := 0, slots := 0, locals := 40 }
theorem mf_T_dropRead : gFV y_T_dropRead b_T_dropRead 1 none 0 := ⟨w_171, w_2, ⟨by decide, by decide, by decide +kernel⟩, w_169, w_170⟩
set_option maxHeartbeats 4000000 in
set_option maxRecDepth 100000 in
theorem c_T_dropRead (l : Launch) (D : va_G) (cI : ClassId) (h_t : Nat) (h_b : Nat) (Nb : Nat) (t_size : Int32) (t_at : Int32) (vb : Nat → Int32) (post : Int32 → Int32 → (Nat → Int32) → Prop) (hw : wp_T_dropRead post Nb t_size t_at vb) :
    gMv l D [(cI, .int)] y_T_dropRead b_T_dropRead 1 rm_T_dropRead [.ref h_t] [(h_t, .inr (1, [.ref h_b, .int t_size, .int t_at])), (h_b, .inl (cI, Nb, .inl vb))] (S := Int32 × Int32 × (Nat → Int32)) (fun u => [(h_t, .inr (1, [.ref h_b, .int u.1, .int u.2.1])), (h_b, .inl (cI, Nb, .inl u.2.2))]) (fun u => post u.1 u.2.1 u.2.2) := by
  rw [wp_T_dropRead] at hw
  refine gMv.of (by decide) (Nat.le_of_ble_eq_true rfl) (fun p e s m args below meth c A Q ls hx hb hml hown hts hN hK hA hP hD hret hl => ?_)
  have fx : CallFix p m c b_T_dropRead 1 s args gG "TapeCounter$Tape" := ⟨hx, hb, hml, hown, hts⟩
  have hl : lv_has ls 1 [(0, .ref h_t)] := hl
  have hS : va_S A s.heap s.heap [] := va_S.rf
  refine lv_aload_n hx hb d_T_dropRead_0 rfl (lv_at hl 0 rfl) ?_
  refine gGet fx hK hP 0 rfl inT rfl (k := 0) (by decide) w_21 rfl d_T_dropRead_1 ?_
  refine lv_aload_n hx hb d_T_dropRead_4 rfl (lv_at hl 0 rfl) ?_
  refine gGet fx hK hP 0 rfl inT rfl (k := 2) (by decide) w_23 rfl d_T_dropRead_5 ?_
  refine lv_aload_n hx hb d_T_dropRead_8 rfl (lv_at hl 0 rfl) ?_
  refine gGet fx hK hP 0 rfl inT rfl (k := 0) (by decide) w_21 rfl d_T_dropRead_9 ?_
  refine lv_iconst (v := (nI 0)) hx hb d_T_dropRead_12 (by decide) ?_
  refine lv_aload_n hx hb d_T_dropRead_13 rfl (lv_at hl 0 rfl) ?_
  refine gGet fx hK hP 0 rfl inT rfl (k := 1) (by decide) w_22 rfl d_T_dropRead_14 ?_
  refine lv_aload_n hx hb d_T_dropRead_17 rfl (lv_at hl 0 rfl) ?_
  refine gGet fx hK hP 0 rfl inT rfl (k := 2) (by decide) w_23 rfl d_T_dropRead_18 ?_
  refine lv_isub hx hb d_T_dropRead_21 ?_
  refine va_copyi hx hb (hml.trans hl.1.symm) hown (hts _ w_172) (hts _ w_174) (hts _ w_173) (hts _ w_5) hK hP hD hS 1 1 0 0 rfl rfl rfl rfl rfl hw.1 hw.2.1 hw.2.2.1 hw.2.2.2.1 hw.2.2.2.2.1 (fun _ _ => rfl) (by decide) (Nat.le_of_ble_eq_true rfl) d_T_dropRead_22 (fun H locs hP hD hS => ?_)
  have hw := hw.2.2.2.2.2
  have hP : va_P D gCl [(h_t, .inr (1, [.ref h_b, .int t_size, .int t_at])), (h_b, .inl (cI, Nb, .inl (va_cpy vb vb (t_at).toNatClampNeg ((nI 0)).toNatClampNeg ((t_size - t_at)).toNatClampNeg)))] H := hP
  have hD : va_D A [(h_t, .inr (1, [.ref h_b, .int t_size, .int t_at])), (h_b, .inl (cI, Nb, .inl (va_cpy vb vb (t_at).toNatClampNeg ((nI 0)).toNatClampNeg ((t_size - t_at)).toNatClampNeg)))] := hD
  refine lv_aload_n hx hb d_T_dropRead_25 rfl (lv_at hl 0 rfl) ?_
  refine lv_dup hx hb d_T_dropRead_26 rfl ?_
  refine gGet fx hK hP 0 rfl inT rfl (k := 1) (by decide) w_22 rfl d_T_dropRead_27 ?_
  refine lv_aload_n hx hb d_T_dropRead_30 rfl (lv_at hl 0 rfl) ?_
  refine gGet fx hK hP 0 rfl inT rfl (k := 2) (by decide) w_23 rfl d_T_dropRead_31 ?_
  refine lv_isub hx hb d_T_dropRead_34 ?_
  refine gPut fx hK hP hD hS 0 rfl inT tyT nmT rfl (k := 1) (by decide) w_22 rfl rfl rfl (Nat.le_of_ble_eq_true rfl) d_T_dropRead_35 (fun H locs hP hD hS => ?_)
  have hP : va_P D gCl [(h_t, .inr (1, [.ref h_b, .int (t_size - t_at), .int t_at])), (h_b, .inl (cI, Nb, .inl (va_cpy vb vb (t_at).toNatClampNeg ((nI 0)).toNatClampNeg ((t_size - t_at)).toNatClampNeg)))] H := hP
  have hD : va_D A [(h_t, .inr (1, [.ref h_b, .int (t_size - t_at), .int t_at])), (h_b, .inl (cI, Nb, .inl (va_cpy vb vb (t_at).toNatClampNeg ((nI 0)).toNatClampNeg ((t_size - t_at)).toNatClampNeg)))] := hD
  refine lv_aload_n hx hb d_T_dropRead_38 rfl (lv_at hl 0 rfl) ?_
  refine lv_iconst (v := (nI 0)) hx hb d_T_dropRead_39 (by decide) ?_
  refine gPut fx hK hP hD hS 0 rfl inT tyT nmT rfl (k := 2) (by decide) w_23 rfl rfl rfl (Nat.le_of_ble_eq_true rfl) d_T_dropRead_40 (fun H locs hP hD hS => ?_)
  have hP : va_P D gCl [(h_t, .inr (1, [.ref h_b, .int (t_size - t_at), .int (nI 0)])), (h_b, .inl (cI, Nb, .inl (va_cpy vb vb (t_at).toNatClampNeg ((nI 0)).toNatClampNeg ((t_size - t_at)).toNatClampNeg)))] H := hP
  have hD : va_D A [(h_t, .inr (1, [.ref h_b, .int (t_size - t_at), .int (nI 0)])), (h_b, .inl (cI, Nb, .inl (va_cpy vb vb (t_at).toNatClampNeg ((nI 0)).toNatClampNeg ((t_size - t_at)).toNatClampNeg)))] := hD
  exact hret _ _ ((t_size - t_at), (nI 0), (va_cpy vb vb (t_at).toNatClampNeg ((nI 0)).toNatClampNeg ((t_size - t_at)).toNatClampNeg)) _ _ hw hP hD hS d_T_dropRead_43
end
section
def wp_Y_clear (post : Int32 → Int32 → Int32 → Int32 → Prop) (y_hits : Int32) (y_runOuts : Int32) (y_bitsRead : Int32) (y_fewestBits : Int32) : Prop :=
  post (nI 0) (nI 0) (nI 0) (nI 13)
abbrev rm_Y_clear : Room := { frames := 0, cells := 0, slots := 0, locals := 0 }
theorem mf_Y_clear : gFV y_Y_clear b_Y_clear 1 none 0 := ⟨w_194, w_3, ⟨by decide, by decide, by decide +kernel⟩, w_192, w_193⟩
set_option maxHeartbeats 4000000 in
set_option maxRecDepth 100000 in
theorem c_Y_clear (l : Launch) (D : va_G) (cI : ClassId) (h_y : Nat) (y_hits : Int32) (y_runOuts : Int32) (y_bitsRead : Int32) (y_fewestBits : Int32) (post : Int32 → Int32 → Int32 → Int32 → Prop) (hw : wp_Y_clear post y_hits y_runOuts y_bitsRead y_fewestBits) :
    gMv l D [(cI, .int)] y_Y_clear b_Y_clear 1 rm_Y_clear [.ref h_y] [(h_y, .inr (0, [.int y_hits, .int y_runOuts, .int y_bitsRead, .int y_fewestBits]))] (S := Int32 × Int32 × Int32 × Int32) (fun u => [(h_y, .inr (0, [.int u.1, .int u.2.1, .int u.2.2.1, .int u.2.2.2]))]) (fun u => post u.1 u.2.1 u.2.2.1 u.2.2.2) := by
  rw [wp_Y_clear] at hw
  refine gMv.of (by decide) (Nat.le_of_ble_eq_true rfl) (fun p e s m args below meth c A Q ls hx hb hml hown hts hN hK hA hP hD hret hl => ?_)
  have fx : CallFix p m c b_Y_clear 1 s args gG "TapeCounter$Tally" := ⟨hx, hb, hml, hown, hts⟩
  have hl : lv_has ls 1 [(0, .ref h_y)] := hl
  have hS : va_S A s.heap s.heap [] := va_S.rf
  refine lv_aload_n hx hb d_Y_clear_0 rfl (lv_at hl 0 rfl) ?_
  refine lv_iconst (v := (nI 0)) hx hb d_Y_clear_1 (by decide) ?_
  refine gPut fx hK hP hD hS 0 rfl inY tyY nmY rfl (k := 0) (by decide) w_38 rfl rfl rfl (Nat.le_of_ble_eq_true rfl) d_Y_clear_2 (fun H locs hP hD hS => ?_)
  have hP : va_P D gCl [(h_y, .inr (0, [.int (nI 0), .int y_runOuts, .int y_bitsRead, .int y_fewestBits]))] H := hP
  have hD : va_D A [(h_y, .inr (0, [.int (nI 0), .int y_runOuts, .int y_bitsRead, .int y_fewestBits]))] := hD
  refine lv_aload_n hx hb d_Y_clear_5 rfl (lv_at hl 0 rfl) ?_
  refine lv_iconst (v := (nI 0)) hx hb d_Y_clear_6 (by decide) ?_
  refine gPut fx hK hP hD hS 0 rfl inY tyY nmY rfl (k := 1) (by decide) w_40 rfl rfl rfl (Nat.le_of_ble_eq_true rfl) d_Y_clear_7 (fun H locs hP hD hS => ?_)
  have hP : va_P D gCl [(h_y, .inr (0, [.int (nI 0), .int (nI 0), .int y_bitsRead, .int y_fewestBits]))] H := hP
  have hD : va_D A [(h_y, .inr (0, [.int (nI 0), .int (nI 0), .int y_bitsRead, .int y_fewestBits]))] := hD
  refine lv_aload_n hx hb d_Y_clear_10 rfl (lv_at hl 0 rfl) ?_
  refine lv_iconst (v := (nI 0)) hx hb d_Y_clear_11 (by decide) ?_
  refine gPut fx hK hP hD hS 0 rfl inY tyY nmY rfl (k := 2) (by decide) w_42 rfl rfl rfl (Nat.le_of_ble_eq_true rfl) d_Y_clear_12 (fun H locs hP hD hS => ?_)
  have hP : va_P D gCl [(h_y, .inr (0, [.int (nI 0), .int (nI 0), .int (nI 0), .int y_fewestBits]))] H := hP
  have hD : va_D A [(h_y, .inr (0, [.int (nI 0), .int (nI 0), .int (nI 0), .int y_fewestBits]))] := hD
  refine lv_aload_n hx hb d_Y_clear_15 rfl (lv_at hl 0 rfl) ?_
  refine lv_bipush (v := (nI 13)) hx hb d_Y_clear_16 (by decide) ?_
  refine gPut fx hK hP hD hS 0 rfl inY tyY nmY rfl (k := 3) (by decide) w_44 rfl rfl rfl (Nat.le_of_ble_eq_true rfl) d_Y_clear_18 (fun H locs hP hD hS => ?_)
  have hP : va_P D gCl [(h_y, .inr (0, [.int (nI 0), .int (nI 0), .int (nI 0), .int (nI 13)]))] H := hP
  have hD : va_D A [(h_y, .inr (0, [.int (nI 0), .int (nI 0), .int (nI 0), .int (nI 13)]))] := hD
  exact hret _ _ ((nI 0), (nI 0), (nI 0), (nI 13)) _ _ hw hP hD hS d_Y_clear_21
def wp_Y_add (post : Int32 → Int32 → Int32 → Int32 → Prop) (y_hits : Int32) (y_runOuts : Int32) (y_bitsRead : Int32) (y_fewestBits : Int32) (x1 : Int32) (x2 : Int32) (x3 : Int32) (x4 : Int32) : Prop :=
  ((¬ x1 = (-1) → ((¬ x1 = x2 → post y_hits y_runOuts (y_bitsRead + (x3 * x4)) y_fewestBits) ∧ (x1 = x2 → post (y_hits + x4) y_runOuts (y_bitsRead + (x3 * x4)) (if x3 < y_fewestBits then x3 else y_fewestBits)))) ∧ (x1 = (-1) → post y_hits (y_runOuts + x4) (y_bitsRead + (x3 * x4)) y_fewestBits))
abbrev rm_Y_add : Room := { frames := 1, cells := 0, slots := 0, locals := 40 }
theorem mf_Y_add : gFV y_Y_add b_Y_add 5 none 4 := ⟨w_202, w_3, ⟨by decide, by decide, by decide +kernel⟩, w_200, w_201⟩
set_option maxHeartbeats 4000000 in
set_option maxRecDepth 100000 in
theorem c_Y_add (l : Launch) (D : va_G) (cI : ClassId) (h_y : Nat) (y_hits : Int32) (y_runOuts : Int32) (y_bitsRead : Int32) (y_fewestBits : Int32) (x1 : Int32) (x2 : Int32) (x3 : Int32) (x4 : Int32) (post : Int32 → Int32 → Int32 → Int32 → Prop) (hw : wp_Y_add post y_hits y_runOuts y_bitsRead y_fewestBits x1 x2 x3 x4) :
    gMv l D [(cI, .int)] y_Y_add b_Y_add 5 rm_Y_add [.ref h_y, .int x1, .int x2, .int x3, .int x4] [(h_y, .inr (0, [.int y_hits, .int y_runOuts, .int y_bitsRead, .int y_fewestBits]))] (S := Int32 × Int32 × Int32 × Int32) (fun u => [(h_y, .inr (0, [.int u.1, .int u.2.1, .int u.2.2.1, .int u.2.2.2]))]) (fun u => post u.1 u.2.1 u.2.2.1 u.2.2.2) := by
  rw [wp_Y_add] at hw
  refine gMv.of (by decide) (Nat.le_of_ble_eq_true rfl) (fun p e s m args below meth c A Q ls hx hb hml hown hts hN hK hA hP hD hret hl => ?_)
  have fx : CallFix p m c b_Y_add 5 s args gG "TapeCounter$Tally" := ⟨hx, hb, hml, hown, hts⟩
  have hl : lv_has ls 5 [(0, .ref h_y), (1, .int x1), (2, .int x2), (3, .int x3), (4, .int x4)] := hl
  have hS : va_S A s.heap s.heap [] := va_S.rf
  refine lv_aload_n hx hb d_Y_add_0 rfl (lv_at hl 0 rfl) ?_
  refine lv_dup hx hb d_Y_add_1 rfl ?_
  refine gGet fx hK hP 0 rfl inY rfl (k := 2) (by decide) w_42 rfl d_Y_add_2 ?_
  refine lv_iload_n hx hb d_Y_add_5 rfl (lv_at hl 3 rfl) ?_
  refine lv_iload hx hb d_Y_add_6 (lv_at hl 4 rfl) ?_
  refine lv_imul hx hb d_Y_add_8 ?_
  refine lv_iadd hx hb d_Y_add_9 ?_
  refine gPut fx hK hP hD hS 0 rfl inY tyY nmY rfl (k := 2) (by decide) w_42 rfl rfl rfl (Nat.le_of_ble_eq_true rfl) d_Y_add_10 (fun H locs hP hD hS => ?_)
  have hP : va_P D gCl [(h_y, .inr (0, [.int y_hits, .int y_runOuts, .int (y_bitsRead + (x3 * x4)), .int y_fewestBits]))] H := hP
  have hD : va_D A [(h_y, .inr (0, [.int y_hits, .int y_runOuts, .int (y_bitsRead + (x3 * x4)), .int y_fewestBits]))] := hD
  refine lv_iload_n hx hb d_Y_add_13 rfl (lv_at hl 1 rfl) ?_
  refine lv_iconst (v := (-1)) hx hb d_Y_add_14 (by decide) ?_
  refine lv_icmp_ne (tgt := 32) hx hb d_Y_add_15 (by decide) (fun c15 => ?_) (fun c15 => ?_)
  · have hw := hw.1 c15
    refine lv_iload_n hx hb d_Y_add_32 rfl (lv_at hl 1 rfl) ?_
    refine lv_iload_n hx hb d_Y_add_33 rfl (lv_at hl 2 rfl) ?_
    refine lv_icmp_ne (tgt := 60) hx hb d_Y_add_34 (by decide) (fun c34 => ?_) (fun c34 => ?_)
    · have hw := hw.1 c34
      exact hret _ _ (y_hits, y_runOuts, (y_bitsRead + (x3 * x4)), y_fewestBits) _ _ hw hP hD hS d_Y_add_60
    · have hw := hw.2 c34
      refine lv_aload_n hx hb d_Y_add_37 rfl (lv_at hl 0 rfl) ?_
      refine lv_dup hx hb d_Y_add_38 rfl ?_
      refine gGet fx hK hP 0 rfl inY rfl (k := 0) (by decide) w_38 rfl d_Y_add_39 ?_
      refine lv_iload hx hb d_Y_add_42 (lv_at hl 4 rfl) ?_
      refine lv_iadd hx hb d_Y_add_44 ?_
      refine gPut fx hK hP hD hS 0 rfl inY tyY nmY rfl (k := 0) (by decide) w_38 rfl rfl rfl (Nat.le_of_ble_eq_true rfl) d_Y_add_45 (fun H locs hP hD hS => ?_)
      have hP : va_P D gCl [(h_y, .inr (0, [.int (y_hits + x4), .int y_runOuts, .int (y_bitsRead + (x3 * x4)), .int y_fewestBits]))] H := hP
      have hD : va_D A [(h_y, .inr (0, [.int (y_hits + x4), .int y_runOuts, .int (y_bitsRead + (x3 * x4)), .int y_fewestBits]))] := hD
      refine lv_aload_n hx hb d_Y_add_48 rfl (lv_at hl 0 rfl) ?_
      refine lv_aload_n hx hb d_Y_add_49 rfl (lv_at hl 0 rfl) ?_
      refine gGet fx hK hP 0 rfl inY rfl (k := 3) (by decide) w_44 rfl d_Y_add_50 ?_
      refine lv_iload_n hx hb d_Y_add_53 rfl (lv_at hl 3 rfl) ?_
      refine va_mmin hx hb (hml.trans hl.1.symm) hown (hts _ w_203) (hts _ w_204) (hts _ w_6) (hts _ w_205) (by decide) (Nat.le_of_ble_eq_true rfl) (Nat.zero_le _) (Nat.zero_le _) d_Y_add_54 ?_
      refine gPut fx hK hP hD hS 0 rfl inY tyY nmY rfl (k := 3) (by decide) w_44 rfl rfl rfl (Nat.le_of_ble_eq_true rfl) d_Y_add_57 (fun H locs hP hD hS => ?_)
      have hP : va_P D gCl [(h_y, .inr (0, [.int (y_hits + x4), .int y_runOuts, .int (y_bitsRead + (x3 * x4)), .int (if x3 < y_fewestBits then x3 else y_fewestBits)]))] H := hP
      have hD : va_D A [(h_y, .inr (0, [.int (y_hits + x4), .int y_runOuts, .int (y_bitsRead + (x3 * x4)), .int (if x3 < y_fewestBits then x3 else y_fewestBits)]))] := hD
      exact hret _ _ ((y_hits + x4), y_runOuts, (y_bitsRead + (x3 * x4)), (if x3 < y_fewestBits then x3 else y_fewestBits)) _ _ hw hP hD hS d_Y_add_60
  · have hw := hw.2 c15
    refine lv_aload_n hx hb d_Y_add_18 rfl (lv_at hl 0 rfl) ?_
    refine lv_dup hx hb d_Y_add_19 rfl ?_
    refine gGet fx hK hP 0 rfl inY rfl (k := 1) (by decide) w_40 rfl d_Y_add_20 ?_
    refine lv_iload hx hb d_Y_add_23 (lv_at hl 4 rfl) ?_
    refine lv_iadd hx hb d_Y_add_25 ?_
    refine gPut fx hK hP hD hS 0 rfl inY tyY nmY rfl (k := 1) (by decide) w_40 rfl rfl rfl (Nat.le_of_ble_eq_true rfl) d_Y_add_26 (fun H locs hP hD hS => ?_)
    have hP : va_P D gCl [(h_y, .inr (0, [.int y_hits, .int (y_runOuts + x4), .int (y_bitsRead + (x3 * x4)), .int y_fewestBits]))] H := hP
    have hD : va_D A [(h_y, .inr (0, [.int y_hits, .int (y_runOuts + x4), .int (y_bitsRead + (x3 * x4)), .int y_fewestBits]))] := hD
    refine lv_goto (tgt := 60) hx hb d_Y_add_29 (by decide) ?_
    exact hret _ _ (y_hits, (y_runOuts + x4), (y_bitsRead + (x3 * x4)), y_fewestBits) _ _ hw hP hD hS d_Y_add_60
end
section
def wp_C_isWithin (post : Int32 → Prop) (x0 : Int32) (x1 : Int32) (x2 : Int32) : Prop :=
  ((x0 < x1 → post (nI 0)) ∧ (¬ x0 < x1 → ((x2 < x0 → post (nI 0)) ∧ (¬ x2 < x0 → post (nI 1)))))
abbrev rm_C_isWithin : Room := { frames := 0, cells := 0, slots := 0, locals := 0 }
theorem mf_C_isWithin : gFS y_C_isWithin b_C_isWithin 3 (some .boolean) 3 := ⟨w_80, w_1, ⟨by decide, by decide, by decide +kernel⟩, w_79⟩
set_option maxHeartbeats 4000000 in
set_option maxRecDepth 100000 in
theorem c_C_isWithin (l : Launch) (D : va_G) (cI : ClassId) (x0 : Int32) (x1 : Int32) (x2 : Int32) (post : Int32 → Prop) (hw : wp_C_isWithin post x0 x1 x2) :
    gMi l D [(cI, .int)] y_C_isWithin b_C_isWithin 3 .boolean rm_C_isWithin [.int x0, .int x1, .int x2] [] (S := Unit) (fun u => []) (fun r u => post r) := by
  rw [wp_C_isWithin] at hw
  refine gMi.of (by decide) (Nat.le_of_ble_eq_true rfl) (fun p e s m args below meth c A Q ls hx hb hml hown hts hN hK hA hP hD hret hl => ?_)
  have fx : CallFix p m c b_C_isWithin 3 s args gG "TapeCounter" := ⟨hx, hb, hml, hown, hts⟩
  have hl : lv_has ls 3 [(0, .int x0), (1, .int x1), (2, .int x2)] := hl
  have hS : va_S A s.heap s.heap [] := va_S.rf
  refine lv_iload_n hx hb d_C_isWithin_0 rfl (lv_at hl 0 rfl) ?_
  refine lv_iload_n hx hb d_C_isWithin_1 rfl (lv_at hl 1 rfl) ?_
  refine lv_icmp_lt (tgt := 14) hx hb d_C_isWithin_2 (by decide) (fun c2 => ?_) (fun c2 => ?_)
  · have hw := hw.1 c2
    refine lv_iconst (v := (nI 0)) hx hb d_C_isWithin_14 (by decide) ?_
    exact hret _ _ _ () _ _ hw rfl hP hD hS d_C_isWithin_15
  · have hw := hw.2 c2
    refine lv_iload_n hx hb d_C_isWithin_5 rfl (lv_at hl 0 rfl) ?_
    refine lv_iload_n hx hb d_C_isWithin_6 rfl (lv_at hl 2 rfl) ?_
    refine lv_icmp_gt (tgt := 14) hx hb d_C_isWithin_7 (by decide) (fun c7 => ?_) (fun c7 => ?_)
    · have hw := hw.1 c7
      refine lv_iconst (v := (nI 0)) hx hb d_C_isWithin_14 (by decide) ?_
      exact hret _ _ _ () _ _ hw rfl hP hD hS d_C_isWithin_15
    · have hw := hw.2 c7
      refine lv_iconst (v := (nI 1)) hx hb d_C_isWithin_10 (by decide) ?_
      refine lv_goto (tgt := 15) hx hb d_C_isWithin_11 (by decide) ?_
      exact hret _ _ _ () _ _ hw rfl hP hD hS d_C_isWithin_15
def wpF_C_bitsFor_2 (post : Int32 → Prop) (x0 : Int32) (K_2 : Int32 → Prop) (x1 : Int32) : Prop :=
  (((nI 6) ≤ x1 → post x1) ∧ (¬ (nI 6) ≤ x1 → ((x0 ≤ ((nI 1) <<< (x1 &&& 31)) → post x1) ∧ (¬ x0 ≤ ((nI 1) <<< (x1 &&& 31)) → K_2 (x1 + (nI 1))))))
def wp_C_bitsFor (post : Int32 → Prop) (x0 : Int32) : Prop :=
  (∃ n, gL1 (wpF_C_bitsFor_2 post x0) n (nI 0))
abbrev rm_C_bitsFor : Room := { frames := 0, cells := 0, slots := 0, locals := 0 }
theorem mf_C_bitsFor : gFS y_C_bitsFor b_C_bitsFor 2 (some .int) 1 := ⟨w_127, w_1, ⟨by decide, by decide, by decide +kernel⟩, w_126⟩
set_option maxHeartbeats 4000000 in
set_option maxRecDepth 100000 in
theorem c_C_bitsFor (l : Launch) (D : va_G) (cI : ClassId) (x0 : Int32) (post : Int32 → Prop) (hw : wp_C_bitsFor post x0) :
    gMi l D [(cI, .int)] y_C_bitsFor b_C_bitsFor 2 .int rm_C_bitsFor [.int x0] [] (S := Unit) (fun u => []) (fun r u => post r) := by
  rw [wp_C_bitsFor] at hw
  refine gMi.of (by decide) (Nat.le_of_ble_eq_true rfl) (fun p e s m args below meth c A Q ls hx hb hml hown hts hN hK hA hP hD hret hl => ?_)
  have fx : CallFix p m c b_C_bitsFor 2 s args gG "TapeCounter" := ⟨hx, hb, hml, hown, hts⟩
  have hl : lv_has ls 2 [(0, .int x0)] := hl
  have hS : va_S A s.heap s.heap [] := va_S.rf
  refine lv_iconst (v := (nI 0)) hx hb d_C_bitsFor_0 (by decide) ?_
  refine lv_istore_n (lv' := [(1, .int (nI 0)), (0, .int x0)]) hx hb d_C_bitsFor_1 rfl hl (by decide) rfl (fun ls hl => ?_)
  obtain ⟨n_2, hw⟩ := hw
  have k_2 : ∀ (n_2 : Nat) (x1 : Int32), gL1 (wpF_C_bitsFor_2 post x0) n_2 x1 → ∀ (H : Heap) (locs : List Loc) (ls : Array Slot), va_P D gCl [] H → va_D A [] → va_S A s.heap H locs → lv_has ls 2 [(1, .int x1), (0, .int x0)] → W p l e rm_C_bitsFor s m args below meth c H locs 0 0 Q (F0 m 2 ls []) := by
    clear hw hP hD hS hl
    intro n_2
    induction n_2 with
    | zero => exact fun _ h => h.elim
    | succ n_2 ih_2 =>
      intro x1 hw H locs ls hP hD hS hl
      have hw : wpF_C_bitsFor_2 post x0 (gL1 (wpF_C_bitsFor_2 post x0) n_2) x1 := hw
      rw [wpF_C_bitsFor_2] at hw
      refine lv_iload_n hx hb d_C_bitsFor_2 rfl (lv_at hl 0 rfl) ?_
      refine lv_bipush (v := (nI 6)) hx hb d_C_bitsFor_3 (by decide) ?_
      refine lv_icmp_ge (tgt := 21) hx hb d_C_bitsFor_5 (by decide) (fun c5 => ?_) (fun c5 => ?_)
      · have hw := hw.1 c5
        refine lv_iload_n hx hb d_C_bitsFor_21 rfl (lv_at hl 0 rfl) ?_
        exact hret _ _ _ () _ _ hw rfl hP hD hS d_C_bitsFor_22
      · have hw := hw.2 c5
        refine lv_iconst (v := (nI 1)) hx hb d_C_bitsFor_8 (by decide) ?_
        refine lv_iload_n hx hb d_C_bitsFor_9 rfl (lv_at hl 0 rfl) ?_
        refine lv_ishl hx hb d_C_bitsFor_10 ?_
        refine lv_iload_n hx hb d_C_bitsFor_11 rfl (lv_at hl 1 rfl) ?_
        refine lv_icmp_ge (tgt := 21) hx hb d_C_bitsFor_12 (by decide) (fun c12 => ?_) (fun c12 => ?_)
        · have hw := hw.1 c12
          refine lv_iload_n hx hb d_C_bitsFor_21 rfl (lv_at hl 0 rfl) ?_
          exact hret _ _ _ () _ _ hw rfl hP hD hS d_C_bitsFor_22
        · have hw := hw.2 c12
          refine lv_iinc (v := (x1 + (nI 1))) (lv' := [(1, .int (x1 + (nI 1))), (0, .int x0)]) hx hb d_C_bitsFor_15 hl (k := 0) rfl rfl (by decide) rfl (fun ls hl => ?_)
          refine lv_goto (tgt := 2) hx hb d_C_bitsFor_18 (by decide) ?_
          exact ih_2 _ hw _ _ _ hP hD hS (lv_sub hl [0, 1] rfl)
  exact k_2 n_2 _ hw _ _ _ hP hD hS (lv_sub hl [0, 1] rfl)
def wpF_C_plain_7 (post : Int32 → Int32 → Prop) (Nb : Nat) (t_size : Int32) (vb : Nat → Int32) (x1 : Int32) (x2 : Int32) (K_7 : Int32 → Int32 → Prop) (t_at : Int32) (x3 : Int32) : Prop :=
  (((nI 256) < x3 → post (-1) t_at) ∧ (¬ (nI 256) < x3 → wp_T_readNumber (fun r_2 tat_3 => ((r_2 = (-1) → post r_2 tat_3) ∧ (¬ r_2 = (-1) → ((x1 ≤ r_2 → K_7 tat_3 (x3 + (nI 1))) ∧ (¬ x1 ≤ r_2 → post r_2 tat_3))))) Nb t_size t_at vb x2))
def wp_C_plain (post : Int32 → Int32 → Prop) (Nb : Nat) (t_size : Int32) (t_at : Int32) (vb : Nat → Int32) (x1 : Int32) : Prop :=
  wp_C_bitsFor (fun r_1 => (∃ n, gL2 (wpF_C_plain_7 post Nb t_size vb x1 r_1) n t_at (nI 0))) x1
abbrev rm_C_plain : Room := { frames := 2, cells := 0, slots := 0, locals := 45 }
theorem mf_C_plain : gFS y_C_plain b_C_plain 5 (some .int) 2 := ⟨w_124, w_1, ⟨by decide, by decide, by decide +kernel⟩, w_123⟩
set_option maxHeartbeats 4000000 in
set_option maxRecDepth 100000 in
theorem c_C_plain (l : Launch) (D : va_G) (cI : ClassId) (h_t : Nat) (h_b : Nat) (Nb : Nat) (t_size : Int32) (t_at : Int32) (vb : Nat → Int32) (x1 : Int32) (post : Int32 → Int32 → Prop) (hw : wp_C_plain post Nb t_size t_at vb x1) :
    gMi l D [(cI, .int)] y_C_plain b_C_plain 5 .int rm_C_plain [.ref h_t, .int x1] [(h_t, .inr (1, [.ref h_b, .int t_size, .int t_at])), (h_b, .inl (cI, Nb, .inl vb))] (S := Int32) (fun u => [(h_t, .inr (1, [.ref h_b, .int t_size, .int u])), (h_b, .inl (cI, Nb, .inl vb))]) (fun r u => post r u) := by
  rw [wp_C_plain] at hw
  refine gMi.of (by decide) (Nat.le_of_ble_eq_true rfl) (fun p e s m args below meth c A Q ls hx hb hml hown hts hN hK hA hP hD hret hl => ?_)
  have fx : CallFix p m c b_C_plain 5 s args gG "TapeCounter" := ⟨hx, hb, hml, hown, hts⟩
  have hl : lv_has ls 5 [(0, .ref h_t), (1, .int x1)] := hl
  have hS : va_S A s.heap s.heap [] := va_S.rf
  refine lv_iload_n hx hb d_C_plain_0 rfl (lv_at hl 1 rfl) ?_
  refine g_cSi (wr := [(h_t, .inr (1, [.ref h_b, .int t_size, .int t_at])), (h_b, .inl (cI, Nb, .inl vb))]) fx (c_C_bitsFor l D cI  x1 _ hw) mf_C_bitsFor w_125 ⟨rfl, rfl⟩ ⟨Nat.le_of_ble_eq_true rfl, Nat.le_of_ble_eq_true rfl⟩ hN hK hA hP hD hS [] [0, 1] rfl rfl rfl rfl (by decide) rfl rfl hl.1 (Nat.le_of_ble_eq_true rfl) d_C_plain_1 ⟨Nat.zero_le _, Nat.zero_le _⟩ (fun r_1 u H locs hw hP hD hS => ?_)
  try dsimp only at hw
  have hP : va_P D gCl [(h_t, .inr (1, [.ref h_b, .int t_size, .int t_at])), (h_b, .inl (cI, Nb, .inl vb))] H := hP
  have hD : va_D A [(h_t, .inr (1, [.ref h_b, .int t_size, .int t_at])), (h_b, .inl (cI, Nb, .inl vb))] := hD
  refine lv_istore_n (lv' := [(2, .int r_1), (0, .ref h_t), (1, .int x1)]) hx hb d_C_plain_4 rfl hl (by decide) rfl (fun ls hl => ?_)
  refine lv_iconst (v := (nI 0)) hx hb d_C_plain_5 (by decide) ?_
  refine lv_istore_n (lv' := [(3, .int (nI 0)), (2, .int r_1), (0, .ref h_t), (1, .int x1)]) hx hb d_C_plain_6 rfl hl (by decide) rfl (fun ls hl => ?_)
  obtain ⟨n_7, hw⟩ := hw
  have k_7 : ∀ (x2 : Int32) (n_7 : Nat) (t_at : Int32) (x3 : Int32), gL2 (wpF_C_plain_7 post Nb t_size vb x1 x2) n_7 t_at x3 → ∀ (H : Heap) (locs : List Loc) (ls : Array Slot), va_P D gCl [(h_t, .inr (1, [.ref h_b, .int t_size, .int t_at])), (h_b, .inl (cI, Nb, .inl vb))] H → va_D A [(h_t, .inr (1, [.ref h_b, .int t_size, .int t_at])), (h_b, .inl (cI, Nb, .inl vb))] → va_S A s.heap H locs → lv_has ls 5 [(3, .int x3), (2, .int x2), (0, .ref h_t), (1, .int x1)] → W p l e rm_C_plain s m args below meth c H locs 0 0 Q (F0 m 7 ls []) := by
    clear hw hP hD hS hl
    intro x2 n_7
    induction n_7 with
    | zero => exact fun _ _ h => h.elim
    | succ n_7 ih_7 =>
      intro t_at x3 hw H locs ls hP hD hS hl
      have hw : wpF_C_plain_7 post Nb t_size vb x1 x2 (gL2 (wpF_C_plain_7 post Nb t_size vb x1 x2) n_7) t_at x3 := hw
      rw [wpF_C_plain_7] at hw
      refine lv_iload_n hx hb d_C_plain_7 rfl (lv_at hl 0 rfl) ?_
      refine lv_sipush (v := (nI 256)) hx hb d_C_plain_8 (by decide) ?_
      refine lv_icmp_gt (tgt := 42) hx hb d_C_plain_11 (by decide) (fun c11 => ?_) (fun c11 => ?_)
      · have hw := hw.1 c11
        refine lv_iconst (v := (-1)) hx hb d_C_plain_42 (by decide) ?_
        exact hret _ _ _ t_at _ _ hw rfl hP hD hS d_C_plain_43
      · have hw := hw.2 c11
        refine lv_aload_n hx hb d_C_plain_14 rfl (lv_at hl 2 rfl) ?_
        refine lv_iload_n hx hb d_C_plain_15 rfl (lv_at hl 1 rfl) ?_
        refine g_cVi (wr := []) fx (c_T_readNumber l D cI h_t h_b Nb t_size t_at vb x2 _ hw) mf_T_readNumber w_128 ⟨rfl, rfl⟩ ⟨Nat.le_of_ble_eq_true rfl, Nat.le_of_ble_eq_true rfl⟩ hN hK hA hP hD hS [0, 1] [] rfl rfl rfl rfl (by decide) 0 rfl rfl rfl rfl hl.1 (Nat.le_of_ble_eq_true rfl) d_C_plain_16 ⟨Nat.zero_le _, Nat.zero_le _⟩ (fun r_2 u H locs hw hP hD hS => ?_)
        obtain ⟨tat_3, rfl⟩ : ∃ z, z = u := ⟨_, rfl⟩
        try dsimp only at hw
        have hP : va_P D gCl [(h_t, .inr (1, [.ref h_b, .int t_size, .int tat_3])), (h_b, .inl (cI, Nb, .inl vb))] H := hP
        have hD : va_D A [(h_t, .inr (1, [.ref h_b, .int t_size, .int tat_3])), (h_b, .inl (cI, Nb, .inl vb))] := hD
        refine lv_istore (lv' := [(4, .int r_2), (3, .int x3), (2, .int x2), (0, .ref h_t), (1, .int x1)]) hx hb d_C_plain_19 hl (by decide) rfl (fun ls hl => ?_)
        refine lv_iload hx hb d_C_plain_21 (lv_at hl 0 rfl) ?_
        refine lv_iconst (v := (-1)) hx hb d_C_plain_23 (by decide) ?_
        refine lv_icmp_eq (tgt := 33) hx hb d_C_plain_24 (by decide) (fun c24 => ?_) (fun c24 => ?_)
        · have hw := hw.1 c24
          refine lv_iload hx hb d_C_plain_33 (lv_at hl 0 rfl) ?_
          exact hret _ _ _ tat_3 _ _ hw rfl hP hD hS d_C_plain_35
        · have hw := hw.2 c24
          refine lv_iload hx hb d_C_plain_27 (lv_at hl 0 rfl) ?_
          refine lv_iload_n hx hb d_C_plain_29 rfl (lv_at hl 4 rfl) ?_
          refine lv_icmp_ge (tgt := 36) hx hb d_C_plain_30 (by decide) (fun c30 => ?_) (fun c30 => ?_)
          · have hw := hw.1 c30
            refine lv_iinc (v := (x3 + (nI 1))) (lv' := [(3, .int (x3 + (nI 1))), (4, .int r_2), (2, .int x2), (0, .ref h_t), (1, .int x1)]) hx hb d_C_plain_36 hl (k := 1) rfl rfl (by decide) rfl (fun ls hl => ?_)
            refine lv_goto (tgt := 7) hx hb d_C_plain_39 (by decide) ?_
            exact ih_7 _ _ hw _ _ _ hP hD hS (lv_sub hl [0, 2, 3, 4] rfl)
          · have hw := hw.2 c30
            refine lv_iload hx hb d_C_plain_33 (lv_at hl 0 rfl) ?_
            exact hret _ _ _ tat_3 _ _ hw rfl hP hD hS d_C_plain_35
  exact k_7 r_1 n_7 _ _ hw _ _ _ hP hD hS (lv_sub hl [0, 1, 2, 3] rfl)
def wpF_C_thrifty_7 (post : Int32 → Int32 → Prop) (Nb : Nat) (t_size : Int32) (vb : Nat → Int32) (x1 : Int32) (K_7 : Int32 → Int32 → Int32 → Int32 → Prop) (t_at : Int32) (x2 : Int32) (x3 : Int32) (x4 : Int32) : Prop :=
  (((nI 256) < x4 → post (-1) t_at) ∧ (¬ (nI 256) < x4 → ((x2 < x1 → wp_T_readBit (fun r_1 tat_2 => ((¬ r_1 = (-1) → K_7 tat_2 ((nI 2) * x2) (((nI 2) * x3) + r_1) (x4 + (nI 1))) ∧ (r_1 = (-1) → post (-1) tat_2))) Nb t_size t_at vb) ∧ (¬ x2 < x1 → ((x1 ≤ x3 → wp_T_readBit (fun r_3 tat_4 => ((¬ r_3 = (-1) → K_7 tat_4 ((nI 2) * (x2 - x1)) (((nI 2) * (x3 - x1)) + r_3) (x4 + (nI 1))) ∧ (r_3 = (-1) → post (-1) tat_4))) Nb t_size t_at vb) ∧ (¬ x1 ≤ x3 → post x3 t_at))))))
def wp_C_thrifty (post : Int32 → Int32 → Prop) (Nb : Nat) (t_size : Int32) (t_at : Int32) (vb : Nat → Int32) (x1 : Int32) : Prop :=
  (∃ n, gL4 (wpF_C_thrifty_7 post Nb t_size vb x1) n t_at (nI 1) (nI 0) (nI 0))
abbrev rm_C_thrifty : Room := { frames := 1, cells := 0, slots := 0, locals := 21 }
theorem mf_C_thrifty : gFS y_C_thrifty b_C_thrifty 6 (some .int) 2 := ⟨w_138, w_1, ⟨by decide, by decide, by decide +kernel⟩, w_137⟩
set_option maxHeartbeats 4000000 in
set_option maxRecDepth 100000 in
theorem c_C_thrifty (l : Launch) (D : va_G) (cI : ClassId) (h_t : Nat) (h_b : Nat) (Nb : Nat) (t_size : Int32) (t_at : Int32) (vb : Nat → Int32) (x1 : Int32) (post : Int32 → Int32 → Prop) (hw : wp_C_thrifty post Nb t_size t_at vb x1) :
    gMi l D [(cI, .int)] y_C_thrifty b_C_thrifty 6 .int rm_C_thrifty [.ref h_t, .int x1] [(h_t, .inr (1, [.ref h_b, .int t_size, .int t_at])), (h_b, .inl (cI, Nb, .inl vb))] (S := Int32) (fun u => [(h_t, .inr (1, [.ref h_b, .int t_size, .int u])), (h_b, .inl (cI, Nb, .inl vb))]) (fun r u => post r u) := by
  rw [wp_C_thrifty] at hw
  refine gMi.of (by decide) (Nat.le_of_ble_eq_true rfl) (fun p e s m args below meth c A Q ls hx hb hml hown hts hN hK hA hP hD hret hl => ?_)
  have fx : CallFix p m c b_C_thrifty 6 s args gG "TapeCounter" := ⟨hx, hb, hml, hown, hts⟩
  have hl : lv_has ls 6 [(0, .ref h_t), (1, .int x1)] := hl
  have hS : va_S A s.heap s.heap [] := va_S.rf
  refine lv_iconst (v := (nI 1)) hx hb d_C_thrifty_0 (by decide) ?_
  refine lv_istore_n (lv' := [(2, .int (nI 1)), (0, .ref h_t), (1, .int x1)]) hx hb d_C_thrifty_1 rfl hl (by decide) rfl (fun ls hl => ?_)
  refine lv_iconst (v := (nI 0)) hx hb d_C_thrifty_2 (by decide) ?_
  refine lv_istore_n (lv' := [(3, .int (nI 0)), (2, .int (nI 1)), (0, .ref h_t), (1, .int x1)]) hx hb d_C_thrifty_3 rfl hl (by decide) rfl (fun ls hl => ?_)
  refine lv_iconst (v := (nI 0)) hx hb d_C_thrifty_4 (by decide) ?_
  refine lv_istore (lv' := [(4, .int (nI 0)), (3, .int (nI 0)), (2, .int (nI 1)), (0, .ref h_t), (1, .int x1)]) hx hb d_C_thrifty_5 hl (by decide) rfl (fun ls hl => ?_)
  obtain ⟨n_7, hw⟩ := hw
  have k_7 : ∀ (n_7 : Nat) (t_at : Int32) (x2 : Int32) (x3 : Int32) (x4 : Int32), gL4 (wpF_C_thrifty_7 post Nb t_size vb x1) n_7 t_at x2 x3 x4 → ∀ (H : Heap) (locs : List Loc) (ls : Array Slot), va_P D gCl [(h_t, .inr (1, [.ref h_b, .int t_size, .int t_at])), (h_b, .inl (cI, Nb, .inl vb))] H → va_D A [(h_t, .inr (1, [.ref h_b, .int t_size, .int t_at])), (h_b, .inl (cI, Nb, .inl vb))] → va_S A s.heap H locs → lv_has ls 6 [(4, .int x4), (3, .int x3), (2, .int x2), (0, .ref h_t), (1, .int x1)] → W p l e rm_C_thrifty s m args below meth c H locs 0 0 Q (F0 m 7 ls []) := by
    clear hw hP hD hS hl
    intro n_7
    induction n_7 with
    | zero => exact fun _ _ _ _ h => h.elim
    | succ n_7 ih_7 =>
      intro t_at x2 x3 x4 hw H locs ls hP hD hS hl
      have hw : wpF_C_thrifty_7 post Nb t_size vb x1 (gL4 (wpF_C_thrifty_7 post Nb t_size vb x1) n_7) t_at x2 x3 x4 := hw
      rw [wpF_C_thrifty_7] at hw
      refine lv_iload hx hb d_C_thrifty_7 (lv_at hl 0 rfl) ?_
      refine lv_sipush (v := (nI 256)) hx hb d_C_thrifty_9 (by decide) ?_
      refine lv_icmp_gt (tgt := 66) hx hb d_C_thrifty_12 (by decide) (fun c12 => ?_) (fun c12 => ?_)
      · have hw := hw.1 c12
        refine lv_iconst (v := (-1)) hx hb d_C_thrifty_66 (by decide) ?_
        exact hret _ _ _ t_at _ _ hw rfl hP hD hS d_C_thrifty_67
      · have hw := hw.2 c12
        refine lv_iload_n hx hb d_C_thrifty_15 rfl (lv_at hl 2 rfl) ?_
        refine lv_iload_n hx hb d_C_thrifty_16 rfl (lv_at hl 4 rfl) ?_
        refine lv_icmp_lt (tgt := 35) hx hb d_C_thrifty_17 (by decide) (fun c17 => ?_) (fun c17 => ?_)
        · have hw := hw.1 c17
          refine lv_aload_n hx hb d_C_thrifty_35 rfl (lv_at hl 3 rfl) ?_
          refine g_cVi (wr := []) fx (c_T_readBit l D cI h_t h_b Nb t_size t_at vb _ hw) mf_T_readBit w_139 ⟨rfl, rfl⟩ ⟨Nat.le_of_ble_eq_true rfl, Nat.le_of_ble_eq_true rfl⟩ hN hK hA hP hD hS [0, 1] [] rfl rfl rfl rfl (by decide) 0 rfl rfl rfl rfl hl.1 (Nat.le_of_ble_eq_true rfl) d_C_thrifty_36 ⟨Nat.zero_le _, Nat.zero_le _⟩ (fun r_1 u H locs hw hP hD hS => ?_)
          obtain ⟨tat_2, rfl⟩ : ∃ z, z = u := ⟨_, rfl⟩
          try dsimp only at hw
          have hP : va_P D gCl [(h_t, .inr (1, [.ref h_b, .int t_size, .int tat_2])), (h_b, .inl (cI, Nb, .inl vb))] H := hP
          have hD : va_D A [(h_t, .inr (1, [.ref h_b, .int t_size, .int tat_2])), (h_b, .inl (cI, Nb, .inl vb))] := hD
          refine lv_istore (lv' := [(5, .int r_1), (4, .int x4), (3, .int x3), (2, .int x2), (0, .ref h_t), (1, .int x1)]) hx hb d_C_thrifty_39 hl (by decide) rfl (fun ls hl => ?_)
          refine lv_iload hx hb d_C_thrifty_41 (lv_at hl 0 rfl) ?_
          refine lv_iconst (v := (-1)) hx hb d_C_thrifty_43 (by decide) ?_
          refine lv_icmp_ne (tgt := 49) hx hb d_C_thrifty_44 (by decide) (fun c44 => ?_) (fun c44 => ?_)
          · have hw := hw.1 c44
            refine lv_iconst (v := (nI 2)) hx hb d_C_thrifty_49 (by decide) ?_
            refine lv_iload_n hx hb d_C_thrifty_50 rfl (lv_at hl 3 rfl) ?_
            refine lv_imul hx hb d_C_thrifty_51 ?_
            refine lv_istore_n (lv' := [(2, .int ((nI 2) * x2)), (5, .int r_1), (4, .int x4), (3, .int x3), (0, .ref h_t), (1, .int x1)]) hx hb d_C_thrifty_52 rfl hl (by decide) rfl (fun ls hl => ?_)
            refine lv_iconst (v := (nI 2)) hx hb d_C_thrifty_53 (by decide) ?_
            refine lv_iload_n hx hb d_C_thrifty_54 rfl (lv_at hl 3 rfl) ?_
            refine lv_imul hx hb d_C_thrifty_55 ?_
            refine lv_iload hx hb d_C_thrifty_56 (lv_at hl 1 rfl) ?_
            refine lv_iadd hx hb d_C_thrifty_58 ?_
            refine lv_istore_n (lv' := [(3, .int (((nI 2) * x3) + r_1)), (2, .int ((nI 2) * x2)), (5, .int r_1), (4, .int x4), (0, .ref h_t), (1, .int x1)]) hx hb d_C_thrifty_59 rfl hl (by decide) rfl (fun ls hl => ?_)
            refine lv_iinc (v := (x4 + (nI 1))) (lv' := [(4, .int (x4 + (nI 1))), (3, .int (((nI 2) * x3) + r_1)), (2, .int ((nI 2) * x2)), (5, .int r_1), (0, .ref h_t), (1, .int x1)]) hx hb d_C_thrifty_60 hl (k := 3) rfl rfl (by decide) rfl (fun ls hl => ?_)
            refine lv_goto (tgt := 7) hx hb d_C_thrifty_63 (by decide) ?_
            exact ih_7 _ _ _ _ hw _ _ _ hP hD hS (lv_sub hl [0, 1, 2, 4, 5] rfl)
          · have hw := hw.2 c44
            refine lv_iconst (v := (-1)) hx hb d_C_thrifty_47 (by decide) ?_
            exact hret _ _ _ tat_2 _ _ hw rfl hP hD hS d_C_thrifty_48
        · have hw := hw.2 c17
          refine lv_iload_n hx hb d_C_thrifty_20 rfl (lv_at hl 1 rfl) ?_
          refine lv_iload_n hx hb d_C_thrifty_21 rfl (lv_at hl 4 rfl) ?_
          refine lv_icmp_ge (tgt := 27) hx hb d_C_thrifty_22 (by decide) (fun c22 => ?_) (fun c22 => ?_)
          · have hw := hw.1 c22
            refine lv_iload_n hx hb d_C_thrifty_27 rfl (lv_at hl 2 rfl) ?_
            refine lv_iload_n hx hb d_C_thrifty_28 rfl (lv_at hl 4 rfl) ?_
            refine lv_isub hx hb d_C_thrifty_29 ?_
            refine lv_istore_n (lv' := [(2, .int (x2 - x1)), (4, .int x4), (3, .int x3), (0, .ref h_t), (1, .int x1)]) hx hb d_C_thrifty_30 rfl hl (by decide) rfl (fun ls hl => ?_)
            refine lv_iload_n hx hb d_C_thrifty_31 rfl (lv_at hl 2 rfl) ?_
            refine lv_iload_n hx hb d_C_thrifty_32 rfl (lv_at hl 4 rfl) ?_
            refine lv_isub hx hb d_C_thrifty_33 ?_
            refine lv_istore_n (lv' := [(3, .int (x3 - x1)), (2, .int (x2 - x1)), (4, .int x4), (0, .ref h_t), (1, .int x1)]) hx hb d_C_thrifty_34 rfl hl (by decide) rfl (fun ls hl => ?_)
            refine lv_aload_n hx hb d_C_thrifty_35 rfl (lv_at hl 3 rfl) ?_
            refine g_cVi (wr := []) fx (c_T_readBit l D cI h_t h_b Nb t_size t_at vb _ hw) mf_T_readBit w_139 ⟨rfl, rfl⟩ ⟨Nat.le_of_ble_eq_true rfl, Nat.le_of_ble_eq_true rfl⟩ hN hK hA hP hD hS [0, 1] [] rfl rfl rfl rfl (by decide) 0 rfl rfl rfl rfl hl.1 (Nat.le_of_ble_eq_true rfl) d_C_thrifty_36 ⟨Nat.zero_le _, Nat.zero_le _⟩ (fun r_3 u H locs hw hP hD hS => ?_)
            obtain ⟨tat_4, rfl⟩ : ∃ z, z = u := ⟨_, rfl⟩
            try dsimp only at hw
            have hP : va_P D gCl [(h_t, .inr (1, [.ref h_b, .int t_size, .int tat_4])), (h_b, .inl (cI, Nb, .inl vb))] H := hP
            have hD : va_D A [(h_t, .inr (1, [.ref h_b, .int t_size, .int tat_4])), (h_b, .inl (cI, Nb, .inl vb))] := hD
            refine lv_istore (lv' := [(5, .int r_3), (3, .int (x3 - x1)), (2, .int (x2 - x1)), (4, .int x4), (0, .ref h_t), (1, .int x1)]) hx hb d_C_thrifty_39 hl (by decide) rfl (fun ls hl => ?_)
            refine lv_iload hx hb d_C_thrifty_41 (lv_at hl 0 rfl) ?_
            refine lv_iconst (v := (-1)) hx hb d_C_thrifty_43 (by decide) ?_
            refine lv_icmp_ne (tgt := 49) hx hb d_C_thrifty_44 (by decide) (fun c44 => ?_) (fun c44 => ?_)
            · have hw := hw.1 c44
              refine lv_iconst (v := (nI 2)) hx hb d_C_thrifty_49 (by decide) ?_
              refine lv_iload_n hx hb d_C_thrifty_50 rfl (lv_at hl 2 rfl) ?_
              refine lv_imul hx hb d_C_thrifty_51 ?_
              refine lv_istore_n (lv' := [(2, .int ((nI 2) * (x2 - x1))), (5, .int r_3), (3, .int (x3 - x1)), (4, .int x4), (0, .ref h_t), (1, .int x1)]) hx hb d_C_thrifty_52 rfl hl (by decide) rfl (fun ls hl => ?_)
              refine lv_iconst (v := (nI 2)) hx hb d_C_thrifty_53 (by decide) ?_
              refine lv_iload_n hx hb d_C_thrifty_54 rfl (lv_at hl 2 rfl) ?_
              refine lv_imul hx hb d_C_thrifty_55 ?_
              refine lv_iload hx hb d_C_thrifty_56 (lv_at hl 1 rfl) ?_
              refine lv_iadd hx hb d_C_thrifty_58 ?_
              refine lv_istore_n (lv' := [(3, .int (((nI 2) * (x3 - x1)) + r_3)), (2, .int ((nI 2) * (x2 - x1))), (5, .int r_3), (4, .int x4), (0, .ref h_t), (1, .int x1)]) hx hb d_C_thrifty_59 rfl hl (by decide) rfl (fun ls hl => ?_)
              refine lv_iinc (v := (x4 + (nI 1))) (lv' := [(4, .int (x4 + (nI 1))), (3, .int (((nI 2) * (x3 - x1)) + r_3)), (2, .int ((nI 2) * (x2 - x1))), (5, .int r_3), (0, .ref h_t), (1, .int x1)]) hx hb d_C_thrifty_60 hl (k := 3) rfl rfl (by decide) rfl (fun ls hl => ?_)
              refine lv_goto (tgt := 7) hx hb d_C_thrifty_63 (by decide) ?_
              exact ih_7 _ _ _ _ hw _ _ _ hP hD hS (lv_sub hl [0, 1, 2, 4, 5] rfl)
            · have hw := hw.2 c44
              refine lv_iconst (v := (-1)) hx hb d_C_thrifty_47 (by decide) ?_
              exact hret _ _ _ tat_4 _ _ hw rfl hP hD hS d_C_thrifty_48
          · have hw := hw.2 c22
            refine lv_iload_n hx hb d_C_thrifty_25 rfl (lv_at hl 1 rfl) ?_
            exact hret _ _ _ t_at _ _ hw rfl hP hD hS d_C_thrifty_26
  exact k_7 n_7 _ _ _ _ hw _ _ _ hP hD hS (lv_sub hl [0, 1, 2, 3, 4] rfl)
def wpF_C_coin_5 (post : Int32 → Int32 → Prop) (Nb : Nat) (t_size : Int32) (vb : Nat → Int32) (x2 : Int32) (K_5 : Int32 → Int32 → Int32 → Prop) (t_at : Int32) (x3 : Int32) (x4 : Int32) : Prop :=
  (((nI 256) < x4 → post (-1) t_at) ∧ (¬ (nI 256) < x4 → ((¬ x3 = 0 → ((¬ x3 = x2 → wp_T_readBit (fun r_1 tat_2 => ((¬ r_1 = (-1) → ((((nI 2) * x3) < x2 → ((¬ (nI 0) = (nI 1) → ((r_1 = (nI 0) → K_5 tat_2 ((nI 2) * x3) (x4 + (nI 1))) ∧ (¬ r_1 = (nI 0) → post (nI 0) tat_2))) ∧ ((nI 0) = (nI 1) → ((r_1 = (nI 0) → K_5 tat_2 (((nI 2) * x3) - x2) (x4 + (nI 1))) ∧ (¬ r_1 = (nI 0) → post (nI 0) tat_2))))) ∧ (¬ ((nI 2) * x3) < x2 → ((¬ (nI 1) = (nI 1) → ((r_1 = (nI 1) → K_5 tat_2 ((nI 2) * x3) (x4 + (nI 1))) ∧ (¬ r_1 = (nI 1) → post (nI 1) tat_2))) ∧ ((nI 1) = (nI 1) → ((r_1 = (nI 1) → K_5 tat_2 (((nI 2) * x3) - x2) (x4 + (nI 1))) ∧ (¬ r_1 = (nI 1) → post (nI 1) tat_2))))))) ∧ (r_1 = (-1) → post (-1) tat_2))) Nb t_size t_at vb) ∧ (x3 = x2 → post (nI 1) t_at))) ∧ (x3 = 0 → post (nI 0) t_at))))
def wp_C_coin (post : Int32 → Int32 → Prop) (Nb : Nat) (t_size : Int32) (t_at : Int32) (vb : Nat → Int32) (x1 : Int32) (x2 : Int32) : Prop :=
  (∃ n, gL3 (wpF_C_coin_5 post Nb t_size vb x2) n t_at x1 (nI 0))
abbrev rm_C_coin : Room := { frames := 1, cells := 0, slots := 0, locals := 21 }
theorem mf_C_coin : gFS y_C_coin b_C_coin 7 (some .int) 3 := ⟨w_142, w_1, ⟨by decide, by decide, by decide +kernel⟩, w_141⟩
set_option maxHeartbeats 4000000 in
set_option maxRecDepth 100000 in
theorem c_C_coin (l : Launch) (D : va_G) (cI : ClassId) (h_t : Nat) (h_b : Nat) (Nb : Nat) (t_size : Int32) (t_at : Int32) (vb : Nat → Int32) (x1 : Int32) (x2 : Int32) (post : Int32 → Int32 → Prop) (hw : wp_C_coin post Nb t_size t_at vb x1 x2) :
    gMi l D [(cI, .int)] y_C_coin b_C_coin 7 .int rm_C_coin [.ref h_t, .int x1, .int x2] [(h_t, .inr (1, [.ref h_b, .int t_size, .int t_at])), (h_b, .inl (cI, Nb, .inl vb))] (S := Int32) (fun u => [(h_t, .inr (1, [.ref h_b, .int t_size, .int u])), (h_b, .inl (cI, Nb, .inl vb))]) (fun r u => post r u) := by
  rw [wp_C_coin] at hw
  refine gMi.of (by decide) (Nat.le_of_ble_eq_true rfl) (fun p e s m args below meth c A Q ls hx hb hml hown hts hN hK hA hP hD hret hl => ?_)
  have fx : CallFix p m c b_C_coin 7 s args gG "TapeCounter" := ⟨hx, hb, hml, hown, hts⟩
  have hl : lv_has ls 7 [(0, .ref h_t), (1, .int x1), (2, .int x2)] := hl
  have hS : va_S A s.heap s.heap [] := va_S.rf
  refine lv_iload_n hx hb d_C_coin_0 rfl (lv_at hl 1 rfl) ?_
  refine lv_istore_n (lv' := [(3, .int x1), (0, .ref h_t), (1, .int x1), (2, .int x2)]) hx hb d_C_coin_1 rfl hl (by decide) rfl (fun ls hl => ?_)
  refine lv_iconst (v := (nI 0)) hx hb d_C_coin_2 (by decide) ?_
  refine lv_istore (lv' := [(4, .int (nI 0)), (3, .int x1), (0, .ref h_t), (1, .int x1), (2, .int x2)]) hx hb d_C_coin_3 hl (by decide) rfl (fun ls hl => ?_)
  obtain ⟨n_5, hw⟩ := hw
  have k_5 : ∀ (n_5 : Nat) (t_at : Int32) (x3 : Int32) (x4 : Int32), gL3 (wpF_C_coin_5 post Nb t_size vb x2) n_5 t_at x3 x4 → ∀ (H : Heap) (locs : List Loc) (ls : Array Slot), va_P D gCl [(h_t, .inr (1, [.ref h_b, .int t_size, .int t_at])), (h_b, .inl (cI, Nb, .inl vb))] H → va_D A [(h_t, .inr (1, [.ref h_b, .int t_size, .int t_at])), (h_b, .inl (cI, Nb, .inl vb))] → va_S A s.heap H locs → lv_has ls 7 [(4, .int x4), (3, .int x3), (0, .ref h_t), (2, .int x2)] → W p l e rm_C_coin s m args below meth c H locs 0 0 Q (F0 m 5 ls []) := by
    clear hw hP hD hS hl
    intro n_5
    induction n_5 with
    | zero => exact fun _ _ _ h => h.elim
    | succ n_5 ih_5 =>
      intro t_at x3 x4 hw H locs ls hP hD hS hl
      have hw : wpF_C_coin_5 post Nb t_size vb x2 (gL3 (wpF_C_coin_5 post Nb t_size vb x2) n_5) t_at x3 x4 := hw
      rw [wpF_C_coin_5] at hw
      refine lv_iload hx hb d_C_coin_5 (lv_at hl 0 rfl) ?_
      refine lv_sipush (v := (nI 256)) hx hb d_C_coin_7 (by decide) ?_
      refine lv_icmp_gt (tgt := 82) hx hb d_C_coin_10 (by decide) (fun c10 => ?_) (fun c10 => ?_)
      · have hw := hw.1 c10
        refine lv_iconst (v := (-1)) hx hb d_C_coin_82 (by decide) ?_
        exact hret _ _ _ t_at _ _ hw rfl hP hD hS d_C_coin_83
      · have hw := hw.2 c10
        refine lv_iload_n hx hb d_C_coin_13 rfl (lv_at hl 1 rfl) ?_
        refine lv_if_ne (tgt := 19) hx hb d_C_coin_14 (by decide) (fun c14 => ?_) (fun c14 => ?_)
        · have hw := hw.1 c14
          refine lv_iload_n hx hb d_C_coin_19 rfl (lv_at hl 1 rfl) ?_
          refine lv_iload_n hx hb d_C_coin_20 rfl (lv_at hl 3 rfl) ?_
          refine lv_icmp_ne (tgt := 26) hx hb d_C_coin_21 (by decide) (fun c21 => ?_) (fun c21 => ?_)
          · have hw := hw.1 c21
            refine lv_aload_n hx hb d_C_coin_26 rfl (lv_at hl 2 rfl) ?_
            refine g_cVi (wr := []) fx (c_T_readBit l D cI h_t h_b Nb t_size t_at vb _ hw) mf_T_readBit w_139 ⟨rfl, rfl⟩ ⟨Nat.le_of_ble_eq_true rfl, Nat.le_of_ble_eq_true rfl⟩ hN hK hA hP hD hS [0, 1] [] rfl rfl rfl rfl (by decide) 0 rfl rfl rfl rfl hl.1 (Nat.le_of_ble_eq_true rfl) d_C_coin_27 ⟨Nat.zero_le _, Nat.zero_le _⟩ (fun r_1 u H locs hw hP hD hS => ?_)
            obtain ⟨tat_2, rfl⟩ : ∃ z, z = u := ⟨_, rfl⟩
            try dsimp only at hw
            have hP : va_P D gCl [(h_t, .inr (1, [.ref h_b, .int t_size, .int tat_2])), (h_b, .inl (cI, Nb, .inl vb))] H := hP
            have hD : va_D A [(h_t, .inr (1, [.ref h_b, .int t_size, .int tat_2])), (h_b, .inl (cI, Nb, .inl vb))] := hD
            refine lv_istore (lv' := [(5, .int r_1), (4, .int x4), (3, .int x3), (0, .ref h_t), (2, .int x2)]) hx hb d_C_coin_30 hl (by decide) rfl (fun ls hl => ?_)
            refine lv_iload hx hb d_C_coin_32 (lv_at hl 0 rfl) ?_
            refine lv_iconst (v := (-1)) hx hb d_C_coin_34 (by decide) ?_
            refine lv_icmp_ne (tgt := 40) hx hb d_C_coin_35 (by decide) (fun c35 => ?_) (fun c35 => ?_)
            · have hw := hw.1 c35
              refine lv_iconst (v := (nI 2)) hx hb d_C_coin_40 (by decide) ?_
              refine lv_iload_n hx hb d_C_coin_41 rfl (lv_at hl 2 rfl) ?_
              refine lv_imul hx hb d_C_coin_42 ?_
              refine lv_istore_n (lv' := [(3, .int ((nI 2) * x3)), (5, .int r_1), (4, .int x4), (0, .ref h_t), (2, .int x2)]) hx hb d_C_coin_43 rfl hl (by decide) rfl (fun ls hl => ?_)
              refine lv_iload_n hx hb d_C_coin_44 rfl (lv_at hl 0 rfl) ?_
              refine lv_iload_n hx hb d_C_coin_45 rfl (lv_at hl 4 rfl) ?_
              refine lv_icmp_lt (tgt := 53) hx hb d_C_coin_46 (by decide) (fun c46 => ?_) (fun c46 => ?_)
              · have hw := hw.1 c46
                refine lv_iconst (v := (nI 0)) hx hb d_C_coin_53 (by decide) ?_
                refine lv_istore (lv' := [(6, .int (nI 0)), (3, .int ((nI 2) * x3)), (5, .int r_1), (4, .int x4), (0, .ref h_t), (2, .int x2)]) hx hb d_C_coin_54 hl (by decide) rfl (fun ls hl => ?_)
                refine lv_iload hx hb d_C_coin_56 (lv_at hl 0 rfl) ?_
                refine lv_iconst (v := (nI 1)) hx hb d_C_coin_58 (by decide) ?_
                refine lv_icmp_ne (tgt := 66) hx hb d_C_coin_59 (by decide) (fun c59 => ?_) (fun c59 => ?_)
                · have hw := hw.1 c59
                  refine lv_iload hx hb d_C_coin_66 (lv_at hl 2 rfl) ?_
                  refine lv_iload hx hb d_C_coin_68 (lv_at hl 0 rfl) ?_
                  refine lv_icmp_eq (tgt := 76) hx hb d_C_coin_70 (by decide) (fun c70 => ?_) (fun c70 => ?_)
                  · have hw := hw.1 c70
                    refine lv_iinc (v := (x4 + (nI 1))) (lv' := [(4, .int (x4 + (nI 1))), (6, .int (nI 0)), (3, .int ((nI 2) * x3)), (5, .int r_1), (0, .ref h_t), (2, .int x2)]) hx hb d_C_coin_76 hl (k := 3) rfl rfl (by decide) rfl (fun ls hl => ?_)
                    refine lv_goto (tgt := 5) hx hb d_C_coin_79 (by decide) ?_
                    exact ih_5 _ _ _ hw _ _ _ hP hD hS (lv_sub hl [0, 2, 4, 5] rfl)
                  · have hw := hw.2 c70
                    refine lv_iload hx hb d_C_coin_73 (lv_at hl 0 rfl) ?_
                    exact hret _ _ _ tat_2 _ _ hw rfl hP hD hS d_C_coin_75
                · have hw := hw.2 c59
                  refine lv_iload_n hx hb d_C_coin_62 rfl (lv_at hl 1 rfl) ?_
                  refine lv_iload_n hx hb d_C_coin_63 rfl (lv_at hl 5 rfl) ?_
                  refine lv_isub hx hb d_C_coin_64 ?_
                  refine lv_istore_n (lv' := [(3, .int (((nI 2) * x3) - x2)), (6, .int (nI 0)), (5, .int r_1), (4, .int x4), (0, .ref h_t), (2, .int x2)]) hx hb d_C_coin_65 rfl hl (by decide) rfl (fun ls hl => ?_)
                  refine lv_iload hx hb d_C_coin_66 (lv_at hl 2 rfl) ?_
                  refine lv_iload hx hb d_C_coin_68 (lv_at hl 1 rfl) ?_
                  refine lv_icmp_eq (tgt := 76) hx hb d_C_coin_70 (by decide) (fun c70 => ?_) (fun c70 => ?_)
                  · have hw := hw.1 c70
                    refine lv_iinc (v := (x4 + (nI 1))) (lv' := [(4, .int (x4 + (nI 1))), (3, .int (((nI 2) * x3) - x2)), (6, .int (nI 0)), (5, .int r_1), (0, .ref h_t), (2, .int x2)]) hx hb d_C_coin_76 hl (k := 3) rfl rfl (by decide) rfl (fun ls hl => ?_)
                    refine lv_goto (tgt := 5) hx hb d_C_coin_79 (by decide) ?_
                    exact ih_5 _ _ _ hw _ _ _ hP hD hS (lv_sub hl [0, 1, 4, 5] rfl)
                  · have hw := hw.2 c70
                    refine lv_iload hx hb d_C_coin_73 (lv_at hl 1 rfl) ?_
                    exact hret _ _ _ tat_2 _ _ hw rfl hP hD hS d_C_coin_75
              · have hw := hw.2 c46
                refine lv_iconst (v := (nI 1)) hx hb d_C_coin_49 (by decide) ?_
                refine lv_goto (tgt := 54) hx hb d_C_coin_50 (by decide) ?_
                refine lv_istore (lv' := [(6, .int (nI 1)), (3, .int ((nI 2) * x3)), (5, .int r_1), (4, .int x4), (0, .ref h_t), (2, .int x2)]) hx hb d_C_coin_54 hl (by decide) rfl (fun ls hl => ?_)
                refine lv_iload hx hb d_C_coin_56 (lv_at hl 0 rfl) ?_
                refine lv_iconst (v := (nI 1)) hx hb d_C_coin_58 (by decide) ?_
                refine lv_icmp_ne (tgt := 66) hx hb d_C_coin_59 (by decide) (fun c59 => ?_) (fun c59 => ?_)
                · have hw := hw.1 c59
                  refine lv_iload hx hb d_C_coin_66 (lv_at hl 2 rfl) ?_
                  refine lv_iload hx hb d_C_coin_68 (lv_at hl 0 rfl) ?_
                  refine lv_icmp_eq (tgt := 76) hx hb d_C_coin_70 (by decide) (fun c70 => ?_) (fun c70 => ?_)
                  · have hw := hw.1 c70
                    refine lv_iinc (v := (x4 + (nI 1))) (lv' := [(4, .int (x4 + (nI 1))), (6, .int (nI 1)), (3, .int ((nI 2) * x3)), (5, .int r_1), (0, .ref h_t), (2, .int x2)]) hx hb d_C_coin_76 hl (k := 3) rfl rfl (by decide) rfl (fun ls hl => ?_)
                    refine lv_goto (tgt := 5) hx hb d_C_coin_79 (by decide) ?_
                    exact ih_5 _ _ _ hw _ _ _ hP hD hS (lv_sub hl [0, 2, 4, 5] rfl)
                  · have hw := hw.2 c70
                    refine lv_iload hx hb d_C_coin_73 (lv_at hl 0 rfl) ?_
                    exact hret _ _ _ tat_2 _ _ hw rfl hP hD hS d_C_coin_75
                · have hw := hw.2 c59
                  refine lv_iload_n hx hb d_C_coin_62 rfl (lv_at hl 1 rfl) ?_
                  refine lv_iload_n hx hb d_C_coin_63 rfl (lv_at hl 5 rfl) ?_
                  refine lv_isub hx hb d_C_coin_64 ?_
                  refine lv_istore_n (lv' := [(3, .int (((nI 2) * x3) - x2)), (6, .int (nI 1)), (5, .int r_1), (4, .int x4), (0, .ref h_t), (2, .int x2)]) hx hb d_C_coin_65 rfl hl (by decide) rfl (fun ls hl => ?_)
                  refine lv_iload hx hb d_C_coin_66 (lv_at hl 2 rfl) ?_
                  refine lv_iload hx hb d_C_coin_68 (lv_at hl 1 rfl) ?_
                  refine lv_icmp_eq (tgt := 76) hx hb d_C_coin_70 (by decide) (fun c70 => ?_) (fun c70 => ?_)
                  · have hw := hw.1 c70
                    refine lv_iinc (v := (x4 + (nI 1))) (lv' := [(4, .int (x4 + (nI 1))), (3, .int (((nI 2) * x3) - x2)), (6, .int (nI 1)), (5, .int r_1), (0, .ref h_t), (2, .int x2)]) hx hb d_C_coin_76 hl (k := 3) rfl rfl (by decide) rfl (fun ls hl => ?_)
                    refine lv_goto (tgt := 5) hx hb d_C_coin_79 (by decide) ?_
                    exact ih_5 _ _ _ hw _ _ _ hP hD hS (lv_sub hl [0, 1, 4, 5] rfl)
                  · have hw := hw.2 c70
                    refine lv_iload hx hb d_C_coin_73 (lv_at hl 1 rfl) ?_
                    exact hret _ _ _ tat_2 _ _ hw rfl hP hD hS d_C_coin_75
            · have hw := hw.2 c35
              refine lv_iconst (v := (-1)) hx hb d_C_coin_38 (by decide) ?_
              exact hret _ _ _ tat_2 _ _ hw rfl hP hD hS d_C_coin_39
          · have hw := hw.2 c21
            refine lv_iconst (v := (nI 1)) hx hb d_C_coin_24 (by decide) ?_
            exact hret _ _ _ t_at _ _ hw rfl hP hD hS d_C_coin_25
        · have hw := hw.2 c14
          refine lv_iconst (v := (nI 0)) hx hb d_C_coin_17 (by decide) ?_
          exact hret _ _ _ t_at _ _ hw rfl hP hD hS d_C_coin_18
  exact k_5 n_5 _ _ _ hw _ _ _ hP hD hS (lv_sub hl [0, 1, 2, 4] rfl)
def wpF_C_tosses_4 (post : Int32 → Int32 → Prop) (Nb : Nat) (t_size : Int32) (vb : Nat → Int32) (x1 : Int32) (K_4 : Int32 → Int32 → Int32 → Prop) (t_at : Int32) (x2 : Int32) (x3 : Int32) : Prop :=
  ((x1 ≤ x3 → post x2 t_at) ∧ (¬ x1 ≤ x3 → wp_T_readBit (fun r_1 tat_2 => ((¬ r_1 = (-1) → K_4 tat_2 (x2 + r_1) (x3 + (nI 1))) ∧ (r_1 = (-1) → post (-1) tat_2))) Nb t_size t_at vb))
def wp_C_tosses (post : Int32 → Int32 → Prop) (Nb : Nat) (t_size : Int32) (t_at : Int32) (vb : Nat → Int32) (x1 : Int32) : Prop :=
  (∃ n, gL3 (wpF_C_tosses_4 post Nb t_size vb x1) n t_at (nI 0) (nI 0))
abbrev rm_C_tosses : Room := { frames := 1, cells := 0, slots := 0, locals := 21 }
theorem mf_C_tosses : gFS y_C_tosses b_C_tosses 5 (some .int) 2 := ⟨w_145, w_1, ⟨by decide, by decide, by decide +kernel⟩, w_144⟩
set_option maxHeartbeats 4000000 in
set_option maxRecDepth 100000 in
theorem c_C_tosses (l : Launch) (D : va_G) (cI : ClassId) (h_t : Nat) (h_b : Nat) (Nb : Nat) (t_size : Int32) (t_at : Int32) (vb : Nat → Int32) (x1 : Int32) (post : Int32 → Int32 → Prop) (hw : wp_C_tosses post Nb t_size t_at vb x1) :
    gMi l D [(cI, .int)] y_C_tosses b_C_tosses 5 .int rm_C_tosses [.ref h_t, .int x1] [(h_t, .inr (1, [.ref h_b, .int t_size, .int t_at])), (h_b, .inl (cI, Nb, .inl vb))] (S := Int32) (fun u => [(h_t, .inr (1, [.ref h_b, .int t_size, .int u])), (h_b, .inl (cI, Nb, .inl vb))]) (fun r u => post r u) := by
  rw [wp_C_tosses] at hw
  refine gMi.of (by decide) (Nat.le_of_ble_eq_true rfl) (fun p e s m args below meth c A Q ls hx hb hml hown hts hN hK hA hP hD hret hl => ?_)
  have fx : CallFix p m c b_C_tosses 5 s args gG "TapeCounter" := ⟨hx, hb, hml, hown, hts⟩
  have hl : lv_has ls 5 [(0, .ref h_t), (1, .int x1)] := hl
  have hS : va_S A s.heap s.heap [] := va_S.rf
  refine lv_iconst (v := (nI 0)) hx hb d_C_tosses_0 (by decide) ?_
  refine lv_istore_n (lv' := [(2, .int (nI 0)), (0, .ref h_t), (1, .int x1)]) hx hb d_C_tosses_1 rfl hl (by decide) rfl (fun ls hl => ?_)
  refine lv_iconst (v := (nI 0)) hx hb d_C_tosses_2 (by decide) ?_
  refine lv_istore_n (lv' := [(3, .int (nI 0)), (2, .int (nI 0)), (0, .ref h_t), (1, .int x1)]) hx hb d_C_tosses_3 rfl hl (by decide) rfl (fun ls hl => ?_)
  obtain ⟨n_4, hw⟩ := hw
  have k_4 : ∀ (n_4 : Nat) (t_at : Int32) (x2 : Int32) (x3 : Int32), gL3 (wpF_C_tosses_4 post Nb t_size vb x1) n_4 t_at x2 x3 → ∀ (H : Heap) (locs : List Loc) (ls : Array Slot), va_P D gCl [(h_t, .inr (1, [.ref h_b, .int t_size, .int t_at])), (h_b, .inl (cI, Nb, .inl vb))] H → va_D A [(h_t, .inr (1, [.ref h_b, .int t_size, .int t_at])), (h_b, .inl (cI, Nb, .inl vb))] → va_S A s.heap H locs → lv_has ls 5 [(3, .int x3), (2, .int x2), (0, .ref h_t), (1, .int x1)] → W p l e rm_C_tosses s m args below meth c H locs 0 0 Q (F0 m 4 ls []) := by
    clear hw hP hD hS hl
    intro n_4
    induction n_4 with
    | zero => exact fun _ _ _ h => h.elim
    | succ n_4 ih_4 =>
      intro t_at x2 x3 hw H locs ls hP hD hS hl
      have hw : wpF_C_tosses_4 post Nb t_size vb x1 (gL3 (wpF_C_tosses_4 post Nb t_size vb x1) n_4) t_at x2 x3 := hw
      rw [wpF_C_tosses_4] at hw
      refine lv_iload_n hx hb d_C_tosses_4 rfl (lv_at hl 0 rfl) ?_
      refine lv_iload_n hx hb d_C_tosses_5 rfl (lv_at hl 3 rfl) ?_
      refine lv_icmp_ge (tgt := 34) hx hb d_C_tosses_6 (by decide) (fun c6 => ?_) (fun c6 => ?_)
      · have hw := hw.1 c6
        refine lv_iload_n hx hb d_C_tosses_34 rfl (lv_at hl 1 rfl) ?_
        exact hret _ _ _ t_at _ _ hw rfl hP hD hS d_C_tosses_35
      · have hw := hw.2 c6
        refine lv_aload_n hx hb d_C_tosses_9 rfl (lv_at hl 2 rfl) ?_
        refine g_cVi (wr := []) fx (c_T_readBit l D cI h_t h_b Nb t_size t_at vb _ hw) mf_T_readBit w_139 ⟨rfl, rfl⟩ ⟨Nat.le_of_ble_eq_true rfl, Nat.le_of_ble_eq_true rfl⟩ hN hK hA hP hD hS [0, 1] [] rfl rfl rfl rfl (by decide) 0 rfl rfl rfl rfl hl.1 (Nat.le_of_ble_eq_true rfl) d_C_tosses_10 ⟨Nat.zero_le _, Nat.zero_le _⟩ (fun r_1 u H locs hw hP hD hS => ?_)
        obtain ⟨tat_2, rfl⟩ : ∃ z, z = u := ⟨_, rfl⟩
        try dsimp only at hw
        have hP : va_P D gCl [(h_t, .inr (1, [.ref h_b, .int t_size, .int tat_2])), (h_b, .inl (cI, Nb, .inl vb))] H := hP
        have hD : va_D A [(h_t, .inr (1, [.ref h_b, .int t_size, .int tat_2])), (h_b, .inl (cI, Nb, .inl vb))] := hD
        refine lv_istore (lv' := [(4, .int r_1), (3, .int x3), (2, .int x2), (0, .ref h_t), (1, .int x1)]) hx hb d_C_tosses_13 hl (by decide) rfl (fun ls hl => ?_)
        refine lv_iload hx hb d_C_tosses_15 (lv_at hl 0 rfl) ?_
        refine lv_iconst (v := (-1)) hx hb d_C_tosses_17 (by decide) ?_
        refine lv_icmp_ne (tgt := 23) hx hb d_C_tosses_18 (by decide) (fun c18 => ?_) (fun c18 => ?_)
        · have hw := hw.1 c18
          refine lv_iload_n hx hb d_C_tosses_23 rfl (lv_at hl 2 rfl) ?_
          refine lv_iload hx hb d_C_tosses_24 (lv_at hl 0 rfl) ?_
          refine lv_iadd hx hb d_C_tosses_26 ?_
          refine lv_istore_n (lv' := [(2, .int (x2 + r_1)), (4, .int r_1), (3, .int x3), (0, .ref h_t), (1, .int x1)]) hx hb d_C_tosses_27 rfl hl (by decide) rfl (fun ls hl => ?_)
          refine lv_iinc (v := (x3 + (nI 1))) (lv' := [(3, .int (x3 + (nI 1))), (2, .int (x2 + r_1)), (4, .int r_1), (0, .ref h_t), (1, .int x1)]) hx hb d_C_tosses_28 hl (k := 2) rfl rfl (by decide) rfl (fun ls hl => ?_)
          refine lv_goto (tgt := 4) hx hb d_C_tosses_31 (by decide) ?_
          exact ih_4 _ _ _ hw _ _ _ hP hD hS (lv_sub hl [0, 1, 3, 4] rfl)
        · have hw := hw.2 c18
          refine lv_iconst (v := (-1)) hx hb d_C_tosses_21 (by decide) ?_
          exact hret _ _ _ tat_2 _ _ hw rfl hP hD hS d_C_tosses_22
  exact k_4 n_4 _ _ _ hw _ _ _ hP hD hS (lv_sub hl [0, 1, 2, 3] rfl)
def wpF_C_zerosBeforeOne_2 (post : Int32 → Int32 → Prop) (Nb : Nat) (t_size : Int32) (vb : Nat → Int32) (x1 : Int32) (K_2 : Int32 → Int32 → Prop) (t_at : Int32) (x2 : Int32) : Prop :=
  ((x1 ≤ x2 → post x1 t_at) ∧ (¬ x1 ≤ x2 → wp_T_readBit (fun r_1 tat_2 => ((¬ r_1 = (-1) → ((¬ r_1 = (nI 1) → K_2 tat_2 (x2 + (nI 1))) ∧ (r_1 = (nI 1) → post x2 tat_2))) ∧ (r_1 = (-1) → post (-1) tat_2))) Nb t_size t_at vb))
def wp_C_zerosBeforeOne (post : Int32 → Int32 → Prop) (Nb : Nat) (t_size : Int32) (t_at : Int32) (vb : Nat → Int32) (x1 : Int32) : Prop :=
  (∃ n, gL2 (wpF_C_zerosBeforeOne_2 post Nb t_size vb x1) n t_at (nI 0))
abbrev rm_C_zerosBeforeOne : Room := { frames := 1, cells := 0, slots := 0, locals := 21 }
theorem mf_C_zerosBeforeOne : gFS y_C_zerosBeforeOne b_C_zerosBeforeOne 4 (some .int) 2 := ⟨w_148, w_1, ⟨by decide, by decide, by decide +kernel⟩, w_147⟩
set_option maxHeartbeats 4000000 in
set_option maxRecDepth 100000 in
theorem c_C_zerosBeforeOne (l : Launch) (D : va_G) (cI : ClassId) (h_t : Nat) (h_b : Nat) (Nb : Nat) (t_size : Int32) (t_at : Int32) (vb : Nat → Int32) (x1 : Int32) (post : Int32 → Int32 → Prop) (hw : wp_C_zerosBeforeOne post Nb t_size t_at vb x1) :
    gMi l D [(cI, .int)] y_C_zerosBeforeOne b_C_zerosBeforeOne 4 .int rm_C_zerosBeforeOne [.ref h_t, .int x1] [(h_t, .inr (1, [.ref h_b, .int t_size, .int t_at])), (h_b, .inl (cI, Nb, .inl vb))] (S := Int32) (fun u => [(h_t, .inr (1, [.ref h_b, .int t_size, .int u])), (h_b, .inl (cI, Nb, .inl vb))]) (fun r u => post r u) := by
  rw [wp_C_zerosBeforeOne] at hw
  refine gMi.of (by decide) (Nat.le_of_ble_eq_true rfl) (fun p e s m args below meth c A Q ls hx hb hml hown hts hN hK hA hP hD hret hl => ?_)
  have fx : CallFix p m c b_C_zerosBeforeOne 4 s args gG "TapeCounter" := ⟨hx, hb, hml, hown, hts⟩
  have hl : lv_has ls 4 [(0, .ref h_t), (1, .int x1)] := hl
  have hS : va_S A s.heap s.heap [] := va_S.rf
  refine lv_iconst (v := (nI 0)) hx hb d_C_zerosBeforeOne_0 (by decide) ?_
  refine lv_istore_n (lv' := [(2, .int (nI 0)), (0, .ref h_t), (1, .int x1)]) hx hb d_C_zerosBeforeOne_1 rfl hl (by decide) rfl (fun ls hl => ?_)
  obtain ⟨n_2, hw⟩ := hw
  have k_2 : ∀ (n_2 : Nat) (t_at : Int32) (x2 : Int32), gL2 (wpF_C_zerosBeforeOne_2 post Nb t_size vb x1) n_2 t_at x2 → ∀ (H : Heap) (locs : List Loc) (ls : Array Slot), va_P D gCl [(h_t, .inr (1, [.ref h_b, .int t_size, .int t_at])), (h_b, .inl (cI, Nb, .inl vb))] H → va_D A [(h_t, .inr (1, [.ref h_b, .int t_size, .int t_at])), (h_b, .inl (cI, Nb, .inl vb))] → va_S A s.heap H locs → lv_has ls 4 [(2, .int x2), (0, .ref h_t), (1, .int x1)] → W p l e rm_C_zerosBeforeOne s m args below meth c H locs 0 0 Q (F0 m 2 ls []) := by
    clear hw hP hD hS hl
    intro n_2
    induction n_2 with
    | zero => exact fun _ _ h => h.elim
    | succ n_2 ih_2 =>
      intro t_at x2 hw H locs ls hP hD hS hl
      have hw : wpF_C_zerosBeforeOne_2 post Nb t_size vb x1 (gL2 (wpF_C_zerosBeforeOne_2 post Nb t_size vb x1) n_2) t_at x2 := hw
      rw [wpF_C_zerosBeforeOne_2] at hw
      refine lv_iload_n hx hb d_C_zerosBeforeOne_2 rfl (lv_at hl 0 rfl) ?_
      refine lv_iload_n hx hb d_C_zerosBeforeOne_3 rfl (lv_at hl 2 rfl) ?_
      refine lv_icmp_ge (tgt := 32) hx hb d_C_zerosBeforeOne_4 (by decide) (fun c4 => ?_) (fun c4 => ?_)
      · have hw := hw.1 c4
        refine lv_iload_n hx hb d_C_zerosBeforeOne_32 rfl (lv_at hl 2 rfl) ?_
        exact hret _ _ _ t_at _ _ hw rfl hP hD hS d_C_zerosBeforeOne_33
      · have hw := hw.2 c4
        refine lv_aload_n hx hb d_C_zerosBeforeOne_7 rfl (lv_at hl 1 rfl) ?_
        refine g_cVi (wr := []) fx (c_T_readBit l D cI h_t h_b Nb t_size t_at vb _ hw) mf_T_readBit w_139 ⟨rfl, rfl⟩ ⟨Nat.le_of_ble_eq_true rfl, Nat.le_of_ble_eq_true rfl⟩ hN hK hA hP hD hS [0, 1] [] rfl rfl rfl rfl (by decide) 0 rfl rfl rfl rfl hl.1 (Nat.le_of_ble_eq_true rfl) d_C_zerosBeforeOne_8 ⟨Nat.zero_le _, Nat.zero_le _⟩ (fun r_1 u H locs hw hP hD hS => ?_)
        obtain ⟨tat_2, rfl⟩ : ∃ z, z = u := ⟨_, rfl⟩
        try dsimp only at hw
        have hP : va_P D gCl [(h_t, .inr (1, [.ref h_b, .int t_size, .int tat_2])), (h_b, .inl (cI, Nb, .inl vb))] H := hP
        have hD : va_D A [(h_t, .inr (1, [.ref h_b, .int t_size, .int tat_2])), (h_b, .inl (cI, Nb, .inl vb))] := hD
        refine lv_istore_n (lv' := [(3, .int r_1), (2, .int x2), (0, .ref h_t), (1, .int x1)]) hx hb d_C_zerosBeforeOne_11 rfl hl (by decide) rfl (fun ls hl => ?_)
        refine lv_iload_n hx hb d_C_zerosBeforeOne_12 rfl (lv_at hl 0 rfl) ?_
        refine lv_iconst (v := (-1)) hx hb d_C_zerosBeforeOne_13 (by decide) ?_
        refine lv_icmp_ne (tgt := 19) hx hb d_C_zerosBeforeOne_14 (by decide) (fun c14 => ?_) (fun c14 => ?_)
        · have hw := hw.1 c14
          refine lv_iload_n hx hb d_C_zerosBeforeOne_19 rfl (lv_at hl 0 rfl) ?_
          refine lv_iconst (v := (nI 1)) hx hb d_C_zerosBeforeOne_20 (by decide) ?_
          refine lv_icmp_ne (tgt := 26) hx hb d_C_zerosBeforeOne_21 (by decide) (fun c21 => ?_) (fun c21 => ?_)
          · have hw := hw.1 c21
            refine lv_iinc (v := (x2 + (nI 1))) (lv' := [(2, .int (x2 + (nI 1))), (3, .int r_1), (0, .ref h_t), (1, .int x1)]) hx hb d_C_zerosBeforeOne_26 hl (k := 1) rfl rfl (by decide) rfl (fun ls hl => ?_)
            refine lv_goto (tgt := 2) hx hb d_C_zerosBeforeOne_29 (by decide) ?_
            exact ih_2 _ _ hw _ _ _ hP hD hS (lv_sub hl [0, 2, 3] rfl)
          · have hw := hw.2 c21
            refine lv_iload_n hx hb d_C_zerosBeforeOne_24 rfl (lv_at hl 1 rfl) ?_
            exact hret _ _ _ tat_2 _ _ hw rfl hP hD hS d_C_zerosBeforeOne_25
        · have hw := hw.2 c14
          refine lv_iconst (v := (-1)) hx hb d_C_zerosBeforeOne_17 (by decide) ?_
          exact hret _ _ _ tat_2 _ _ hw rfl hP hD hS d_C_zerosBeforeOne_18
  exact k_2 n_2 _ _ hw _ _ _ hP hD hS (lv_sub hl [0, 1, 2] rfl)
def wpF_C_choice_8 (post : Int32 → Int32 → Prop) (Nb : Nat) (t_size : Int32) (vb : Nat → Int32) (x1 : Int32) (x2 : Int32) (K_8 : Int32 → Int32 → Int32 → Int32 → Prop) (t_at : Int32) (x3 : Int32) (x4 : Int32) (x5 : Int32) : Prop :=
  ((x1 ≤ x5 → post x4 t_at) ∧ (¬ x1 ≤ x5 → wp_C_coin (fun r_1 tat_2 => ((¬ r_1 = (-1) → K_8 tat_2 (x3 + r_1) (x4 ||| (r_1 <<< (x5 &&& 31))) (x5 + (nI 1))) ∧ (r_1 = (-1) → post (-1) tat_2))) Nb t_size t_at vb (x2 - x3) (x1 - x5)))
def wp_C_choice (post : Int32 → Int32 → Prop) (Nb : Nat) (t_size : Int32) (t_at : Int32) (vb : Nat → Int32) (x1 : Int32) (x2 : Int32) : Prop :=
  (∃ n, gL4 (wpF_C_choice_8 post Nb t_size vb x1 x2) n t_at (nI 0) (nI 0) (nI 0))
abbrev rm_C_choice : Room := { frames := 2, cells := 0, slots := 0, locals := 47 }
theorem mf_C_choice : gFS y_C_choice b_C_choice 7 (some .int) 3 := ⟨w_159, w_1, ⟨by decide, by decide, by decide +kernel⟩, w_158⟩
set_option maxHeartbeats 4000000 in
set_option maxRecDepth 100000 in
theorem c_C_choice (l : Launch) (D : va_G) (cI : ClassId) (h_t : Nat) (h_b : Nat) (Nb : Nat) (t_size : Int32) (t_at : Int32) (vb : Nat → Int32) (x1 : Int32) (x2 : Int32) (post : Int32 → Int32 → Prop) (hw : wp_C_choice post Nb t_size t_at vb x1 x2) :
    gMi l D [(cI, .int)] y_C_choice b_C_choice 7 .int rm_C_choice [.ref h_t, .int x1, .int x2] [(h_t, .inr (1, [.ref h_b, .int t_size, .int t_at])), (h_b, .inl (cI, Nb, .inl vb))] (S := Int32) (fun u => [(h_t, .inr (1, [.ref h_b, .int t_size, .int u])), (h_b, .inl (cI, Nb, .inl vb))]) (fun r u => post r u) := by
  rw [wp_C_choice] at hw
  refine gMi.of (by decide) (Nat.le_of_ble_eq_true rfl) (fun p e s m args below meth c A Q ls hx hb hml hown hts hN hK hA hP hD hret hl => ?_)
  have fx : CallFix p m c b_C_choice 7 s args gG "TapeCounter" := ⟨hx, hb, hml, hown, hts⟩
  have hl : lv_has ls 7 [(0, .ref h_t), (1, .int x1), (2, .int x2)] := hl
  have hS : va_S A s.heap s.heap [] := va_S.rf
  refine lv_iconst (v := (nI 0)) hx hb d_C_choice_0 (by decide) ?_
  refine lv_istore_n (lv' := [(3, .int (nI 0)), (0, .ref h_t), (1, .int x1), (2, .int x2)]) hx hb d_C_choice_1 rfl hl (by decide) rfl (fun ls hl => ?_)
  refine lv_iconst (v := (nI 0)) hx hb d_C_choice_2 (by decide) ?_
  refine lv_istore (lv' := [(4, .int (nI 0)), (3, .int (nI 0)), (0, .ref h_t), (1, .int x1), (2, .int x2)]) hx hb d_C_choice_3 hl (by decide) rfl (fun ls hl => ?_)
  refine lv_iconst (v := (nI 0)) hx hb d_C_choice_5 (by decide) ?_
  refine lv_istore (lv' := [(5, .int (nI 0)), (4, .int (nI 0)), (3, .int (nI 0)), (0, .ref h_t), (1, .int x1), (2, .int x2)]) hx hb d_C_choice_6 hl (by decide) rfl (fun ls hl => ?_)
  obtain ⟨n_8, hw⟩ := hw
  have k_8 : ∀ (n_8 : Nat) (t_at : Int32) (x3 : Int32) (x4 : Int32) (x5 : Int32), gL4 (wpF_C_choice_8 post Nb t_size vb x1 x2) n_8 t_at x3 x4 x5 → ∀ (H : Heap) (locs : List Loc) (ls : Array Slot), va_P D gCl [(h_t, .inr (1, [.ref h_b, .int t_size, .int t_at])), (h_b, .inl (cI, Nb, .inl vb))] H → va_D A [(h_t, .inr (1, [.ref h_b, .int t_size, .int t_at])), (h_b, .inl (cI, Nb, .inl vb))] → va_S A s.heap H locs → lv_has ls 7 [(5, .int x5), (4, .int x4), (3, .int x3), (0, .ref h_t), (1, .int x1), (2, .int x2)] → W p l e rm_C_choice s m args below meth c H locs 0 0 Q (F0 m 8 ls []) := by
    clear hw hP hD hS hl
    intro n_8
    induction n_8 with
    | zero => exact fun _ _ _ _ h => h.elim
    | succ n_8 ih_8 =>
      intro t_at x3 x4 x5 hw H locs ls hP hD hS hl
      have hw : wpF_C_choice_8 post Nb t_size vb x1 x2 (gL4 (wpF_C_choice_8 post Nb t_size vb x1 x2) n_8) t_at x3 x4 x5 := hw
      rw [wpF_C_choice_8] at hw
      refine lv_iload hx hb d_C_choice_8 (lv_at hl 0 rfl) ?_
      refine lv_iload_n hx hb d_C_choice_10 rfl (lv_at hl 4 rfl) ?_
      refine lv_icmp_ge (tgt := 56) hx hb d_C_choice_11 (by decide) (fun c11 => ?_) (fun c11 => ?_)
      · have hw := hw.1 c11
        refine lv_iload hx hb d_C_choice_56 (lv_at hl 1 rfl) ?_
        exact hret _ _ _ t_at _ _ hw rfl hP hD hS d_C_choice_58
      · have hw := hw.2 c11
        refine lv_aload_n hx hb d_C_choice_14 rfl (lv_at hl 3 rfl) ?_
        refine lv_iload_n hx hb d_C_choice_15 rfl (lv_at hl 5 rfl) ?_
        refine lv_iload_n hx hb d_C_choice_16 rfl (lv_at hl 2 rfl) ?_
        refine lv_isub hx hb d_C_choice_17 ?_
        refine lv_iload_n hx hb d_C_choice_18 rfl (lv_at hl 4 rfl) ?_
        refine lv_iload hx hb d_C_choice_19 (lv_at hl 0 rfl) ?_
        refine lv_isub hx hb d_C_choice_21 ?_
        refine g_cSi (wr := []) fx (c_C_coin l D cI h_t h_b Nb t_size t_at vb (x2 - x3) (x1 - x5) _ hw) mf_C_coin w_140 ⟨rfl, rfl⟩ ⟨Nat.le_of_ble_eq_true rfl, Nat.le_of_ble_eq_true rfl⟩ hN hK hA hP hD hS [0, 1] [] rfl rfl rfl rfl (by decide) rfl rfl hl.1 (Nat.le_of_ble_eq_true rfl) d_C_choice_22 ⟨Nat.zero_le _, Nat.zero_le _⟩ (fun r_1 u H locs hw hP hD hS => ?_)
        obtain ⟨tat_2, rfl⟩ : ∃ z, z = u := ⟨_, rfl⟩
        try dsimp only at hw
        have hP : va_P D gCl [(h_t, .inr (1, [.ref h_b, .int t_size, .int tat_2])), (h_b, .inl (cI, Nb, .inl vb))] H := hP
        have hD : va_D A [(h_t, .inr (1, [.ref h_b, .int t_size, .int tat_2])), (h_b, .inl (cI, Nb, .inl vb))] := hD
        refine lv_istore (lv' := [(6, .int r_1), (5, .int x5), (4, .int x4), (3, .int x3), (0, .ref h_t), (1, .int x1), (2, .int x2)]) hx hb d_C_choice_25 hl (by decide) rfl (fun ls hl => ?_)
        refine lv_iload hx hb d_C_choice_27 (lv_at hl 0 rfl) ?_
        refine lv_iconst (v := (-1)) hx hb d_C_choice_29 (by decide) ?_
        refine lv_icmp_ne (tgt := 35) hx hb d_C_choice_30 (by decide) (fun c30 => ?_) (fun c30 => ?_)
        · have hw := hw.1 c30
          refine lv_iload_n hx hb d_C_choice_35 rfl (lv_at hl 3 rfl) ?_
          refine lv_iload hx hb d_C_choice_36 (lv_at hl 0 rfl) ?_
          refine lv_iadd hx hb d_C_choice_38 ?_
          refine lv_istore_n (lv' := [(3, .int (x3 + r_1)), (6, .int r_1), (5, .int x5), (4, .int x4), (0, .ref h_t), (1, .int x1), (2, .int x2)]) hx hb d_C_choice_39 rfl hl (by decide) rfl (fun ls hl => ?_)
          refine lv_iload hx hb d_C_choice_40 (lv_at hl 3 rfl) ?_
          refine lv_iload hx hb d_C_choice_42 (lv_at hl 1 rfl) ?_
          refine lv_iload hx hb d_C_choice_44 (lv_at hl 2 rfl) ?_
          refine lv_ishl hx hb d_C_choice_46 ?_
          refine lv_ior hx hb d_C_choice_47 ?_
          refine lv_istore (lv' := [(4, .int (x4 ||| (r_1 <<< (x5 &&& 31)))), (3, .int (x3 + r_1)), (6, .int r_1), (5, .int x5), (0, .ref h_t), (1, .int x1), (2, .int x2)]) hx hb d_C_choice_48 hl (by decide) rfl (fun ls hl => ?_)
          refine lv_iinc (v := (x5 + (nI 1))) (lv' := [(5, .int (x5 + (nI 1))), (4, .int (x4 ||| (r_1 <<< (x5 &&& 31)))), (3, .int (x3 + r_1)), (6, .int r_1), (0, .ref h_t), (1, .int x1), (2, .int x2)]) hx hb d_C_choice_50 hl (k := 3) rfl rfl (by decide) rfl (fun ls hl => ?_)
          refine lv_goto (tgt := 8) hx hb d_C_choice_53 (by decide) ?_
          exact ih_8 _ _ _ _ hw _ _ _ hP hD hS (lv_sub hl [0, 1, 2, 4, 5, 6] rfl)
        · have hw := hw.2 c30
          refine lv_iconst (v := (-1)) hx hb d_C_choice_33 (by decide) ?_
          exact hret _ _ _ tat_2 _ _ hw rfl hP hD hS d_C_choice_34
  exact k_8 n_8 _ _ _ _ hw _ _ _ hP hD hS (lv_sub hl [0, 1, 2, 3, 4, 5] rfl)
end
section
def wpF_C_weightSum_4 (post : Int32 → Prop) (vw : Nat → Int32) (K_4 : Int32 → Int32 → Prop) (x1 : Int32) (x2 : Int32) : Prop :=
  (((nI 8) ≤ x2 → post x1) ∧ (¬ (nI 8) ≤ x2 → (vp_in x2 8 ∧ K_4 (x1 + (vw (x2).toNatClampNeg)) (x2 + (nI 1)))))
def wp_C_weightSum (post : Int32 → Prop) (c_latestSpent : Int32) (vw : Nat → Int32) : Prop :=
  (∃ n, gL2 (wpF_C_weightSum_4 post vw) n (nI 0) (nI 0))
abbrev rm_C_weightSum : Room := { frames := 0, cells := 0, slots := 0, locals := 0 }
theorem mf_C_weightSum : gFV y_C_weightSum b_C_weightSum 3 (some .int) 0 := ⟨w_108, w_1, ⟨by decide, by decide, by decide +kernel⟩, w_107, ws_1_0⟩
set_option maxHeartbeats 4000000 in
set_option maxRecDepth 100000 in
theorem c_C_weightSum (l : Launch) (D : va_G) (cI : ClassId) (h_c : Nat) (h_w : Nat) (c_row : Nat) (c_tape : Nat) (c_trial : Nat) (c_tally : Nat) (c_latestSpent : Int32) (vw : Nat → Int32) (post : Int32 → Prop) (hw : wp_C_weightSum post c_latestSpent vw) :
    gMi l D [(cI, .int)] y_C_weightSum b_C_weightSum 3 .int rm_C_weightSum [.ref h_c] [(h_c, .inr (2, [.ref h_w, .ref c_row, .ref c_tape, .ref c_trial, .ref c_tally, .int c_latestSpent])), (h_w, .inl (cI, 8, .inl vw))] (S := Unit) (fun u => [(h_c, .inr (2, [.ref h_w, .ref c_row, .ref c_tape, .ref c_trial, .ref c_tally, .int c_latestSpent])), (h_w, .inl (cI, 8, .inl vw))]) (fun r u => post r) := by
  rw [wp_C_weightSum] at hw
  refine gMi.of (by decide) (Nat.le_of_ble_eq_true rfl) (fun p e s m args below meth c A Q ls hx hb hml hown hts hN hK hA hP hD hret hl => ?_)
  have fx : CallFix p m c b_C_weightSum 3 s args gG "TapeCounter" := ⟨hx, hb, hml, hown, hts⟩
  have hl : lv_has ls 3 [(0, .ref h_c)] := hl
  have hS : va_S A s.heap s.heap [] := va_S.rf
  refine lv_iconst (v := (nI 0)) hx hb d_C_weightSum_0 (by decide) ?_
  refine lv_istore_n (lv' := [(1, .int (nI 0)), (0, .ref h_c)]) hx hb d_C_weightSum_1 rfl hl (by decide) rfl (fun ls hl => ?_)
  refine lv_iconst (v := (nI 0)) hx hb d_C_weightSum_2 (by decide) ?_
  refine lv_istore_n (lv' := [(2, .int (nI 0)), (1, .int (nI 0)), (0, .ref h_c)]) hx hb d_C_weightSum_3 rfl hl (by decide) rfl (fun ls hl => ?_)
  obtain ⟨n_4, hw⟩ := hw
  have k_4 : ∀ (n_4 : Nat) (x1 : Int32) (x2 : Int32), gL2 (wpF_C_weightSum_4 post vw) n_4 x1 x2 → ∀ (H : Heap) (locs : List Loc) (ls : Array Slot), va_P D gCl [(h_c, .inr (2, [.ref h_w, .ref c_row, .ref c_tape, .ref c_trial, .ref c_tally, .int c_latestSpent])), (h_w, .inl (cI, 8, .inl vw))] H → va_D A [(h_c, .inr (2, [.ref h_w, .ref c_row, .ref c_tape, .ref c_trial, .ref c_tally, .int c_latestSpent])), (h_w, .inl (cI, 8, .inl vw))] → va_S A s.heap H locs → lv_has ls 3 [(2, .int x2), (1, .int x1), (0, .ref h_c)] → W p l e rm_C_weightSum s m args below meth c H locs 0 0 Q (F0 m 4 ls []) := by
    clear hw hP hD hS hl
    intro n_4
    induction n_4 with
    | zero => exact fun _ _ h => h.elim
    | succ n_4 ih_4 =>
      intro x1 x2 hw H locs ls hP hD hS hl
      have hw : wpF_C_weightSum_4 post vw (gL2 (wpF_C_weightSum_4 post vw) n_4) x1 x2 := hw
      rw [wpF_C_weightSum_4] at hw
      refine lv_iload_n hx hb d_C_weightSum_4 rfl (lv_at hl 0 rfl) ?_
      refine lv_bipush (v := (nI 8)) hx hb d_C_weightSum_5 (by decide) ?_
      refine lv_icmp_ge (tgt := 25) hx hb d_C_weightSum_7 (by decide) (fun c7 => ?_) (fun c7 => ?_)
      · have hw := hw.1 c7
        refine lv_iload_n hx hb d_C_weightSum_25 rfl (lv_at hl 1 rfl) ?_
        exact hret _ _ _ () _ _ hw rfl hP hD hS d_C_weightSum_26
      · have hw := hw.2 c7
        refine lv_iload_n hx hb d_C_weightSum_10 rfl (lv_at hl 1 rfl) ?_
        refine lv_aload_n hx hb d_C_weightSum_11 rfl (lv_at hl 2 rfl) ?_
        refine gGet fx hK hP 0 rfl inC rfl (k := 0) (by decide) w_55 rfl d_C_weightSum_12 ?_
        refine lv_iload_n hx hb d_C_weightSum_15 rfl (lv_at hl 0 rfl) ?_
        refine va_iald hx hb hK hP 1 0 rfl rfl hw.1 d_C_weightSum_16 ?_
        have hw := hw.2
        refine lv_iadd hx hb d_C_weightSum_17 ?_
        refine lv_istore_n (lv' := [(1, .int (x1 + (vw (x2).toNatClampNeg))), (2, .int x2), (0, .ref h_c)]) hx hb d_C_weightSum_18 rfl hl (by decide) rfl (fun ls hl => ?_)
        refine lv_iinc (v := (x2 + (nI 1))) (lv' := [(2, .int (x2 + (nI 1))), (1, .int (x1 + (vw (x2).toNatClampNeg))), (0, .ref h_c)]) hx hb d_C_weightSum_19 hl (k := 1) rfl rfl (by decide) rfl (fun ls hl => ?_)
        refine lv_goto (tgt := 4) hx hb d_C_weightSum_22 (by decide) ?_
        exact ih_4 _ _ hw _ _ _ hP hD hS (lv_sub hl [0, 1, 2] rfl)
  exact k_4 n_4 _ _ hw _ _ _ hP hD hS (lv_sub hl [0, 1, 2] rfl)
def wp_C_weigh (post : Int32 → (Nat → Int32) → Prop) (c_latestSpent : Int32) (vw : Nat → Int32) (x1 : Int32) (x2 : Int32) : Prop :=
  wp_C_isWithin (fun r_1 => ((r_1 = 0 → post (nI 0) vw) ∧ (¬ r_1 = 0 → wp_C_isWithin (fun r_2 => ((¬ r_2 = 0 → (vp_in x1 8 ∧ post (nI 1) (upd vw (x1).toNatClampNeg x2))) ∧ (r_2 = 0 → post (nI 0) vw))) x2 (nI 0) (nI 15)))) x1 (nI 0) (nI 7)
abbrev rm_C_weigh : Room := { frames := 1, cells := 0, slots := 0, locals := 22 }
theorem mf_C_weigh : gFV y_C_weigh b_C_weigh 3 (some .boolean) 2 := ⟨w_77, w_1, ⟨by decide, by decide, by decide +kernel⟩, w_75, w_76⟩
set_option maxHeartbeats 4000000 in
set_option maxRecDepth 100000 in
theorem c_C_weigh (l : Launch) (D : va_G) (cI : ClassId) (h_c : Nat) (h_w : Nat) (c_row : Nat) (c_tape : Nat) (c_trial : Nat) (c_tally : Nat) (c_latestSpent : Int32) (vw : Nat → Int32) (x1 : Int32) (x2 : Int32) (post : Int32 → (Nat → Int32) → Prop) (hw : wp_C_weigh post c_latestSpent vw x1 x2) :
    gMi l D [(cI, .int)] y_C_weigh b_C_weigh 3 .boolean rm_C_weigh [.ref h_c, .int x1, .int x2] [(h_c, .inr (2, [.ref h_w, .ref c_row, .ref c_tape, .ref c_trial, .ref c_tally, .int c_latestSpent])), (h_w, .inl (cI, 8, .inl vw))] (S := (Nat → Int32)) (fun u => [(h_c, .inr (2, [.ref h_w, .ref c_row, .ref c_tape, .ref c_trial, .ref c_tally, .int c_latestSpent])), (h_w, .inl (cI, 8, .inl u))]) (fun r u => post r u) := by
  rw [wp_C_weigh] at hw
  refine gMi.of (by decide) (Nat.le_of_ble_eq_true rfl) (fun p e s m args below meth c A Q ls hx hb hml hown hts hN hK hA hP hD hret hl => ?_)
  have fx : CallFix p m c b_C_weigh 3 s args gG "TapeCounter" := ⟨hx, hb, hml, hown, hts⟩
  have hl : lv_has ls 3 [(0, .ref h_c), (1, .int x1), (2, .int x2)] := hl
  have hS : va_S A s.heap s.heap [] := va_S.rf
  refine lv_iload_n hx hb d_C_weigh_0 rfl (lv_at hl 1 rfl) ?_
  refine lv_iconst (v := (nI 0)) hx hb d_C_weigh_1 (by decide) ?_
  refine lv_bipush (v := (nI 7)) hx hb d_C_weigh_2 (by decide) ?_
  refine g_cSi (wr := [(h_c, .inr (2, [.ref h_w, .ref c_row, .ref c_tape, .ref c_trial, .ref c_tally, .int c_latestSpent])), (h_w, .inl (cI, 8, .inl vw))]) fx (c_C_isWithin l D cI  x1 (nI 0) (nI 7) _ hw) mf_C_isWithin w_78 ⟨rfl, rfl⟩ ⟨Nat.le_of_ble_eq_true rfl, Nat.le_of_ble_eq_true rfl⟩ hN hK hA hP hD hS [] [0, 1] rfl rfl rfl rfl (by decide) rfl rfl hl.1 (Nat.le_of_ble_eq_true rfl) d_C_weigh_4 ⟨Nat.zero_le _, Nat.zero_le _⟩ (fun r_1 u H locs hw hP hD hS => ?_)
  try dsimp only at hw
  have hP : va_P D gCl [(h_c, .inr (2, [.ref h_w, .ref c_row, .ref c_tape, .ref c_trial, .ref c_tally, .int c_latestSpent])), (h_w, .inl (cI, 8, .inl vw))] H := hP
  have hD : va_D A [(h_c, .inr (2, [.ref h_w, .ref c_row, .ref c_tape, .ref c_trial, .ref c_tally, .int c_latestSpent])), (h_w, .inl (cI, 8, .inl vw))] := hD
  refine lv_if_eq (tgt := 20) hx hb d_C_weigh_7 (by decide) (fun c7 => ?_) (fun c7 => ?_)
  · have hw := hw.1 c7
    refine lv_iconst (v := (nI 0)) hx hb d_C_weigh_20 (by decide) ?_
    exact hret _ _ _ vw _ _ hw rfl hP hD hS d_C_weigh_21
  · have hw := hw.2 c7
    refine lv_iload_n hx hb d_C_weigh_10 rfl (lv_at hl 2 rfl) ?_
    refine lv_iconst (v := (nI 0)) hx hb d_C_weigh_11 (by decide) ?_
    refine lv_bipush (v := (nI 15)) hx hb d_C_weigh_12 (by decide) ?_
    refine g_cSi (wr := [(h_c, .inr (2, [.ref h_w, .ref c_row, .ref c_tape, .ref c_trial, .ref c_tally, .int c_latestSpent])), (h_w, .inl (cI, 8, .inl vw))]) fx (c_C_isWithin l D cI  x2 (nI 0) (nI 15) _ hw) mf_C_isWithin w_78 ⟨rfl, rfl⟩ ⟨Nat.le_of_ble_eq_true rfl, Nat.le_of_ble_eq_true rfl⟩ hN hK hA hP hD hS [] [0, 1] rfl rfl rfl rfl (by decide) rfl rfl hl.1 (Nat.le_of_ble_eq_true rfl) d_C_weigh_14 ⟨Nat.zero_le _, Nat.zero_le _⟩ (fun r_2 u H locs hw hP hD hS => ?_)
    try dsimp only at hw
    have hP : va_P D gCl [(h_c, .inr (2, [.ref h_w, .ref c_row, .ref c_tape, .ref c_trial, .ref c_tally, .int c_latestSpent])), (h_w, .inl (cI, 8, .inl vw))] H := hP
    have hD : va_D A [(h_c, .inr (2, [.ref h_w, .ref c_row, .ref c_tape, .ref c_trial, .ref c_tally, .int c_latestSpent])), (h_w, .inl (cI, 8, .inl vw))] := hD
    refine lv_if_ne (tgt := 22) hx hb d_C_weigh_17 (by decide) (fun c17 => ?_) (fun c17 => ?_)
    · have hw := hw.1 c17
      refine lv_aload_n hx hb d_C_weigh_22 rfl (lv_at hl 0 rfl) ?_
      refine gGet fx hK hP 0 rfl inC rfl (k := 0) (by decide) w_55 rfl d_C_weigh_23 ?_
      refine lv_iload_n hx hb d_C_weigh_26 rfl (lv_at hl 1 rfl) ?_
      refine lv_iload_n hx hb d_C_weigh_27 rfl (lv_at hl 2 rfl) ?_
      refine va_iast hx hb hK hP hD hS 1 0 rfl rfl hw.1 d_C_weigh_28 (fun H locs hP hD hS => ?_)
      have hw := hw.2
      have hP : va_P D gCl [(h_c, .inr (2, [.ref h_w, .ref c_row, .ref c_tape, .ref c_trial, .ref c_tally, .int c_latestSpent])), (h_w, .inl (cI, 8, .inl (upd vw (x1).toNatClampNeg x2)))] H := hP
      have hD : va_D A [(h_c, .inr (2, [.ref h_w, .ref c_row, .ref c_tape, .ref c_trial, .ref c_tally, .int c_latestSpent])), (h_w, .inl (cI, 8, .inl (upd vw (x1).toNatClampNeg x2)))] := hD
      refine lv_iconst (v := (nI 1)) hx hb d_C_weigh_29 (by decide) ?_
      exact hret _ _ _ (upd vw (x1).toNatClampNeg x2) _ _ hw rfl hP hD hS d_C_weigh_30
    · have hw := hw.2 c17
      refine lv_iconst (v := (nI 0)) hx hb d_C_weigh_20 (by decide) ?_
      exact hret _ _ _ vw _ _ hw rfl hP hD hS d_C_weigh_21
def wp_C_weight (post : Int32 → Prop) (c_latestSpent : Int32) (vw : Nat → Int32) (x1 : Int32) : Prop :=
  wp_C_isWithin (fun r_1 => ((r_1 = 0 → post (-1)) ∧ (¬ r_1 = 0 → (vp_in x1 8 ∧ post (vw (x1).toNatClampNeg))))) x1 (nI 0) (nI 7)
abbrev rm_C_weight : Room := { frames := 1, cells := 0, slots := 0, locals := 22 }
theorem mf_C_weight : gFV y_C_weight b_C_weight 2 (some .int) 1 := ⟨w_84, w_1, ⟨by decide, by decide, by decide +kernel⟩, w_82, w_83⟩
set_option maxHeartbeats 4000000 in
set_option maxRecDepth 100000 in
theorem c_C_weight (l : Launch) (D : va_G) (cI : ClassId) (h_c : Nat) (h_w : Nat) (c_row : Nat) (c_tape : Nat) (c_trial : Nat) (c_tally : Nat) (c_latestSpent : Int32) (vw : Nat → Int32) (x1 : Int32) (post : Int32 → Prop) (hw : wp_C_weight post c_latestSpent vw x1) :
    gMi l D [(cI, .int)] y_C_weight b_C_weight 2 .int rm_C_weight [.ref h_c, .int x1] [(h_c, .inr (2, [.ref h_w, .ref c_row, .ref c_tape, .ref c_trial, .ref c_tally, .int c_latestSpent])), (h_w, .inl (cI, 8, .inl vw))] (S := Unit) (fun u => [(h_c, .inr (2, [.ref h_w, .ref c_row, .ref c_tape, .ref c_trial, .ref c_tally, .int c_latestSpent])), (h_w, .inl (cI, 8, .inl vw))]) (fun r u => post r) := by
  rw [wp_C_weight] at hw
  refine gMi.of (by decide) (Nat.le_of_ble_eq_true rfl) (fun p e s m args below meth c A Q ls hx hb hml hown hts hN hK hA hP hD hret hl => ?_)
  have fx : CallFix p m c b_C_weight 2 s args gG "TapeCounter" := ⟨hx, hb, hml, hown, hts⟩
  have hl : lv_has ls 2 [(0, .ref h_c), (1, .int x1)] := hl
  have hS : va_S A s.heap s.heap [] := va_S.rf
  refine lv_iload_n hx hb d_C_weight_0 rfl (lv_at hl 1 rfl) ?_
  refine lv_iconst (v := (nI 0)) hx hb d_C_weight_1 (by decide) ?_
  refine lv_bipush (v := (nI 7)) hx hb d_C_weight_2 (by decide) ?_
  refine g_cSi (wr := [(h_c, .inr (2, [.ref h_w, .ref c_row, .ref c_tape, .ref c_trial, .ref c_tally, .int c_latestSpent])), (h_w, .inl (cI, 8, .inl vw))]) fx (c_C_isWithin l D cI  x1 (nI 0) (nI 7) _ hw) mf_C_isWithin w_78 ⟨rfl, rfl⟩ ⟨Nat.le_of_ble_eq_true rfl, Nat.le_of_ble_eq_true rfl⟩ hN hK hA hP hD hS [] [0, 1] rfl rfl rfl rfl (by decide) rfl rfl hl.1 (Nat.le_of_ble_eq_true rfl) d_C_weight_4 ⟨Nat.zero_le _, Nat.zero_le _⟩ (fun r_1 u H locs hw hP hD hS => ?_)
  try dsimp only at hw
  have hP : va_P D gCl [(h_c, .inr (2, [.ref h_w, .ref c_row, .ref c_tape, .ref c_trial, .ref c_tally, .int c_latestSpent])), (h_w, .inl (cI, 8, .inl vw))] H := hP
  have hD : va_D A [(h_c, .inr (2, [.ref h_w, .ref c_row, .ref c_tape, .ref c_trial, .ref c_tally, .int c_latestSpent])), (h_w, .inl (cI, 8, .inl vw))] := hD
  refine lv_if_eq (tgt := 19) hx hb d_C_weight_7 (by decide) (fun c7 => ?_) (fun c7 => ?_)
  · have hw := hw.1 c7
    refine lv_iconst (v := (-1)) hx hb d_C_weight_19 (by decide) ?_
    exact hret _ _ _ () _ _ hw rfl hP hD hS d_C_weight_20
  · have hw := hw.2 c7
    refine lv_aload_n hx hb d_C_weight_10 rfl (lv_at hl 0 rfl) ?_
    refine gGet fx hK hP 0 rfl inC rfl (k := 0) (by decide) w_55 rfl d_C_weight_11 ?_
    refine lv_iload_n hx hb d_C_weight_14 rfl (lv_at hl 1 rfl) ?_
    refine va_iald hx hb hK hP 1 0 rfl rfl hw.1 d_C_weight_15 ?_
    have hw := hw.2
    refine lv_goto (tgt := 20) hx hb d_C_weight_16 (by decide) ?_
    exact hret _ _ _ () _ _ hw rfl hP hD hS d_C_weight_20
def wp_C_feed (post : Int32 → Int32 → (Nat → Int32) → Prop) (Nb : Nat) (c_latestSpent : Int32) (t_size : Int32) (t_at : Int32) (vb : Nat → Int32) (x1 : Int32) (x2 : Int32) : Prop :=
  wp_T_append (fun r_1 tsize_2 vb_3 => ((r_1 = 0 → post (-1) tsize_2 vb_3) ∧ (¬ r_1 = 0 → wp_T_size (fun r_4 => post r_4 tsize_2 vb_3) tsize_2 t_at))) Nb t_size t_at vb x1 x2
abbrev rm_C_feed : Room := { frames := 1, cells := 0, slots := 0, locals := 23 }
theorem mf_C_feed : gFV y_C_feed b_C_feed 3 (some .int) 2 := ⟨w_88, w_1, ⟨by decide, by decide, by decide +kernel⟩, w_86, w_87⟩
set_option maxHeartbeats 4000000 in
set_option maxRecDepth 100000 in
theorem c_C_feed (l : Launch) (D : va_G) (cI : ClassId) (h_c : Nat) (h_t : Nat) (h_b : Nat) (c_weights : Nat) (c_row : Nat) (c_trial : Nat) (c_tally : Nat) (Nb : Nat) (c_latestSpent : Int32) (t_size : Int32) (t_at : Int32) (vb : Nat → Int32) (x1 : Int32) (x2 : Int32) (post : Int32 → Int32 → (Nat → Int32) → Prop) (hw : wp_C_feed post Nb c_latestSpent t_size t_at vb x1 x2) :
    gMi l D [(cI, .int)] y_C_feed b_C_feed 3 .int rm_C_feed [.ref h_c, .int x1, .int x2] [(h_c, .inr (2, [.ref c_weights, .ref c_row, .ref h_t, .ref c_trial, .ref c_tally, .int c_latestSpent])), (h_t, .inr (1, [.ref h_b, .int t_size, .int t_at])), (h_b, .inl (cI, Nb, .inl vb))] (S := Int32 × (Nat → Int32)) (fun u => [(h_c, .inr (2, [.ref c_weights, .ref c_row, .ref h_t, .ref c_trial, .ref c_tally, .int c_latestSpent])), (h_t, .inr (1, [.ref h_b, .int u.1, .int t_at])), (h_b, .inl (cI, Nb, .inl u.2))]) (fun r u => post r u.1 u.2) := by
  rw [wp_C_feed] at hw
  refine gMi.of (by decide) (Nat.le_of_ble_eq_true rfl) (fun p e s m args below meth c A Q ls hx hb hml hown hts hN hK hA hP hD hret hl => ?_)
  have fx : CallFix p m c b_C_feed 3 s args gG "TapeCounter" := ⟨hx, hb, hml, hown, hts⟩
  have hl : lv_has ls 3 [(0, .ref h_c), (1, .int x1), (2, .int x2)] := hl
  have hS : va_S A s.heap s.heap [] := va_S.rf
  refine lv_aload_n hx hb d_C_feed_0 rfl (lv_at hl 0 rfl) ?_
  refine gGet fx hK hP 0 rfl inC rfl (k := 2) (by decide) w_57 rfl d_C_feed_1 ?_
  refine lv_iload_n hx hb d_C_feed_4 rfl (lv_at hl 1 rfl) ?_
  refine lv_iload_n hx hb d_C_feed_5 rfl (lv_at hl 2 rfl) ?_
  refine g_cVi (wr := [(h_c, .inr (2, [.ref c_weights, .ref c_row, .ref h_t, .ref c_trial, .ref c_tally, .int c_latestSpent]))]) fx (c_T_append l D cI h_t h_b Nb t_size t_at vb x1 x2 _ hw) mf_T_append w_89 ⟨rfl, rfl⟩ ⟨Nat.le_of_ble_eq_true rfl, Nat.le_of_ble_eq_true rfl⟩ hN hK hA hP hD hS [1, 2] [0] rfl rfl rfl rfl (by decide) 0 rfl rfl rfl rfl hl.1 (Nat.le_of_ble_eq_true rfl) d_C_feed_6 ⟨Nat.zero_le _, Nat.zero_le _⟩ (fun r_1 u H locs hw hP hD hS => ?_)
  obtain ⟨tsize_2, vb_3⟩ := u
  try dsimp only at hw
  have hP : va_P D gCl [(h_c, .inr (2, [.ref c_weights, .ref c_row, .ref h_t, .ref c_trial, .ref c_tally, .int c_latestSpent])), (h_t, .inr (1, [.ref h_b, .int tsize_2, .int t_at])), (h_b, .inl (cI, Nb, .inl vb_3))] H := hP
  have hD : va_D A [(h_c, .inr (2, [.ref c_weights, .ref c_row, .ref h_t, .ref c_trial, .ref c_tally, .int c_latestSpent])), (h_t, .inr (1, [.ref h_b, .int tsize_2, .int t_at])), (h_b, .inl (cI, Nb, .inl vb_3))] := hD
  refine lv_if_eq (tgt := 22) hx hb d_C_feed_9 (by decide) (fun c9 => ?_) (fun c9 => ?_)
  · have hw := hw.1 c9
    refine lv_iconst (v := (-1)) hx hb d_C_feed_22 (by decide) ?_
    exact hret _ _ _ (tsize_2, vb_3) _ _ hw rfl hP hD hS d_C_feed_23
  · have hw := hw.2 c9
    refine lv_aload_n hx hb d_C_feed_12 rfl (lv_at hl 0 rfl) ?_
    refine gGet fx hK hP 0 rfl inC rfl (k := 2) (by decide) w_57 rfl d_C_feed_13 ?_
    refine g_cVi (wr := [(h_c, .inr (2, [.ref c_weights, .ref c_row, .ref h_t, .ref c_trial, .ref c_tally, .int c_latestSpent])), (h_b, .inl (cI, Nb, .inl vb_3))]) fx (c_T_size l D cI h_t h_b tsize_2 t_at _ hw) mf_T_size w_93 ⟨rfl, rfl⟩ ⟨Nat.le_of_ble_eq_true rfl, Nat.le_of_ble_eq_true rfl⟩ hN hK hA hP hD hS [1] [0, 2] rfl rfl rfl rfl (by decide) 0 rfl rfl rfl rfl hl.1 (Nat.le_of_ble_eq_true rfl) d_C_feed_16 ⟨Nat.zero_le _, Nat.zero_le _⟩ (fun r_4 u H locs hw hP hD hS => ?_)
    try dsimp only at hw
    have hP : va_P D gCl [(h_c, .inr (2, [.ref c_weights, .ref c_row, .ref h_t, .ref c_trial, .ref c_tally, .int c_latestSpent])), (h_b, .inl (cI, Nb, .inl vb_3)), (h_t, .inr (1, [.ref h_b, .int tsize_2, .int t_at]))] H := hP
    have hD : va_D A [(h_c, .inr (2, [.ref c_weights, .ref c_row, .ref h_t, .ref c_trial, .ref c_tally, .int c_latestSpent])), (h_b, .inl (cI, Nb, .inl vb_3)), (h_t, .inr (1, [.ref h_b, .int tsize_2, .int t_at]))] := hD
    refine lv_goto (tgt := 23) hx hb d_C_feed_19 (by decide) ?_
    exact hret _ _ _ (tsize_2, vb_3) _ _ hw rfl (gSubP hP [0, 2, 1] rfl) (hD.sub [0, 2, 1] rfl rfl) hS d_C_feed_23
def wp_C_left (post : Int32 → Prop) (Nb : Nat) (c_latestSpent : Int32) (t_size : Int32) (t_at : Int32) (vb : Nat → Int32) : Prop :=
  wp_T_size (fun r_1 => post r_1) t_size t_at
abbrev rm_C_left : Room := { frames := 1, cells := 0, slots := 0, locals := 20 }
theorem mf_C_left : gFV y_C_left b_C_left 1 (some .int) 0 := ⟨w_100, w_1, ⟨by decide, by decide, by decide +kernel⟩, w_98, w_99⟩
set_option maxHeartbeats 4000000 in
set_option maxRecDepth 100000 in
theorem c_C_left (l : Launch) (D : va_G) (cI : ClassId) (h_c : Nat) (h_t : Nat) (h_b : Nat) (c_weights : Nat) (c_row : Nat) (c_trial : Nat) (c_tally : Nat) (Nb : Nat) (c_latestSpent : Int32) (t_size : Int32) (t_at : Int32) (vb : Nat → Int32) (post : Int32 → Prop) (hw : wp_C_left post Nb c_latestSpent t_size t_at vb) :
    gMi l D [(cI, .int)] y_C_left b_C_left 1 .int rm_C_left [.ref h_c] [(h_c, .inr (2, [.ref c_weights, .ref c_row, .ref h_t, .ref c_trial, .ref c_tally, .int c_latestSpent])), (h_t, .inr (1, [.ref h_b, .int t_size, .int t_at])), (h_b, .inl (cI, Nb, .inl vb))] (S := Unit) (fun u => [(h_c, .inr (2, [.ref c_weights, .ref c_row, .ref h_t, .ref c_trial, .ref c_tally, .int c_latestSpent])), (h_t, .inr (1, [.ref h_b, .int t_size, .int t_at])), (h_b, .inl (cI, Nb, .inl vb))]) (fun r u => post r) := by
  rw [wp_C_left] at hw
  refine gMi.of (by decide) (Nat.le_of_ble_eq_true rfl) (fun p e s m args below meth c A Q ls hx hb hml hown hts hN hK hA hP hD hret hl => ?_)
  have fx : CallFix p m c b_C_left 1 s args gG "TapeCounter" := ⟨hx, hb, hml, hown, hts⟩
  have hl : lv_has ls 1 [(0, .ref h_c)] := hl
  have hS : va_S A s.heap s.heap [] := va_S.rf
  refine lv_aload_n hx hb d_C_left_0 rfl (lv_at hl 0 rfl) ?_
  refine gGet fx hK hP 0 rfl inC rfl (k := 2) (by decide) w_57 rfl d_C_left_1 ?_
  refine g_cVi (wr := [(h_c, .inr (2, [.ref c_weights, .ref c_row, .ref h_t, .ref c_trial, .ref c_tally, .int c_latestSpent])), (h_b, .inl (cI, Nb, .inl vb))]) fx (c_T_size l D cI h_t h_b t_size t_at _ hw) mf_T_size w_93 ⟨rfl, rfl⟩ ⟨Nat.le_of_ble_eq_true rfl, Nat.le_of_ble_eq_true rfl⟩ hN hK hA hP hD hS [1] [0, 2] rfl rfl rfl rfl (by decide) 0 rfl rfl rfl rfl hl.1 (Nat.le_of_ble_eq_true rfl) d_C_left_4 ⟨Nat.zero_le _, Nat.zero_le _⟩ (fun r_1 u H locs hw hP hD hS => ?_)
  try dsimp only at hw
  have hP : va_P D gCl [(h_c, .inr (2, [.ref c_weights, .ref c_row, .ref h_t, .ref c_trial, .ref c_tally, .int c_latestSpent])), (h_b, .inl (cI, Nb, .inl vb)), (h_t, .inr (1, [.ref h_b, .int t_size, .int t_at]))] H := hP
  have hD : va_D A [(h_c, .inr (2, [.ref c_weights, .ref c_row, .ref h_t, .ref c_trial, .ref c_tally, .int c_latestSpent])), (h_b, .inl (cI, Nb, .inl vb)), (h_t, .inr (1, [.ref h_b, .int t_size, .int t_at]))] := hD
  exact hret _ _ _ () _ _ hw rfl (gSubP hP [0, 2, 1] rfl) (hD.sub [0, 2, 1] rfl rfl) hS d_C_left_7
def wp_C_spent (post : Int32 → Prop) (c_latestSpent : Int32) : Prop :=
  post c_latestSpent
abbrev rm_C_spent : Room := { frames := 0, cells := 0, slots := 0, locals := 0 }
theorem mf_C_spent : gFV y_C_spent b_C_spent 1 (some .int) 0 := ⟨w_178, w_1, ⟨by decide, by decide, by decide +kernel⟩, w_176, w_177⟩
set_option maxHeartbeats 4000000 in
set_option maxRecDepth 100000 in
theorem c_C_spent (l : Launch) (D : va_G) (cI : ClassId) (h_c : Nat) (c_weights : Nat) (c_row : Nat) (c_tape : Nat) (c_trial : Nat) (c_tally : Nat) (c_latestSpent : Int32) (post : Int32 → Prop) (hw : wp_C_spent post c_latestSpent) :
    gMi l D [(cI, .int)] y_C_spent b_C_spent 1 .int rm_C_spent [.ref h_c] [(h_c, .inr (2, [.ref c_weights, .ref c_row, .ref c_tape, .ref c_trial, .ref c_tally, .int c_latestSpent]))] (S := Unit) (fun u => [(h_c, .inr (2, [.ref c_weights, .ref c_row, .ref c_tape, .ref c_trial, .ref c_tally, .int c_latestSpent]))]) (fun r u => post r) := by
  rw [wp_C_spent] at hw
  refine gMi.of (by decide) (Nat.le_of_ble_eq_true rfl) (fun p e s m args below meth c A Q ls hx hb hml hown hts hN hK hA hP hD hret hl => ?_)
  have fx : CallFix p m c b_C_spent 1 s args gG "TapeCounter" := ⟨hx, hb, hml, hown, hts⟩
  have hl : lv_has ls 1 [(0, .ref h_c)] := hl
  have hS : va_S A s.heap s.heap [] := va_S.rf
  refine lv_aload_n hx hb d_C_spent_0 rfl (lv_at hl 0 rfl) ?_
  refine gGet fx hK hP 0 rfl inC rfl (k := 5) (by decide) w_60 rfl d_C_spent_1 ?_
  exact hret _ _ _ () _ _ hw rfl hP hD hS d_C_spent_4
def wp_C_isOne (post : Int32 → Prop) (c_latestSpent : Int32) (vw : Nat → Int32) (x1 : Int32) (x2 : Int32) (x3 : Int32) : Prop :=
  ((x1 = nI 0 → wp_C_isWithin (fun r_1 => ((r_1 = nI 0 ∨ r_1 = nI 1) ∧ post r_1)) x2 (nI 1) (nI 64)) ∧ (¬ x1 = nI 0 → ((x1 = nI 1 → wp_C_isWithin (fun r_2 => ((r_2 = nI 0 ∨ r_2 = nI 1) ∧ post r_2)) x2 (nI 1) (nI 64)) ∧ (¬ x1 = nI 1 → ((x1 = nI 2 → wp_C_isWithin (fun r_3 => ((r_3 = 0 → post (nI 0)) ∧ (¬ r_3 = 0 → wp_C_isWithin (fun r_4 => ((r_4 = 0 → post (nI 0)) ∧ (¬ r_4 = 0 → post (nI 1)))) x2 (nI 0) x3))) x3 (nI 1) (nI 64)) ∧ (¬ x1 = nI 2 → ((x1 = nI 3 → wp_C_isWithin (fun r_5 => ((r_5 = nI 0 ∨ r_5 = nI 1) ∧ post r_5)) x2 (nI 0) (nI 12)) ∧ (¬ x1 = nI 3 → ((x1 = nI 4 → wp_C_isWithin (fun r_6 => ((r_6 = nI 0 ∨ r_6 = nI 1) ∧ post r_6)) x2 (nI 0) (nI 12)) ∧ (¬ x1 = nI 4 → ((x1 = nI 5 → wp_C_isWithin (fun r_7 => ((r_7 = nI 0 ∨ r_7 = nI 1) ∧ post r_7)) x2 (nI 1) (nI 4)) ∧ (¬ x1 = nI 5 → ((x1 = nI 6 → wp_C_isWithin (fun r_8 => ((r_8 = 0 → post (nI 0)) ∧ (¬ r_8 = 0 → wp_C_isWithin (fun r_9 => ((r_9 = 0 → post (nI 0)) ∧ (¬ r_9 = 0 → post (nI 1)))) x3 (nI 0) x2))) x2 (nI 1) (nI 6)) ∧ (¬ x1 = nI 6 → ((x1 = nI 7 → wp_C_weightSum (fun r_10 => wp_C_isWithin (fun r_11 => ((r_11 = nI 0 ∨ r_11 = nI 1) ∧ post r_11)) r_10 (nI 1) (nI 64)) c_latestSpent vw) ∧ (¬ x1 = nI 7 → post (nI 0)))))))))))))))))
abbrev rm_C_isOne : Room := { frames := 1, cells := 0, slots := 0, locals := 22 }
theorem mf_C_isOne : gFV y_C_isOne b_C_isOne 4 (some .boolean) 3 := ⟨w_104, w_1, ⟨by decide, by decide, by decide +kernel⟩, w_102, w_103⟩
set_option maxHeartbeats 4000000 in
set_option maxRecDepth 100000 in
theorem c_C_isOne (l : Launch) (D : va_G) (cI : ClassId) (h_c : Nat) (h_w : Nat) (c_row : Nat) (c_tape : Nat) (c_trial : Nat) (c_tally : Nat) (c_latestSpent : Int32) (vw : Nat → Int32) (x1 : Int32) (x2 : Int32) (x3 : Int32) (post : Int32 → Prop) (hw : wp_C_isOne post c_latestSpent vw x1 x2 x3) :
    gMi l D [(cI, .int)] y_C_isOne b_C_isOne 4 .boolean rm_C_isOne [.ref h_c, .int x1, .int x2, .int x3] [(h_c, .inr (2, [.ref h_w, .ref c_row, .ref c_tape, .ref c_trial, .ref c_tally, .int c_latestSpent])), (h_w, .inl (cI, 8, .inl vw))] (S := Unit) (fun u => [(h_c, .inr (2, [.ref h_w, .ref c_row, .ref c_tape, .ref c_trial, .ref c_tally, .int c_latestSpent])), (h_w, .inl (cI, 8, .inl vw))]) (fun r u => post r) := by
  rw [wp_C_isOne] at hw
  refine gMi.of (by decide) (Nat.le_of_ble_eq_true rfl) (fun p e s m args below meth c A Q ls hx hb hml hown hts hN hK hA hP hD hret hl => ?_)
  have fx : CallFix p m c b_C_isOne 4 s args gG "TapeCounter" := ⟨hx, hb, hml, hown, hts⟩
  have hl : lv_has ls 4 [(0, .ref h_c), (1, .int x1), (2, .int x2), (3, .int x3)] := hl
  have hS : va_S A s.heap s.heap [] := va_S.rf
  refine lv_iload_n hx hb d_C_isOne_0 rfl (lv_at hl 1 rfl) ?_
  rcases Classical.em (x1 = nI 0) with c1_0 | c1_0
  · have hw := hw.1 c1_0
    refine g_sw (nI 0) (tgt := 48) hx hb d_C_isOne_1 c1_0 (by decide) (by decide) rfl (by decide) ?_
    refine lv_iload_n hx hb d_C_isOne_48 rfl (lv_at hl 2 rfl) ?_
    refine lv_iconst (v := (nI 1)) hx hb d_C_isOne_49 (by decide) ?_
    refine lv_bipush (v := (nI 64)) hx hb d_C_isOne_50 (by decide) ?_
    refine g_cSi (wr := [(h_c, .inr (2, [.ref h_w, .ref c_row, .ref c_tape, .ref c_trial, .ref c_tally, .int c_latestSpent])), (h_w, .inl (cI, 8, .inl vw))]) fx (c_C_isWithin l D cI  x2 (nI 1) (nI 64) _ hw) mf_C_isWithin w_78 ⟨rfl, rfl⟩ ⟨Nat.le_of_ble_eq_true rfl, Nat.le_of_ble_eq_true rfl⟩ hN hK hA hP hD hS [] [0, 1] rfl rfl rfl rfl (by decide) rfl rfl hl.1 (Nat.le_of_ble_eq_true rfl) d_C_isOne_52 ⟨Nat.zero_le _, Nat.zero_le _⟩ (fun r_1 u H locs hw hP hD hS => ?_)
    try dsimp only at hw
    have hP : va_P D gCl [(h_c, .inr (2, [.ref h_w, .ref c_row, .ref c_tape, .ref c_trial, .ref c_tally, .int c_latestSpent])), (h_w, .inl (cI, 8, .inl vw))] H := hP
    have hD : va_D A [(h_c, .inr (2, [.ref h_w, .ref c_row, .ref c_tape, .ref c_trial, .ref c_tally, .int c_latestSpent])), (h_w, .inl (cI, 8, .inl vw))] := hD
    exact hret _ _ _ () _ _ hw.2 (gBool hw.1) hP hD hS d_C_isOne_55
  · have hw := hw.2 c1_0
    rcases Classical.em (x1 = nI 1) with c1_1 | c1_1
    · have hw := hw.1 c1_1
      refine g_sw (nI 1) (tgt := 48) hx hb d_C_isOne_1 c1_1 (by decide) (by decide) rfl (by decide) ?_
      refine lv_iload_n hx hb d_C_isOne_48 rfl (lv_at hl 2 rfl) ?_
      refine lv_iconst (v := (nI 1)) hx hb d_C_isOne_49 (by decide) ?_
      refine lv_bipush (v := (nI 64)) hx hb d_C_isOne_50 (by decide) ?_
      refine g_cSi (wr := [(h_c, .inr (2, [.ref h_w, .ref c_row, .ref c_tape, .ref c_trial, .ref c_tally, .int c_latestSpent])), (h_w, .inl (cI, 8, .inl vw))]) fx (c_C_isWithin l D cI  x2 (nI 1) (nI 64) _ hw) mf_C_isWithin w_78 ⟨rfl, rfl⟩ ⟨Nat.le_of_ble_eq_true rfl, Nat.le_of_ble_eq_true rfl⟩ hN hK hA hP hD hS [] [0, 1] rfl rfl rfl rfl (by decide) rfl rfl hl.1 (Nat.le_of_ble_eq_true rfl) d_C_isOne_52 ⟨Nat.zero_le _, Nat.zero_le _⟩ (fun r_2 u H locs hw hP hD hS => ?_)
      try dsimp only at hw
      have hP : va_P D gCl [(h_c, .inr (2, [.ref h_w, .ref c_row, .ref c_tape, .ref c_trial, .ref c_tally, .int c_latestSpent])), (h_w, .inl (cI, 8, .inl vw))] H := hP
      have hD : va_D A [(h_c, .inr (2, [.ref h_w, .ref c_row, .ref c_tape, .ref c_trial, .ref c_tally, .int c_latestSpent])), (h_w, .inl (cI, 8, .inl vw))] := hD
      exact hret _ _ _ () _ _ hw.2 (gBool hw.1) hP hD hS d_C_isOne_55
    · have hw := hw.2 c1_1
      rcases Classical.em (x1 = nI 2) with c1_2 | c1_2
      · have hw := hw.1 c1_2
        refine g_sw (nI 2) (tgt := 56) hx hb d_C_isOne_1 c1_2 (by decide) (by decide) rfl (by decide) ?_
        refine lv_iload_n hx hb d_C_isOne_56 rfl (lv_at hl 3 rfl) ?_
        refine lv_iconst (v := (nI 1)) hx hb d_C_isOne_57 (by decide) ?_
        refine lv_bipush (v := (nI 64)) hx hb d_C_isOne_58 (by decide) ?_
        refine g_cSi (wr := [(h_c, .inr (2, [.ref h_w, .ref c_row, .ref c_tape, .ref c_trial, .ref c_tally, .int c_latestSpent])), (h_w, .inl (cI, 8, .inl vw))]) fx (c_C_isWithin l D cI  x3 (nI 1) (nI 64) _ hw) mf_C_isWithin w_78 ⟨rfl, rfl⟩ ⟨Nat.le_of_ble_eq_true rfl, Nat.le_of_ble_eq_true rfl⟩ hN hK hA hP hD hS [] [0, 1] rfl rfl rfl rfl (by decide) rfl rfl hl.1 (Nat.le_of_ble_eq_true rfl) d_C_isOne_60 ⟨Nat.zero_le _, Nat.zero_le _⟩ (fun r_3 u H locs hw hP hD hS => ?_)
        try dsimp only at hw
        have hP : va_P D gCl [(h_c, .inr (2, [.ref h_w, .ref c_row, .ref c_tape, .ref c_trial, .ref c_tally, .int c_latestSpent])), (h_w, .inl (cI, 8, .inl vw))] H := hP
        have hD : va_D A [(h_c, .inr (2, [.ref h_w, .ref c_row, .ref c_tape, .ref c_trial, .ref c_tally, .int c_latestSpent])), (h_w, .inl (cI, 8, .inl vw))] := hD
        refine lv_if_eq (tgt := 79) hx hb d_C_isOne_63 (by decide) (fun c63 => ?_) (fun c63 => ?_)
        · have hw := hw.1 c63
          refine lv_iconst (v := (nI 0)) hx hb d_C_isOne_79 (by decide) ?_
          exact hret _ _ _ () _ _ hw rfl hP hD hS d_C_isOne_80
        · have hw := hw.2 c63
          refine lv_iload_n hx hb d_C_isOne_66 rfl (lv_at hl 2 rfl) ?_
          refine lv_iconst (v := (nI 0)) hx hb d_C_isOne_67 (by decide) ?_
          refine lv_iload_n hx hb d_C_isOne_68 rfl (lv_at hl 3 rfl) ?_
          refine g_cSi (wr := [(h_c, .inr (2, [.ref h_w, .ref c_row, .ref c_tape, .ref c_trial, .ref c_tally, .int c_latestSpent])), (h_w, .inl (cI, 8, .inl vw))]) fx (c_C_isWithin l D cI  x2 (nI 0) x3 _ hw) mf_C_isWithin w_78 ⟨rfl, rfl⟩ ⟨Nat.le_of_ble_eq_true rfl, Nat.le_of_ble_eq_true rfl⟩ hN hK hA hP hD hS [] [0, 1] rfl rfl rfl rfl (by decide) rfl rfl hl.1 (Nat.le_of_ble_eq_true rfl) d_C_isOne_69 ⟨Nat.zero_le _, Nat.zero_le _⟩ (fun r_4 u H locs hw hP hD hS => ?_)
          try dsimp only at hw
          have hP : va_P D gCl [(h_c, .inr (2, [.ref h_w, .ref c_row, .ref c_tape, .ref c_trial, .ref c_tally, .int c_latestSpent])), (h_w, .inl (cI, 8, .inl vw))] H := hP
          have hD : va_D A [(h_c, .inr (2, [.ref h_w, .ref c_row, .ref c_tape, .ref c_trial, .ref c_tally, .int c_latestSpent])), (h_w, .inl (cI, 8, .inl vw))] := hD
          refine lv_if_eq (tgt := 79) hx hb d_C_isOne_72 (by decide) (fun c72 => ?_) (fun c72 => ?_)
          · have hw := hw.1 c72
            refine lv_iconst (v := (nI 0)) hx hb d_C_isOne_79 (by decide) ?_
            exact hret _ _ _ () _ _ hw rfl hP hD hS d_C_isOne_80
          · have hw := hw.2 c72
            refine lv_iconst (v := (nI 1)) hx hb d_C_isOne_75 (by decide) ?_
            refine lv_goto (tgt := 80) hx hb d_C_isOne_76 (by decide) ?_
            exact hret _ _ _ () _ _ hw rfl hP hD hS d_C_isOne_80
      · have hw := hw.2 c1_2
        rcases Classical.em (x1 = nI 3) with c1_3 | c1_3
        · have hw := hw.1 c1_3
          refine g_sw (nI 3) (tgt := 81) hx hb d_C_isOne_1 c1_3 (by decide) (by decide) rfl (by decide) ?_
          refine lv_iload_n hx hb d_C_isOne_81 rfl (lv_at hl 2 rfl) ?_
          refine lv_iconst (v := (nI 0)) hx hb d_C_isOne_82 (by decide) ?_
          refine lv_bipush (v := (nI 12)) hx hb d_C_isOne_83 (by decide) ?_
          refine g_cSi (wr := [(h_c, .inr (2, [.ref h_w, .ref c_row, .ref c_tape, .ref c_trial, .ref c_tally, .int c_latestSpent])), (h_w, .inl (cI, 8, .inl vw))]) fx (c_C_isWithin l D cI  x2 (nI 0) (nI 12) _ hw) mf_C_isWithin w_78 ⟨rfl, rfl⟩ ⟨Nat.le_of_ble_eq_true rfl, Nat.le_of_ble_eq_true rfl⟩ hN hK hA hP hD hS [] [0, 1] rfl rfl rfl rfl (by decide) rfl rfl hl.1 (Nat.le_of_ble_eq_true rfl) d_C_isOne_85 ⟨Nat.zero_le _, Nat.zero_le _⟩ (fun r_5 u H locs hw hP hD hS => ?_)
          try dsimp only at hw
          have hP : va_P D gCl [(h_c, .inr (2, [.ref h_w, .ref c_row, .ref c_tape, .ref c_trial, .ref c_tally, .int c_latestSpent])), (h_w, .inl (cI, 8, .inl vw))] H := hP
          have hD : va_D A [(h_c, .inr (2, [.ref h_w, .ref c_row, .ref c_tape, .ref c_trial, .ref c_tally, .int c_latestSpent])), (h_w, .inl (cI, 8, .inl vw))] := hD
          exact hret _ _ _ () _ _ hw.2 (gBool hw.1) hP hD hS d_C_isOne_88
        · have hw := hw.2 c1_3
          rcases Classical.em (x1 = nI 4) with c1_4 | c1_4
          · have hw := hw.1 c1_4
            refine g_sw (nI 4) (tgt := 81) hx hb d_C_isOne_1 c1_4 (by decide) (by decide) rfl (by decide) ?_
            refine lv_iload_n hx hb d_C_isOne_81 rfl (lv_at hl 2 rfl) ?_
            refine lv_iconst (v := (nI 0)) hx hb d_C_isOne_82 (by decide) ?_
            refine lv_bipush (v := (nI 12)) hx hb d_C_isOne_83 (by decide) ?_
            refine g_cSi (wr := [(h_c, .inr (2, [.ref h_w, .ref c_row, .ref c_tape, .ref c_trial, .ref c_tally, .int c_latestSpent])), (h_w, .inl (cI, 8, .inl vw))]) fx (c_C_isWithin l D cI  x2 (nI 0) (nI 12) _ hw) mf_C_isWithin w_78 ⟨rfl, rfl⟩ ⟨Nat.le_of_ble_eq_true rfl, Nat.le_of_ble_eq_true rfl⟩ hN hK hA hP hD hS [] [0, 1] rfl rfl rfl rfl (by decide) rfl rfl hl.1 (Nat.le_of_ble_eq_true rfl) d_C_isOne_85 ⟨Nat.zero_le _, Nat.zero_le _⟩ (fun r_6 u H locs hw hP hD hS => ?_)
            try dsimp only at hw
            have hP : va_P D gCl [(h_c, .inr (2, [.ref h_w, .ref c_row, .ref c_tape, .ref c_trial, .ref c_tally, .int c_latestSpent])), (h_w, .inl (cI, 8, .inl vw))] H := hP
            have hD : va_D A [(h_c, .inr (2, [.ref h_w, .ref c_row, .ref c_tape, .ref c_trial, .ref c_tally, .int c_latestSpent])), (h_w, .inl (cI, 8, .inl vw))] := hD
            exact hret _ _ _ () _ _ hw.2 (gBool hw.1) hP hD hS d_C_isOne_88
          · have hw := hw.2 c1_4
            rcases Classical.em (x1 = nI 5) with c1_5 | c1_5
            · have hw := hw.1 c1_5
              refine g_sw (nI 5) (tgt := 89) hx hb d_C_isOne_1 c1_5 (by decide) (by decide) rfl (by decide) ?_
              refine lv_iload_n hx hb d_C_isOne_89 rfl (lv_at hl 2 rfl) ?_
              refine lv_iconst (v := (nI 1)) hx hb d_C_isOne_90 (by decide) ?_
              refine lv_iconst (v := (nI 4)) hx hb d_C_isOne_91 (by decide) ?_
              refine g_cSi (wr := [(h_c, .inr (2, [.ref h_w, .ref c_row, .ref c_tape, .ref c_trial, .ref c_tally, .int c_latestSpent])), (h_w, .inl (cI, 8, .inl vw))]) fx (c_C_isWithin l D cI  x2 (nI 1) (nI 4) _ hw) mf_C_isWithin w_78 ⟨rfl, rfl⟩ ⟨Nat.le_of_ble_eq_true rfl, Nat.le_of_ble_eq_true rfl⟩ hN hK hA hP hD hS [] [0, 1] rfl rfl rfl rfl (by decide) rfl rfl hl.1 (Nat.le_of_ble_eq_true rfl) d_C_isOne_92 ⟨Nat.zero_le _, Nat.zero_le _⟩ (fun r_7 u H locs hw hP hD hS => ?_)
              try dsimp only at hw
              have hP : va_P D gCl [(h_c, .inr (2, [.ref h_w, .ref c_row, .ref c_tape, .ref c_trial, .ref c_tally, .int c_latestSpent])), (h_w, .inl (cI, 8, .inl vw))] H := hP
              have hD : va_D A [(h_c, .inr (2, [.ref h_w, .ref c_row, .ref c_tape, .ref c_trial, .ref c_tally, .int c_latestSpent])), (h_w, .inl (cI, 8, .inl vw))] := hD
              exact hret _ _ _ () _ _ hw.2 (gBool hw.1) hP hD hS d_C_isOne_95
            · have hw := hw.2 c1_5
              rcases Classical.em (x1 = nI 6) with c1_6 | c1_6
              · have hw := hw.1 c1_6
                refine g_sw (nI 6) (tgt := 96) hx hb d_C_isOne_1 c1_6 (by decide) (by decide) rfl (by decide) ?_
                refine lv_iload_n hx hb d_C_isOne_96 rfl (lv_at hl 2 rfl) ?_
                refine lv_iconst (v := (nI 1)) hx hb d_C_isOne_97 (by decide) ?_
                refine lv_bipush (v := (nI 6)) hx hb d_C_isOne_98 (by decide) ?_
                refine g_cSi (wr := [(h_c, .inr (2, [.ref h_w, .ref c_row, .ref c_tape, .ref c_trial, .ref c_tally, .int c_latestSpent])), (h_w, .inl (cI, 8, .inl vw))]) fx (c_C_isWithin l D cI  x2 (nI 1) (nI 6) _ hw) mf_C_isWithin w_78 ⟨rfl, rfl⟩ ⟨Nat.le_of_ble_eq_true rfl, Nat.le_of_ble_eq_true rfl⟩ hN hK hA hP hD hS [] [0, 1] rfl rfl rfl rfl (by decide) rfl rfl hl.1 (Nat.le_of_ble_eq_true rfl) d_C_isOne_100 ⟨Nat.zero_le _, Nat.zero_le _⟩ (fun r_8 u H locs hw hP hD hS => ?_)
                try dsimp only at hw
                have hP : va_P D gCl [(h_c, .inr (2, [.ref h_w, .ref c_row, .ref c_tape, .ref c_trial, .ref c_tally, .int c_latestSpent])), (h_w, .inl (cI, 8, .inl vw))] H := hP
                have hD : va_D A [(h_c, .inr (2, [.ref h_w, .ref c_row, .ref c_tape, .ref c_trial, .ref c_tally, .int c_latestSpent])), (h_w, .inl (cI, 8, .inl vw))] := hD
                refine lv_if_eq (tgt := 119) hx hb d_C_isOne_103 (by decide) (fun c103 => ?_) (fun c103 => ?_)
                · have hw := hw.1 c103
                  refine lv_iconst (v := (nI 0)) hx hb d_C_isOne_119 (by decide) ?_
                  exact hret _ _ _ () _ _ hw rfl hP hD hS d_C_isOne_120
                · have hw := hw.2 c103
                  refine lv_iload_n hx hb d_C_isOne_106 rfl (lv_at hl 3 rfl) ?_
                  refine lv_iconst (v := (nI 0)) hx hb d_C_isOne_107 (by decide) ?_
                  refine lv_iload_n hx hb d_C_isOne_108 rfl (lv_at hl 2 rfl) ?_
                  refine g_cSi (wr := [(h_c, .inr (2, [.ref h_w, .ref c_row, .ref c_tape, .ref c_trial, .ref c_tally, .int c_latestSpent])), (h_w, .inl (cI, 8, .inl vw))]) fx (c_C_isWithin l D cI  x3 (nI 0) x2 _ hw) mf_C_isWithin w_78 ⟨rfl, rfl⟩ ⟨Nat.le_of_ble_eq_true rfl, Nat.le_of_ble_eq_true rfl⟩ hN hK hA hP hD hS [] [0, 1] rfl rfl rfl rfl (by decide) rfl rfl hl.1 (Nat.le_of_ble_eq_true rfl) d_C_isOne_109 ⟨Nat.zero_le _, Nat.zero_le _⟩ (fun r_9 u H locs hw hP hD hS => ?_)
                  try dsimp only at hw
                  have hP : va_P D gCl [(h_c, .inr (2, [.ref h_w, .ref c_row, .ref c_tape, .ref c_trial, .ref c_tally, .int c_latestSpent])), (h_w, .inl (cI, 8, .inl vw))] H := hP
                  have hD : va_D A [(h_c, .inr (2, [.ref h_w, .ref c_row, .ref c_tape, .ref c_trial, .ref c_tally, .int c_latestSpent])), (h_w, .inl (cI, 8, .inl vw))] := hD
                  refine lv_if_eq (tgt := 119) hx hb d_C_isOne_112 (by decide) (fun c112 => ?_) (fun c112 => ?_)
                  · have hw := hw.1 c112
                    refine lv_iconst (v := (nI 0)) hx hb d_C_isOne_119 (by decide) ?_
                    exact hret _ _ _ () _ _ hw rfl hP hD hS d_C_isOne_120
                  · have hw := hw.2 c112
                    refine lv_iconst (v := (nI 1)) hx hb d_C_isOne_115 (by decide) ?_
                    refine lv_goto (tgt := 120) hx hb d_C_isOne_116 (by decide) ?_
                    exact hret _ _ _ () _ _ hw rfl hP hD hS d_C_isOne_120
              · have hw := hw.2 c1_6
                rcases Classical.em (x1 = nI 7) with c1_7 | c1_7
                · have hw := hw.1 c1_7
                  refine g_sw (nI 7) (tgt := 121) hx hb d_C_isOne_1 c1_7 (by decide) (by decide) rfl (by decide) ?_
                  refine lv_aload_n hx hb d_C_isOne_121 rfl (lv_at hl 0 rfl) ?_
                  refine g_cVi (wr := []) fx (c_C_weightSum l D cI h_c h_w c_row c_tape c_trial c_tally c_latestSpent vw _ hw) mf_C_weightSum w_105 ⟨rfl, rfl⟩ ⟨Nat.le_of_ble_eq_true rfl, Nat.le_of_ble_eq_true rfl⟩ hN hK hA hP hD hS [0, 1] [] rfl rfl rfl rfl (by decide) 0 rfl rfl rfl rfl hl.1 (Nat.le_of_ble_eq_true rfl) d_C_isOne_122 ⟨Nat.zero_le _, Nat.zero_le _⟩ (fun r_10 u H locs hw hP hD hS => ?_)
                  try dsimp only at hw
                  have hP : va_P D gCl [(h_c, .inr (2, [.ref h_w, .ref c_row, .ref c_tape, .ref c_trial, .ref c_tally, .int c_latestSpent])), (h_w, .inl (cI, 8, .inl vw))] H := hP
                  have hD : va_D A [(h_c, .inr (2, [.ref h_w, .ref c_row, .ref c_tape, .ref c_trial, .ref c_tally, .int c_latestSpent])), (h_w, .inl (cI, 8, .inl vw))] := hD
                  refine lv_iconst (v := (nI 1)) hx hb d_C_isOne_125 (by decide) ?_
                  refine lv_bipush (v := (nI 64)) hx hb d_C_isOne_126 (by decide) ?_
                  refine g_cSi (wr := [(h_c, .inr (2, [.ref h_w, .ref c_row, .ref c_tape, .ref c_trial, .ref c_tally, .int c_latestSpent])), (h_w, .inl (cI, 8, .inl vw))]) fx (c_C_isWithin l D cI  r_10 (nI 1) (nI 64) _ hw) mf_C_isWithin w_78 ⟨rfl, rfl⟩ ⟨Nat.le_of_ble_eq_true rfl, Nat.le_of_ble_eq_true rfl⟩ hN hK hA hP hD hS [] [0, 1] rfl rfl rfl rfl (by decide) rfl rfl hl.1 (Nat.le_of_ble_eq_true rfl) d_C_isOne_128 ⟨Nat.zero_le _, Nat.zero_le _⟩ (fun r_11 u H locs hw hP hD hS => ?_)
                  try dsimp only at hw
                  have hP : va_P D gCl [(h_c, .inr (2, [.ref h_w, .ref c_row, .ref c_tape, .ref c_trial, .ref c_tally, .int c_latestSpent])), (h_w, .inl (cI, 8, .inl vw))] H := hP
                  have hD : va_D A [(h_c, .inr (2, [.ref h_w, .ref c_row, .ref c_tape, .ref c_trial, .ref c_tally, .int c_latestSpent])), (h_w, .inl (cI, 8, .inl vw))] := hD
                  exact hret _ _ _ () _ _ hw.2 (gBool hw.1) hP hD hS d_C_isOne_131
                · have hw := hw.2 c1_7
                  refine lv_tableOut (tgt := 132) hx hb d_C_isOne_1 (by have h := g_out (x := x1) (n := 8) (by decide) (fun j hj => by rcases (show j = 0 ∨ j = 1 ∨ j = 2 ∨ j = 3 ∨ j = 4 ∨ j = 5 ∨ j = 6 ∨ j = 7 by omega) with rfl | rfl | rfl | rfl | rfl | rfl | rfl | rfl <;> assumption); omega) (by decide) ?_
                  refine lv_iconst (v := (nI 0)) hx hb d_C_isOne_132 (by decide) ?_
                  exact hret _ _ _ () _ _ hw rfl hP hD hS d_C_isOne_133
def wp_C_isCountable (post : Int32 → Prop) (c_latestSpent : Int32) (vw : Nat → Int32) (x1 : Int32) (x2 : Int32) (x3 : Int32) (x4 : Int32) : Prop :=
  wp_C_isWithin (fun r_1 => ((r_1 = 0 → post (nI 0)) ∧ (¬ r_1 = 0 → wp_C_isOne (fun r_2 => ((r_2 = 0 → post (nI 0)) ∧ (¬ r_2 = 0 → post (nI 1)))) c_latestSpent vw x1 x2 x3))) x4 (nI 0) (nI 12)
abbrev rm_C_isCountable : Room := { frames := 2, cells := 0, slots := 0, locals := 45 }
theorem mf_C_isCountable : gFV y_C_isCountable b_C_isCountable 5 (some .boolean) 4 := ⟨w_186, w_1, ⟨by decide, by decide, by decide +kernel⟩, w_185, ws_1_5⟩
set_option maxHeartbeats 4000000 in
set_option maxRecDepth 100000 in
theorem c_C_isCountable (l : Launch) (D : va_G) (cI : ClassId) (h_c : Nat) (h_w : Nat) (c_row : Nat) (c_tape : Nat) (c_trial : Nat) (c_tally : Nat) (c_latestSpent : Int32) (vw : Nat → Int32) (x1 : Int32) (x2 : Int32) (x3 : Int32) (x4 : Int32) (post : Int32 → Prop) (hw : wp_C_isCountable post c_latestSpent vw x1 x2 x3 x4) :
    gMi l D [(cI, .int)] y_C_isCountable b_C_isCountable 5 .boolean rm_C_isCountable [.ref h_c, .int x1, .int x2, .int x3, .int x4] [(h_c, .inr (2, [.ref h_w, .ref c_row, .ref c_tape, .ref c_trial, .ref c_tally, .int c_latestSpent])), (h_w, .inl (cI, 8, .inl vw))] (S := Unit) (fun u => [(h_c, .inr (2, [.ref h_w, .ref c_row, .ref c_tape, .ref c_trial, .ref c_tally, .int c_latestSpent])), (h_w, .inl (cI, 8, .inl vw))]) (fun r u => post r) := by
  rw [wp_C_isCountable] at hw
  refine gMi.of (by decide) (Nat.le_of_ble_eq_true rfl) (fun p e s m args below meth c A Q ls hx hb hml hown hts hN hK hA hP hD hret hl => ?_)
  have fx : CallFix p m c b_C_isCountable 5 s args gG "TapeCounter" := ⟨hx, hb, hml, hown, hts⟩
  have hl : lv_has ls 5 [(0, .ref h_c), (1, .int x1), (2, .int x2), (3, .int x3), (4, .int x4)] := hl
  have hS : va_S A s.heap s.heap [] := va_S.rf
  refine lv_iload hx hb d_C_isCountable_0 (lv_at hl 4 rfl) ?_
  refine lv_iconst (v := (nI 0)) hx hb d_C_isCountable_2 (by decide) ?_
  refine lv_bipush (v := (nI 12)) hx hb d_C_isCountable_3 (by decide) ?_
  refine g_cSi (wr := [(h_c, .inr (2, [.ref h_w, .ref c_row, .ref c_tape, .ref c_trial, .ref c_tally, .int c_latestSpent])), (h_w, .inl (cI, 8, .inl vw))]) fx (c_C_isWithin l D cI  x4 (nI 0) (nI 12) _ hw) mf_C_isWithin w_78 ⟨rfl, rfl⟩ ⟨Nat.le_of_ble_eq_true rfl, Nat.le_of_ble_eq_true rfl⟩ hN hK hA hP hD hS [] [0, 1] rfl rfl rfl rfl (by decide) rfl rfl hl.1 (Nat.le_of_ble_eq_true rfl) d_C_isCountable_5 ⟨Nat.zero_le _, Nat.zero_le _⟩ (fun r_1 u H locs hw hP hD hS => ?_)
  try dsimp only at hw
  have hP : va_P D gCl [(h_c, .inr (2, [.ref h_w, .ref c_row, .ref c_tape, .ref c_trial, .ref c_tally, .int c_latestSpent])), (h_w, .inl (cI, 8, .inl vw))] H := hP
  have hD : va_D A [(h_c, .inr (2, [.ref h_w, .ref c_row, .ref c_tape, .ref c_trial, .ref c_tally, .int c_latestSpent])), (h_w, .inl (cI, 8, .inl vw))] := hD
  refine lv_if_eq (tgt := 25) hx hb d_C_isCountable_8 (by decide) (fun c8 => ?_) (fun c8 => ?_)
  · have hw := hw.1 c8
    refine lv_iconst (v := (nI 0)) hx hb d_C_isCountable_25 (by decide) ?_
    exact hret _ _ _ () _ _ hw rfl hP hD hS d_C_isCountable_26
  · have hw := hw.2 c8
    refine lv_aload_n hx hb d_C_isCountable_11 rfl (lv_at hl 0 rfl) ?_
    refine lv_iload_n hx hb d_C_isCountable_12 rfl (lv_at hl 1 rfl) ?_
    refine lv_iload_n hx hb d_C_isCountable_13 rfl (lv_at hl 2 rfl) ?_
    refine lv_iload_n hx hb d_C_isCountable_14 rfl (lv_at hl 3 rfl) ?_
    refine g_cVi (wr := []) fx (c_C_isOne l D cI h_c h_w c_row c_tape c_trial c_tally c_latestSpent vw x1 x2 x3 _ hw) mf_C_isOne w_113 ⟨rfl, rfl⟩ ⟨Nat.le_of_ble_eq_true rfl, Nat.le_of_ble_eq_true rfl⟩ hN hK hA hP hD hS [0, 1] [] rfl rfl rfl rfl (by decide) 0 rfl rfl rfl rfl hl.1 (Nat.le_of_ble_eq_true rfl) d_C_isCountable_15 ⟨Nat.zero_le _, Nat.zero_le _⟩ (fun r_2 u H locs hw hP hD hS => ?_)
    try dsimp only at hw
    have hP : va_P D gCl [(h_c, .inr (2, [.ref h_w, .ref c_row, .ref c_tape, .ref c_trial, .ref c_tally, .int c_latestSpent])), (h_w, .inl (cI, 8, .inl vw))] H := hP
    have hD : va_D A [(h_c, .inr (2, [.ref h_w, .ref c_row, .ref c_tape, .ref c_trial, .ref c_tally, .int c_latestSpent])), (h_w, .inl (cI, 8, .inl vw))] := hD
    refine lv_if_eq (tgt := 25) hx hb d_C_isCountable_18 (by decide) (fun c18 => ?_) (fun c18 => ?_)
    · have hw := hw.1 c18
      refine lv_iconst (v := (nI 0)) hx hb d_C_isCountable_25 (by decide) ?_
      exact hret _ _ _ () _ _ hw rfl hP hD hS d_C_isCountable_26
    · have hw := hw.2 c18
      refine lv_iconst (v := (nI 1)) hx hb d_C_isCountable_21 (by decide) ?_
      refine lv_goto (tgt := 26) hx hb d_C_isCountable_22 (by decide) ?_
      exact hret _ _ _ () _ _ hw rfl hP hD hS d_C_isCountable_26
def wpF_C_ordersBeforeRow_17 (K_4 : Int32 → Int32 → Prop) (vr : Nat → Int32) (x1 : Int32) (x2 : Int32) (x3 : Int32) (K_17 : Int32 → Int32 → Prop) (x4 : Int32) (x5 : Int32) : Prop :=
  ((x1 ≤ x5 → K_4 ((x2 * (x1 - x3)) + x4) (x3 + (nI 1))) ∧ (¬ x1 ≤ x5 → (vp_in x5 4 ∧ (vp_in x3 4 ∧ (((vr (x3).toNatClampNeg) ≤ (vr (x5).toNatClampNeg) → K_17 x4 (x5 + (nI 1))) ∧ (¬ (vr (x3).toNatClampNeg) ≤ (vr (x5).toNatClampNeg) → K_17 (x4 + (nI 1)) (x5 + (nI 1))))))))
def wpF_C_ordersBeforeRow_4 (post : Int32 → Prop) (vr : Nat → Int32) (x1 : Int32) (K_4 : Int32 → Int32 → Prop) (x2 : Int32) (x3 : Int32) : Prop :=
  ((x1 ≤ x3 → post x2) ∧ (¬ x1 ≤ x3 → (∃ n, gL2 (wpF_C_ordersBeforeRow_17 K_4 vr x1 x2 x3) n (nI 0) (x3 + (nI 1)))))
def wp_C_ordersBeforeRow (post : Int32 → Prop) (c_latestSpent : Int32) (vr : Nat → Int32) (x1 : Int32) : Prop :=
  (∃ n, gL2 (wpF_C_ordersBeforeRow_4 post vr x1) n (nI 0) (nI 0))
abbrev rm_C_ordersBeforeRow : Room := { frames := 0, cells := 0, slots := 0, locals := 0 }
theorem mf_C_ordersBeforeRow : gFV y_C_ordersBeforeRow b_C_ordersBeforeRow 6 (some .int) 1 := ⟨w_156, w_1, ⟨by decide, by decide, by decide +kernel⟩, w_155, ws_1_3⟩
set_option maxHeartbeats 4000000 in
set_option maxRecDepth 100000 in
theorem c_C_ordersBeforeRow (l : Launch) (D : va_G) (cI : ClassId) (h_c : Nat) (h_r : Nat) (c_weights : Nat) (c_tape : Nat) (c_trial : Nat) (c_tally : Nat) (c_latestSpent : Int32) (vr : Nat → Int32) (x1 : Int32) (post : Int32 → Prop) (hw : wp_C_ordersBeforeRow post c_latestSpent vr x1) :
    gMi l D [(cI, .int)] y_C_ordersBeforeRow b_C_ordersBeforeRow 6 .int rm_C_ordersBeforeRow [.ref h_c, .int x1] [(h_c, .inr (2, [.ref c_weights, .ref h_r, .ref c_tape, .ref c_trial, .ref c_tally, .int c_latestSpent])), (h_r, .inl (cI, 4, .inl vr))] (S := Unit) (fun u => [(h_c, .inr (2, [.ref c_weights, .ref h_r, .ref c_tape, .ref c_trial, .ref c_tally, .int c_latestSpent])), (h_r, .inl (cI, 4, .inl vr))]) (fun r u => post r) := by
  rw [wp_C_ordersBeforeRow] at hw
  refine gMi.of (by decide) (Nat.le_of_ble_eq_true rfl) (fun p e s m args below meth c A Q ls hx hb hml hown hts hN hK hA hP hD hret hl => ?_)
  have fx : CallFix p m c b_C_ordersBeforeRow 6 s args gG "TapeCounter" := ⟨hx, hb, hml, hown, hts⟩
  have hl : lv_has ls 6 [(0, .ref h_c), (1, .int x1)] := hl
  have hS : va_S A s.heap s.heap [] := va_S.rf
  refine lv_iconst (v := (nI 0)) hx hb d_C_ordersBeforeRow_0 (by decide) ?_
  refine lv_istore_n (lv' := [(2, .int (nI 0)), (0, .ref h_c), (1, .int x1)]) hx hb d_C_ordersBeforeRow_1 rfl hl (by decide) rfl (fun ls hl => ?_)
  refine lv_iconst (v := (nI 0)) hx hb d_C_ordersBeforeRow_2 (by decide) ?_
  refine lv_istore_n (lv' := [(3, .int (nI 0)), (2, .int (nI 0)), (0, .ref h_c), (1, .int x1)]) hx hb d_C_ordersBeforeRow_3 rfl hl (by decide) rfl (fun ls hl => ?_)
  obtain ⟨n_4, hw⟩ := hw
  have k_4 : ∀ (n_4 : Nat) (x2 : Int32) (x3 : Int32), gL2 (wpF_C_ordersBeforeRow_4 post vr x1) n_4 x2 x3 → ∀ (H : Heap) (locs : List Loc) (ls : Array Slot), va_P D gCl [(h_c, .inr (2, [.ref c_weights, .ref h_r, .ref c_tape, .ref c_trial, .ref c_tally, .int c_latestSpent])), (h_r, .inl (cI, 4, .inl vr))] H → va_D A [(h_c, .inr (2, [.ref c_weights, .ref h_r, .ref c_tape, .ref c_trial, .ref c_tally, .int c_latestSpent])), (h_r, .inl (cI, 4, .inl vr))] → va_S A s.heap H locs → lv_has ls 6 [(3, .int x3), (2, .int x2), (0, .ref h_c), (1, .int x1)] → W p l e rm_C_ordersBeforeRow s m args below meth c H locs 0 0 Q (F0 m 4 ls []) := by
    clear hw hP hD hS hl
    intro n_4
    induction n_4 with
    | zero => exact fun _ _ h => h.elim
    | succ n_4 ih_4 =>
      intro x2 x3 hw H locs ls hP hD hS hl
      have hw : wpF_C_ordersBeforeRow_4 post vr x1 (gL2 (wpF_C_ordersBeforeRow_4 post vr x1) n_4) x2 x3 := hw
      rw [wpF_C_ordersBeforeRow_4] at hw
      refine lv_iload_n hx hb d_C_ordersBeforeRow_4 rfl (lv_at hl 0 rfl) ?_
      refine lv_iload_n hx hb d_C_ordersBeforeRow_5 rfl (lv_at hl 3 rfl) ?_
      refine lv_icmp_ge (tgt := 63) hx hb d_C_ordersBeforeRow_6 (by decide) (fun c6 => ?_) (fun c6 => ?_)
      · have hw := hw.1 c6
        refine lv_iload_n hx hb d_C_ordersBeforeRow_63 rfl (lv_at hl 1 rfl) ?_
        exact hret _ _ _ () _ _ hw rfl hP hD hS d_C_ordersBeforeRow_64
      · have hw := hw.2 c6
        refine lv_iconst (v := (nI 0)) hx hb d_C_ordersBeforeRow_9 (by decide) ?_
        refine lv_istore (lv' := [(4, .int (nI 0)), (3, .int x3), (2, .int x2), (0, .ref h_c), (1, .int x1)]) hx hb d_C_ordersBeforeRow_10 hl (by decide) rfl (fun ls hl => ?_)
        refine lv_iload_n hx hb d_C_ordersBeforeRow_12 rfl (lv_at hl 1 rfl) ?_
        refine lv_iconst (v := (nI 1)) hx hb d_C_ordersBeforeRow_13 (by decide) ?_
        refine lv_iadd hx hb d_C_ordersBeforeRow_14 ?_
        refine lv_istore (lv' := [(5, .int (x3 + (nI 1))), (4, .int (nI 0)), (3, .int x3), (2, .int x2), (0, .ref h_c), (1, .int x1)]) hx hb d_C_ordersBeforeRow_15 hl (by decide) rfl (fun ls hl => ?_)
        obtain ⟨n_17, hw⟩ := hw
        have k_17 : ∀ (n_17 : Nat) (x4 : Int32) (x5 : Int32), gL2 (wpF_C_ordersBeforeRow_17 (gL2 (wpF_C_ordersBeforeRow_4 post vr x1) n_4) vr x1 x2 x3) n_17 x4 x5 → ∀ (H : Heap) (locs : List Loc) (ls : Array Slot), va_P D gCl [(h_c, .inr (2, [.ref c_weights, .ref h_r, .ref c_tape, .ref c_trial, .ref c_tally, .int c_latestSpent])), (h_r, .inl (cI, 4, .inl vr))] H → va_D A [(h_c, .inr (2, [.ref c_weights, .ref h_r, .ref c_tape, .ref c_trial, .ref c_tally, .int c_latestSpent])), (h_r, .inl (cI, 4, .inl vr))] → va_S A s.heap H locs → lv_has ls 6 [(5, .int x5), (4, .int x4), (3, .int x3), (2, .int x2), (0, .ref h_c), (1, .int x1)] → W p l e rm_C_ordersBeforeRow s m args below meth c H locs 0 0 Q (F0 m 17 ls []) := by
          clear hw hP hD hS hl
          intro n_17
          induction n_17 with
          | zero => exact fun _ _ h => h.elim
          | succ n_17 ih_17 =>
            intro x4 x5 hw H locs ls hP hD hS hl
            have hw : wpF_C_ordersBeforeRow_17 (gL2 (wpF_C_ordersBeforeRow_4 post vr x1) n_4) vr x1 x2 x3 (gL2 (wpF_C_ordersBeforeRow_17 (gL2 (wpF_C_ordersBeforeRow_4 post vr x1) n_4) vr x1 x2 x3) n_17) x4 x5 := hw
            rw [wpF_C_ordersBeforeRow_17] at hw
            refine lv_iload hx hb d_C_ordersBeforeRow_17 (lv_at hl 0 rfl) ?_
            refine lv_iload_n hx hb d_C_ordersBeforeRow_19 rfl (lv_at hl 5 rfl) ?_
            refine lv_icmp_ge (tgt := 48) hx hb d_C_ordersBeforeRow_20 (by decide) (fun c20 => ?_) (fun c20 => ?_)
            · have hw := hw.1 c20
              refine lv_iload_n hx hb d_C_ordersBeforeRow_48 rfl (lv_at hl 3 rfl) ?_
              refine lv_iload_n hx hb d_C_ordersBeforeRow_49 rfl (lv_at hl 5 rfl) ?_
              refine lv_iload_n hx hb d_C_ordersBeforeRow_50 rfl (lv_at hl 2 rfl) ?_
              refine lv_isub hx hb d_C_ordersBeforeRow_51 ?_
              refine lv_imul hx hb d_C_ordersBeforeRow_52 ?_
              refine lv_iload hx hb d_C_ordersBeforeRow_53 (lv_at hl 1 rfl) ?_
              refine lv_iadd hx hb d_C_ordersBeforeRow_55 ?_
              refine lv_istore_n (lv' := [(2, .int ((x2 * (x1 - x3)) + x4)), (5, .int x5), (4, .int x4), (3, .int x3), (0, .ref h_c), (1, .int x1)]) hx hb d_C_ordersBeforeRow_56 rfl hl (by decide) rfl (fun ls hl => ?_)
              refine lv_iinc (v := (x3 + (nI 1))) (lv' := [(3, .int (x3 + (nI 1))), (2, .int ((x2 * (x1 - x3)) + x4)), (5, .int x5), (4, .int x4), (0, .ref h_c), (1, .int x1)]) hx hb d_C_ordersBeforeRow_57 hl (k := 3) rfl rfl (by decide) rfl (fun ls hl => ?_)
              refine lv_goto (tgt := 4) hx hb d_C_ordersBeforeRow_60 (by decide) ?_
              exact ih_4 _ _ hw _ _ _ hP hD hS (lv_sub hl [0, 1, 4, 5] rfl)
            · have hw := hw.2 c20
              refine lv_aload_n hx hb d_C_ordersBeforeRow_23 rfl (lv_at hl 4 rfl) ?_
              refine gGet fx hK hP 0 rfl inC rfl (k := 1) (by decide) w_56 rfl d_C_ordersBeforeRow_24 ?_
              refine lv_iload hx hb d_C_ordersBeforeRow_27 (lv_at hl 0 rfl) ?_
              refine va_iald hx hb hK hP 1 0 rfl rfl hw.1 d_C_ordersBeforeRow_29 ?_
              have hw := hw.2
              refine lv_aload_n hx hb d_C_ordersBeforeRow_30 rfl (lv_at hl 4 rfl) ?_
              refine gGet fx hK hP 0 rfl inC rfl (k := 1) (by decide) w_56 rfl d_C_ordersBeforeRow_31 ?_
              refine lv_iload_n hx hb d_C_ordersBeforeRow_34 rfl (lv_at hl 2 rfl) ?_
              refine va_iald hx hb hK hP 1 0 rfl rfl hw.1 d_C_ordersBeforeRow_35 ?_
              have hw := hw.2
              refine lv_icmp_ge (tgt := 42) hx hb d_C_ordersBeforeRow_36 (by decide) (fun c36 => ?_) (fun c36 => ?_)
              · have hw := hw.1 c36
                refine lv_iinc (v := (x5 + (nI 1))) (lv' := [(5, .int (x5 + (nI 1))), (4, .int x4), (3, .int x3), (2, .int x2), (0, .ref h_c), (1, .int x1)]) hx hb d_C_ordersBeforeRow_42 hl (k := 0) rfl rfl (by decide) rfl (fun ls hl => ?_)
                refine lv_goto (tgt := 17) hx hb d_C_ordersBeforeRow_45 (by decide) ?_
                exact ih_17 _ _ hw _ _ _ hP hD hS (lv_sub hl [0, 1, 2, 3, 4, 5] rfl)
              · have hw := hw.2 c36
                refine lv_iinc (v := (x4 + (nI 1))) (lv' := [(4, .int (x4 + (nI 1))), (5, .int x5), (3, .int x3), (2, .int x2), (0, .ref h_c), (1, .int x1)]) hx hb d_C_ordersBeforeRow_39 hl (k := 1) rfl rfl (by decide) rfl (fun ls hl => ?_)
                refine lv_iinc (v := (x5 + (nI 1))) (lv' := [(5, .int (x5 + (nI 1))), (4, .int (x4 + (nI 1))), (3, .int x3), (2, .int x2), (0, .ref h_c), (1, .int x1)]) hx hb d_C_ordersBeforeRow_42 hl (k := 1) rfl rfl (by decide) rfl (fun ls hl => ?_)
                refine lv_goto (tgt := 17) hx hb d_C_ordersBeforeRow_45 (by decide) ?_
                exact ih_17 _ _ hw _ _ _ hP hD hS (lv_sub hl [0, 1, 2, 3, 4, 5] rfl)
        exact k_17 n_17 _ _ hw _ _ _ hP hD hS (lv_sub hl [0, 1, 2, 3, 4, 5] rfl)
  exact k_4 n_4 _ _ hw _ _ _ hP hD hS (lv_sub hl [0, 1, 2, 3] rfl)
def wpF_C_order_24 (post : Int32 → (Nat → Int32) → Int32 → Prop) (Nb : Nat) (c_latestSpent : Int32) (t_size : Int32) (vb : Nat → Int32) (x2 : Int32) (K_24 : (Nat → Int32) → Int32 → Int32 → Prop) (vr : Nat → Int32) (t_at : Int32) (x3 : Int32) : Prop :=
  ((x3 < (nI 1) → wp_C_ordersBeforeRow (fun r_1 => post r_1 vr t_at) c_latestSpent vr x2) ∧ (¬ x3 < (nI 1) → wp_C_plain (fun r_2 tat_3 => ((¬ r_2 = (-1) → (vp_in x3 4 ∧ (vp_in r_2 4 ∧ (vp_in x3 4 ∧ (vp_in r_2 4 ∧ K_24 (upd (upd vr (x3).toNatClampNeg (vr (r_2).toNatClampNeg)) (r_2).toNatClampNeg (vr (x3).toNatClampNeg)) tat_3 (x3 + (-1))))))) ∧ (r_2 = (-1) → post (-1) vr tat_3))) Nb t_size t_at vb (x3 + (nI 1))))
def wpF_C_order_2 (post : Int32 → (Nat → Int32) → Int32 → Prop) (Nb : Nat) (c_latestSpent : Int32) (t_size : Int32) (t_at : Int32) (vb : Nat → Int32) (x2 : Int32) (K_2 : (Nat → Int32) → Int32 → Prop) (vr : Nat → Int32) (x3 : Int32) : Prop :=
  ((x2 ≤ x3 → (∃ n, gL3 (wpF_C_order_24 post Nb c_latestSpent t_size vb x2) n vr t_at (x2 - (nI 1)))) ∧ (¬ x2 ≤ x3 → (vp_in x3 4 ∧ K_2 (upd vr (x3).toNatClampNeg x3) (x3 + (nI 1)))))
def wp_C_order (post : Int32 → (Nat → Int32) → Int32 → Prop) (Nb : Nat) (c_latestSpent : Int32) (vr : Nat → Int32) (t_size : Int32) (t_at : Int32) (vb : Nat → Int32) (x2 : Int32) : Prop :=
  (∃ n, gL2 (wpF_C_order_2 post Nb c_latestSpent t_size t_at vb x2) n vr (nI 0))
abbrev rm_C_order : Room := { frames := 3, cells := 0, slots := 0, locals := 69 }
theorem mf_C_order : gFV y_C_order b_C_order 6 (some .int) 2 := ⟨w_152, w_1, ⟨by decide, by decide, by decide +kernel⟩, w_151, ws_1_2⟩
set_option maxHeartbeats 4000000 in
set_option maxRecDepth 100000 in
theorem c_C_order (l : Launch) (D : va_G) (cI : ClassId) (h_c : Nat) (h_r : Nat) (h_t : Nat) (h_b : Nat) (c_weights : Nat) (c_tape : Nat) (c_trial : Nat) (c_tally : Nat) (Nb : Nat) (c_latestSpent : Int32) (vr : Nat → Int32) (t_size : Int32) (t_at : Int32) (vb : Nat → Int32) (x2 : Int32) (post : Int32 → (Nat → Int32) → Int32 → Prop) (hw : wp_C_order post Nb c_latestSpent vr t_size t_at vb x2) :
    gMi l D [(cI, .int)] y_C_order b_C_order 6 .int rm_C_order [.ref h_c, .ref h_t, .int x2] [(h_c, .inr (2, [.ref c_weights, .ref h_r, .ref c_tape, .ref c_trial, .ref c_tally, .int c_latestSpent])), (h_r, .inl (cI, 4, .inl vr)), (h_t, .inr (1, [.ref h_b, .int t_size, .int t_at])), (h_b, .inl (cI, Nb, .inl vb))] (S := (Nat → Int32) × Int32) (fun u => [(h_c, .inr (2, [.ref c_weights, .ref h_r, .ref c_tape, .ref c_trial, .ref c_tally, .int c_latestSpent])), (h_r, .inl (cI, 4, .inl u.1)), (h_t, .inr (1, [.ref h_b, .int t_size, .int u.2])), (h_b, .inl (cI, Nb, .inl vb))]) (fun r u => post r u.1 u.2) := by
  rw [wp_C_order] at hw
  refine gMi.of (by decide) (Nat.le_of_ble_eq_true rfl) (fun p e s m args below meth c A Q ls hx hb hml hown hts hN hK hA hP hD hret hl => ?_)
  have fx : CallFix p m c b_C_order 6 s args gG "TapeCounter" := ⟨hx, hb, hml, hown, hts⟩
  have hl : lv_has ls 6 [(0, .ref h_c), (1, .ref h_t), (2, .int x2)] := hl
  have hS : va_S A s.heap s.heap [] := va_S.rf
  refine lv_iconst (v := (nI 0)) hx hb d_C_order_0 (by decide) ?_
  refine lv_istore_n (lv' := [(3, .int (nI 0)), (0, .ref h_c), (1, .ref h_t), (2, .int x2)]) hx hb d_C_order_1 rfl hl (by decide) rfl (fun ls hl => ?_)
  obtain ⟨n_2, hw⟩ := hw
  have k_2 : ∀ (n_2 : Nat) (vr : Nat → Int32) (x3 : Int32), gL2 (wpF_C_order_2 post Nb c_latestSpent t_size t_at vb x2) n_2 vr x3 → ∀ (H : Heap) (locs : List Loc) (ls : Array Slot), va_P D gCl [(h_c, .inr (2, [.ref c_weights, .ref h_r, .ref c_tape, .ref c_trial, .ref c_tally, .int c_latestSpent])), (h_r, .inl (cI, 4, .inl vr)), (h_t, .inr (1, [.ref h_b, .int t_size, .int t_at])), (h_b, .inl (cI, Nb, .inl vb))] H → va_D A [(h_c, .inr (2, [.ref c_weights, .ref h_r, .ref c_tape, .ref c_trial, .ref c_tally, .int c_latestSpent])), (h_r, .inl (cI, 4, .inl vr)), (h_t, .inr (1, [.ref h_b, .int t_size, .int t_at])), (h_b, .inl (cI, Nb, .inl vb))] → va_S A s.heap H locs → lv_has ls 6 [(3, .int x3), (0, .ref h_c), (1, .ref h_t), (2, .int x2)] → W p l e rm_C_order s m args below meth c H locs 0 0 Q (F0 m 2 ls []) := by
    clear hw hP hD hS hl
    intro n_2
    induction n_2 with
    | zero => exact fun _ _ h => h.elim
    | succ n_2 ih_2 =>
      intro vr x3 hw H locs ls hP hD hS hl
      have hw : wpF_C_order_2 post Nb c_latestSpent t_size t_at vb x2 (gL2 (wpF_C_order_2 post Nb c_latestSpent t_size t_at vb x2) n_2) vr x3 := hw
      rw [wpF_C_order_2] at hw
      refine lv_iload_n hx hb d_C_order_2 rfl (lv_at hl 0 rfl) ?_
      refine lv_iload_n hx hb d_C_order_3 rfl (lv_at hl 3 rfl) ?_
      refine lv_icmp_ge (tgt := 20) hx hb d_C_order_4 (by decide) (fun c4 => ?_) (fun c4 => ?_)
      · have hw := hw.1 c4
        refine lv_iload_n hx hb d_C_order_20 rfl (lv_at hl 3 rfl) ?_
        refine lv_iconst (v := (nI 1)) hx hb d_C_order_21 (by decide) ?_
        refine lv_isub hx hb d_C_order_22 ?_
        refine lv_istore_n (lv' := [(3, .int (x2 - (nI 1))), (0, .ref h_c), (1, .ref h_t), (2, .int x2)]) hx hb d_C_order_23 rfl hl (by decide) rfl (fun ls hl => ?_)
        obtain ⟨n_24, hw⟩ := hw
        have k_24 : ∀ (n_24 : Nat) (vr : Nat → Int32) (t_at : Int32) (x3 : Int32), gL3 (wpF_C_order_24 post Nb c_latestSpent t_size vb x2) n_24 vr t_at x3 → ∀ (H : Heap) (locs : List Loc) (ls : Array Slot), va_P D gCl [(h_c, .inr (2, [.ref c_weights, .ref h_r, .ref c_tape, .ref c_trial, .ref c_tally, .int c_latestSpent])), (h_r, .inl (cI, 4, .inl vr)), (h_t, .inr (1, [.ref h_b, .int t_size, .int t_at])), (h_b, .inl (cI, Nb, .inl vb))] H → va_D A [(h_c, .inr (2, [.ref c_weights, .ref h_r, .ref c_tape, .ref c_trial, .ref c_tally, .int c_latestSpent])), (h_r, .inl (cI, 4, .inl vr)), (h_t, .inr (1, [.ref h_b, .int t_size, .int t_at])), (h_b, .inl (cI, Nb, .inl vb))] → va_S A s.heap H locs → lv_has ls 6 [(3, .int x3), (0, .ref h_c), (1, .ref h_t), (2, .int x2)] → W p l e rm_C_order s m args below meth c H locs 0 0 Q (F0 m 24 ls []) := by
          clear hw hP hD hS hl
          intro n_24
          induction n_24 with
          | zero => exact fun _ _ _ h => h.elim
          | succ n_24 ih_24 =>
            intro vr t_at x3 hw H locs ls hP hD hS hl
            have hw : wpF_C_order_24 post Nb c_latestSpent t_size vb x2 (gL3 (wpF_C_order_24 post Nb c_latestSpent t_size vb x2) n_24) vr t_at x3 := hw
            rw [wpF_C_order_24] at hw
            refine lv_iload_n hx hb d_C_order_24 rfl (lv_at hl 0 rfl) ?_
            refine lv_iconst (v := (nI 1)) hx hb d_C_order_25 (by decide) ?_
            refine lv_icmp_lt (tgt := 82) hx hb d_C_order_26 (by decide) (fun c26 => ?_) (fun c26 => ?_)
            · have hw := hw.1 c26
              refine lv_aload_n hx hb d_C_order_82 rfl (lv_at hl 1 rfl) ?_
              refine lv_iload_n hx hb d_C_order_83 rfl (lv_at hl 3 rfl) ?_
              refine g_cVi (wr := [(h_t, .inr (1, [.ref h_b, .int t_size, .int t_at])), (h_b, .inl (cI, Nb, .inl vb))]) fx (c_C_ordersBeforeRow l D cI h_c h_r c_weights c_tape c_trial c_tally c_latestSpent vr x2 _ hw) mf_C_ordersBeforeRow w_153 ⟨rfl, rfl⟩ ⟨Nat.le_of_ble_eq_true rfl, Nat.le_of_ble_eq_true rfl⟩ hN hK hA hP hD hS [0, 1] [2, 3] rfl rfl rfl rfl (by decide) 0 rfl rfl rfl rfl hl.1 (Nat.le_of_ble_eq_true rfl) d_C_order_84 ⟨Nat.zero_le _, Nat.zero_le _⟩ (fun r_1 u H locs hw hP hD hS => ?_)
              try dsimp only at hw
              have hP : va_P D gCl [(h_t, .inr (1, [.ref h_b, .int t_size, .int t_at])), (h_b, .inl (cI, Nb, .inl vb)), (h_c, .inr (2, [.ref c_weights, .ref h_r, .ref c_tape, .ref c_trial, .ref c_tally, .int c_latestSpent])), (h_r, .inl (cI, 4, .inl vr))] H := hP
              have hD : va_D A [(h_t, .inr (1, [.ref h_b, .int t_size, .int t_at])), (h_b, .inl (cI, Nb, .inl vb)), (h_c, .inr (2, [.ref c_weights, .ref h_r, .ref c_tape, .ref c_trial, .ref c_tally, .int c_latestSpent])), (h_r, .inl (cI, 4, .inl vr))] := hD
              exact hret _ _ _ (vr, t_at) _ _ hw rfl (gSubP hP [2, 3, 0, 1] rfl) (hD.sub [2, 3, 0, 1] rfl rfl) hS d_C_order_87
            · have hw := hw.2 c26
              refine lv_aload_n hx hb d_C_order_29 rfl (lv_at hl 2 rfl) ?_
              refine lv_iload_n hx hb d_C_order_30 rfl (lv_at hl 0 rfl) ?_
              refine lv_iconst (v := (nI 1)) hx hb d_C_order_31 (by decide) ?_
              refine lv_iadd hx hb d_C_order_32 ?_
              refine g_cSi (wr := [(h_c, .inr (2, [.ref c_weights, .ref h_r, .ref c_tape, .ref c_trial, .ref c_tally, .int c_latestSpent])), (h_r, .inl (cI, 4, .inl vr))]) fx (c_C_plain l D cI h_t h_b Nb t_size t_at vb (x3 + (nI 1)) _ hw) mf_C_plain w_122 ⟨rfl, rfl⟩ ⟨Nat.le_of_ble_eq_true rfl, Nat.le_of_ble_eq_true rfl⟩ hN hK hA hP hD hS [2, 3] [0, 1] rfl rfl rfl rfl (by decide) rfl rfl hl.1 (Nat.le_of_ble_eq_true rfl) d_C_order_33 ⟨Nat.zero_le _, Nat.zero_le _⟩ (fun r_2 u H locs hw hP hD hS => ?_)
              obtain ⟨tat_3, rfl⟩ : ∃ z, z = u := ⟨_, rfl⟩
              try dsimp only at hw
              have hP : va_P D gCl [(h_c, .inr (2, [.ref c_weights, .ref h_r, .ref c_tape, .ref c_trial, .ref c_tally, .int c_latestSpent])), (h_r, .inl (cI, 4, .inl vr)), (h_t, .inr (1, [.ref h_b, .int t_size, .int tat_3])), (h_b, .inl (cI, Nb, .inl vb))] H := hP
              have hD : va_D A [(h_c, .inr (2, [.ref c_weights, .ref h_r, .ref c_tape, .ref c_trial, .ref c_tally, .int c_latestSpent])), (h_r, .inl (cI, 4, .inl vr)), (h_t, .inr (1, [.ref h_b, .int t_size, .int tat_3])), (h_b, .inl (cI, Nb, .inl vb))] := hD
              refine lv_istore (lv' := [(4, .int r_2), (3, .int x3), (0, .ref h_c), (1, .ref h_t), (2, .int x2)]) hx hb d_C_order_36 hl (by decide) rfl (fun ls hl => ?_)
              refine lv_iload hx hb d_C_order_38 (lv_at hl 0 rfl) ?_
              refine lv_iconst (v := (-1)) hx hb d_C_order_40 (by decide) ?_
              refine lv_icmp_ne (tgt := 46) hx hb d_C_order_41 (by decide) (fun c41 => ?_) (fun c41 => ?_)
              · have hw := hw.1 c41
                refine lv_aload_n hx hb d_C_order_46 rfl (lv_at hl 2 rfl) ?_
                refine gGet fx hK hP 0 rfl inC rfl (k := 1) (by decide) w_56 rfl d_C_order_47 ?_
                refine lv_iload_n hx hb d_C_order_50 rfl (lv_at hl 1 rfl) ?_
                refine va_iald hx hb hK hP 1 0 rfl rfl hw.1 d_C_order_51 ?_
                have hw := hw.2
                refine lv_istore (lv' := [(5, .int (vr (x3).toNatClampNeg)), (4, .int r_2), (3, .int x3), (0, .ref h_c), (1, .ref h_t), (2, .int x2)]) hx hb d_C_order_52 hl (by decide) rfl (fun ls hl => ?_)
                refine lv_aload_n hx hb d_C_order_54 rfl (lv_at hl 3 rfl) ?_
                refine gGet fx hK hP 0 rfl inC rfl (k := 1) (by decide) w_56 rfl d_C_order_55 ?_
                refine lv_iload_n hx hb d_C_order_58 rfl (lv_at hl 2 rfl) ?_
                refine lv_aload_n hx hb d_C_order_59 rfl (lv_at hl 3 rfl) ?_
                refine gGet fx hK hP 0 rfl inC rfl (k := 1) (by decide) w_56 rfl d_C_order_60 ?_
                refine lv_iload hx hb d_C_order_63 (lv_at hl 1 rfl) ?_
                refine va_iald hx hb hK hP 1 0 rfl rfl hw.1 d_C_order_65 ?_
                have hw := hw.2
                refine va_iast hx hb hK hP hD hS 1 0 rfl rfl hw.1 d_C_order_66 (fun H locs hP hD hS => ?_)
                have hw := hw.2
                have hP : va_P D gCl [(h_c, .inr (2, [.ref c_weights, .ref h_r, .ref c_tape, .ref c_trial, .ref c_tally, .int c_latestSpent])), (h_r, .inl (cI, 4, .inl (upd vr (x3).toNatClampNeg (vr (r_2).toNatClampNeg)))), (h_t, .inr (1, [.ref h_b, .int t_size, .int tat_3])), (h_b, .inl (cI, Nb, .inl vb))] H := hP
                have hD : va_D A [(h_c, .inr (2, [.ref c_weights, .ref h_r, .ref c_tape, .ref c_trial, .ref c_tally, .int c_latestSpent])), (h_r, .inl (cI, 4, .inl (upd vr (x3).toNatClampNeg (vr (r_2).toNatClampNeg)))), (h_t, .inr (1, [.ref h_b, .int t_size, .int tat_3])), (h_b, .inl (cI, Nb, .inl vb))] := hD
                refine lv_aload_n hx hb d_C_order_67 rfl (lv_at hl 3 rfl) ?_
                refine gGet fx hK hP 0 rfl inC rfl (k := 1) (by decide) w_56 rfl d_C_order_68 ?_
                refine lv_iload hx hb d_C_order_71 (lv_at hl 1 rfl) ?_
                refine lv_iload hx hb d_C_order_73 (lv_at hl 0 rfl) ?_
                refine va_iast hx hb hK hP hD hS 1 0 rfl rfl hw.1 d_C_order_75 (fun H locs hP hD hS => ?_)
                have hw := hw.2
                have hP : va_P D gCl [(h_c, .inr (2, [.ref c_weights, .ref h_r, .ref c_tape, .ref c_trial, .ref c_tally, .int c_latestSpent])), (h_r, .inl (cI, 4, .inl (upd (upd vr (x3).toNatClampNeg (vr (r_2).toNatClampNeg)) (r_2).toNatClampNeg (vr (x3).toNatClampNeg)))), (h_t, .inr (1, [.ref h_b, .int t_size, .int tat_3])), (h_b, .inl (cI, Nb, .inl vb))] H := hP
                have hD : va_D A [(h_c, .inr (2, [.ref c_weights, .ref h_r, .ref c_tape, .ref c_trial, .ref c_tally, .int c_latestSpent])), (h_r, .inl (cI, 4, .inl (upd (upd vr (x3).toNatClampNeg (vr (r_2).toNatClampNeg)) (r_2).toNatClampNeg (vr (x3).toNatClampNeg)))), (h_t, .inr (1, [.ref h_b, .int t_size, .int tat_3])), (h_b, .inl (cI, Nb, .inl vb))] := hD
                refine lv_iinc (v := (x3 + (-1))) (lv' := [(3, .int (x3 + (-1))), (5, .int (vr (x3).toNatClampNeg)), (4, .int r_2), (0, .ref h_c), (1, .ref h_t), (2, .int x2)]) hx hb d_C_order_76 hl (k := 2) rfl (by rw [i32_m1]) (by decide) rfl (fun ls hl => ?_)
                refine lv_goto (tgt := 24) hx hb d_C_order_79 (by decide) ?_
                exact ih_24 _ _ _ hw _ _ _ hP hD hS (lv_sub hl [0, 3, 4, 5] rfl)
              · have hw := hw.2 c41
                refine lv_iconst (v := (-1)) hx hb d_C_order_44 (by decide) ?_
                exact hret _ _ _ (vr, tat_3) _ _ hw rfl hP hD hS d_C_order_45
        exact k_24 n_24 _ _ _ hw _ _ _ hP hD hS (lv_sub hl [0, 1, 2, 3] rfl)
      · have hw := hw.2 c4
        refine lv_aload_n hx hb d_C_order_7 rfl (lv_at hl 1 rfl) ?_
        refine gGet fx hK hP 0 rfl inC rfl (k := 1) (by decide) w_56 rfl d_C_order_8 ?_
        refine lv_iload_n hx hb d_C_order_11 rfl (lv_at hl 0 rfl) ?_
        refine lv_iload_n hx hb d_C_order_12 rfl (lv_at hl 0 rfl) ?_
        refine va_iast hx hb hK hP hD hS 1 0 rfl rfl hw.1 d_C_order_13 (fun H locs hP hD hS => ?_)
        have hw := hw.2
        have hP : va_P D gCl [(h_c, .inr (2, [.ref c_weights, .ref h_r, .ref c_tape, .ref c_trial, .ref c_tally, .int c_latestSpent])), (h_r, .inl (cI, 4, .inl (upd vr (x3).toNatClampNeg x3))), (h_t, .inr (1, [.ref h_b, .int t_size, .int t_at])), (h_b, .inl (cI, Nb, .inl vb))] H := hP
        have hD : va_D A [(h_c, .inr (2, [.ref c_weights, .ref h_r, .ref c_tape, .ref c_trial, .ref c_tally, .int c_latestSpent])), (h_r, .inl (cI, 4, .inl (upd vr (x3).toNatClampNeg x3))), (h_t, .inr (1, [.ref h_b, .int t_size, .int t_at])), (h_b, .inl (cI, Nb, .inl vb))] := hD
        refine lv_iinc (v := (x3 + (nI 1))) (lv' := [(3, .int (x3 + (nI 1))), (0, .ref h_c), (1, .ref h_t), (2, .int x2)]) hx hb d_C_order_14 hl (k := 0) rfl rfl (by decide) rfl (fun ls hl => ?_)
        refine lv_goto (tgt := 2) hx hb d_C_order_17 (by decide) ?_
        exact ih_2 _ _ hw _ _ _ hP hD hS (lv_sub hl [0, 1, 2, 3] rfl)
  exact k_2 n_2 _ _ hw _ _ _ hP hD hS (lv_sub hl [0, 1, 2, 3] rfl)
def wpF_C_share_21 (post : Int32 → Int32 → Prop) (vw : Nat → Int32) (t_at : Int32) (x2 : Int32) (K_21 : Int32 → Int32 → Prop) (x3 : Int32) (x4 : Int32) : Prop :=
  (((nI 8) ≤ x4 → post (-1) t_at) ∧ (¬ (nI 8) ≤ x4 → (vp_in x4 8 ∧ (((x3 + (vw (x4).toNatClampNeg)) ≤ x2 → K_21 (x3 + (vw (x4).toNatClampNeg)) (x4 + (nI 1))) ∧ (¬ (x3 + (vw (x4).toNatClampNeg)) ≤ x2 → post x4 t_at)))))
def wp_C_share (post : Int32 → Int32 → Prop) (Nb : Nat) (c_latestSpent : Int32) (vw : Nat → Int32) (t_size : Int32) (t_at : Int32) (vb : Nat → Int32) : Prop :=
  wp_C_weightSum (fun r_1 => wp_C_plain (fun r_2 tat_3 => ((¬ r_2 = (-1) → (∃ n, gL2 (wpF_C_share_21 post vw tat_3 r_2) n (nI 0) (nI 0))) ∧ (r_2 = (-1) → post (-1) tat_3))) Nb t_size t_at vb r_1) c_latestSpent vw
abbrev rm_C_share : Room := { frames := 3, cells := 0, slots := 0, locals := 69 }
theorem mf_C_share : gFV y_C_share b_C_share 5 (some .int) 1 := ⟨w_163, w_1, ⟨by decide, by decide, by decide +kernel⟩, w_162, ws_1_4⟩
set_option maxHeartbeats 4000000 in
set_option maxRecDepth 100000 in
theorem c_C_share (l : Launch) (D : va_G) (cI : ClassId) (h_c : Nat) (h_w : Nat) (h_t : Nat) (h_b : Nat) (c_row : Nat) (c_tape : Nat) (c_trial : Nat) (c_tally : Nat) (Nb : Nat) (c_latestSpent : Int32) (vw : Nat → Int32) (t_size : Int32) (t_at : Int32) (vb : Nat → Int32) (post : Int32 → Int32 → Prop) (hw : wp_C_share post Nb c_latestSpent vw t_size t_at vb) :
    gMi l D [(cI, .int)] y_C_share b_C_share 5 .int rm_C_share [.ref h_c, .ref h_t] [(h_c, .inr (2, [.ref h_w, .ref c_row, .ref c_tape, .ref c_trial, .ref c_tally, .int c_latestSpent])), (h_w, .inl (cI, 8, .inl vw)), (h_t, .inr (1, [.ref h_b, .int t_size, .int t_at])), (h_b, .inl (cI, Nb, .inl vb))] (S := Int32) (fun u => [(h_c, .inr (2, [.ref h_w, .ref c_row, .ref c_tape, .ref c_trial, .ref c_tally, .int c_latestSpent])), (h_w, .inl (cI, 8, .inl vw)), (h_t, .inr (1, [.ref h_b, .int t_size, .int u])), (h_b, .inl (cI, Nb, .inl vb))]) (fun r u => post r u) := by
  rw [wp_C_share] at hw
  refine gMi.of (by decide) (Nat.le_of_ble_eq_true rfl) (fun p e s m args below meth c A Q ls hx hb hml hown hts hN hK hA hP hD hret hl => ?_)
  have fx : CallFix p m c b_C_share 5 s args gG "TapeCounter" := ⟨hx, hb, hml, hown, hts⟩
  have hl : lv_has ls 5 [(0, .ref h_c), (1, .ref h_t)] := hl
  have hS : va_S A s.heap s.heap [] := va_S.rf
  refine lv_aload_n hx hb d_C_share_0 rfl (lv_at hl 1 rfl) ?_
  refine lv_aload_n hx hb d_C_share_1 rfl (lv_at hl 0 rfl) ?_
  refine g_cVi (wr := [(h_t, .inr (1, [.ref h_b, .int t_size, .int t_at])), (h_b, .inl (cI, Nb, .inl vb))]) fx (c_C_weightSum l D cI h_c h_w c_row c_tape c_trial c_tally c_latestSpent vw _ hw) mf_C_weightSum w_105 ⟨rfl, rfl⟩ ⟨Nat.le_of_ble_eq_true rfl, Nat.le_of_ble_eq_true rfl⟩ hN hK hA hP hD hS [0, 1] [2, 3] rfl rfl rfl rfl (by decide) 0 rfl rfl rfl rfl hl.1 (Nat.le_of_ble_eq_true rfl) d_C_share_2 ⟨Nat.zero_le _, Nat.zero_le _⟩ (fun r_1 u H locs hw hP hD hS => ?_)
  try dsimp only at hw
  have hP : va_P D gCl [(h_t, .inr (1, [.ref h_b, .int t_size, .int t_at])), (h_b, .inl (cI, Nb, .inl vb)), (h_c, .inr (2, [.ref h_w, .ref c_row, .ref c_tape, .ref c_trial, .ref c_tally, .int c_latestSpent])), (h_w, .inl (cI, 8, .inl vw))] H := hP
  have hD : va_D A [(h_t, .inr (1, [.ref h_b, .int t_size, .int t_at])), (h_b, .inl (cI, Nb, .inl vb)), (h_c, .inr (2, [.ref h_w, .ref c_row, .ref c_tape, .ref c_trial, .ref c_tally, .int c_latestSpent])), (h_w, .inl (cI, 8, .inl vw))] := hD
  refine g_cSi (wr := [(h_c, .inr (2, [.ref h_w, .ref c_row, .ref c_tape, .ref c_trial, .ref c_tally, .int c_latestSpent])), (h_w, .inl (cI, 8, .inl vw))]) fx (c_C_plain l D cI h_t h_b Nb t_size t_at vb r_1 _ hw) mf_C_plain w_122 ⟨rfl, rfl⟩ ⟨Nat.le_of_ble_eq_true rfl, Nat.le_of_ble_eq_true rfl⟩ hN hK hA hP hD hS [0, 1] [2, 3] rfl rfl rfl rfl (by decide) rfl rfl hl.1 (Nat.le_of_ble_eq_true rfl) d_C_share_5 ⟨Nat.zero_le _, Nat.zero_le _⟩ (fun r_2 u H locs hw hP hD hS => ?_)
  obtain ⟨tat_3, rfl⟩ : ∃ z, z = u := ⟨_, rfl⟩
  try dsimp only at hw
  have hP : va_P D gCl [(h_c, .inr (2, [.ref h_w, .ref c_row, .ref c_tape, .ref c_trial, .ref c_tally, .int c_latestSpent])), (h_w, .inl (cI, 8, .inl vw)), (h_t, .inr (1, [.ref h_b, .int t_size, .int tat_3])), (h_b, .inl (cI, Nb, .inl vb))] H := hP
  have hD : va_D A [(h_c, .inr (2, [.ref h_w, .ref c_row, .ref c_tape, .ref c_trial, .ref c_tally, .int c_latestSpent])), (h_w, .inl (cI, 8, .inl vw)), (h_t, .inr (1, [.ref h_b, .int t_size, .int tat_3])), (h_b, .inl (cI, Nb, .inl vb))] := hD
  refine lv_istore_n (lv' := [(2, .int r_2), (0, .ref h_c), (1, .ref h_t)]) hx hb d_C_share_8 rfl hl (by decide) rfl (fun ls hl => ?_)
  refine lv_iload_n hx hb d_C_share_9 rfl (lv_at hl 0 rfl) ?_
  refine lv_iconst (v := (-1)) hx hb d_C_share_10 (by decide) ?_
  refine lv_icmp_ne (tgt := 16) hx hb d_C_share_11 (by decide) (fun c11 => ?_) (fun c11 => ?_)
  · have hw := hw.1 c11
    refine lv_iconst (v := (nI 0)) hx hb d_C_share_16 (by decide) ?_
    refine lv_istore_n (lv' := [(3, .int (nI 0)), (2, .int r_2), (0, .ref h_c), (1, .ref h_t)]) hx hb d_C_share_17 rfl hl (by decide) rfl (fun ls hl => ?_)
    refine lv_iconst (v := (nI 0)) hx hb d_C_share_18 (by decide) ?_
    refine lv_istore (lv' := [(4, .int (nI 0)), (3, .int (nI 0)), (2, .int r_2), (0, .ref h_c), (1, .ref h_t)]) hx hb d_C_share_19 hl (by decide) rfl (fun ls hl => ?_)
    obtain ⟨n_21, hw⟩ := hw
    have k_21 : ∀ (t_at : Int32) (x2 : Int32) (n_21 : Nat) (x3 : Int32) (x4 : Int32), gL2 (wpF_C_share_21 post vw t_at x2) n_21 x3 x4 → ∀ (H : Heap) (locs : List Loc) (ls : Array Slot), va_P D gCl [(h_c, .inr (2, [.ref h_w, .ref c_row, .ref c_tape, .ref c_trial, .ref c_tally, .int c_latestSpent])), (h_w, .inl (cI, 8, .inl vw)), (h_t, .inr (1, [.ref h_b, .int t_size, .int t_at])), (h_b, .inl (cI, Nb, .inl vb))] H → va_D A [(h_c, .inr (2, [.ref h_w, .ref c_row, .ref c_tape, .ref c_trial, .ref c_tally, .int c_latestSpent])), (h_w, .inl (cI, 8, .inl vw)), (h_t, .inr (1, [.ref h_b, .int t_size, .int t_at])), (h_b, .inl (cI, Nb, .inl vb))] → va_S A s.heap H locs → lv_has ls 5 [(4, .int x4), (3, .int x3), (2, .int x2), (0, .ref h_c)] → W p l e rm_C_share s m args below meth c H locs 0 0 Q (F0 m 21 ls []) := by
      clear hw hP hD hS hl
      intro t_at x2 n_21
      induction n_21 with
      | zero => exact fun _ _ h => h.elim
      | succ n_21 ih_21 =>
        intro x3 x4 hw H locs ls hP hD hS hl
        have hw : wpF_C_share_21 post vw t_at x2 (gL2 (wpF_C_share_21 post vw t_at x2) n_21) x3 x4 := hw
        rw [wpF_C_share_21] at hw
        refine lv_iload hx hb d_C_share_21 (lv_at hl 0 rfl) ?_
        refine lv_bipush (v := (nI 8)) hx hb d_C_share_23 (by decide) ?_
        refine lv_icmp_ge (tgt := 52) hx hb d_C_share_25 (by decide) (fun c25 => ?_) (fun c25 => ?_)
        · have hw := hw.1 c25
          refine lv_iconst (v := (-1)) hx hb d_C_share_52 (by decide) ?_
          exact hret _ _ _ t_at _ _ hw rfl hP hD hS d_C_share_53
        · have hw := hw.2 c25
          refine lv_iload_n hx hb d_C_share_28 rfl (lv_at hl 1 rfl) ?_
          refine lv_aload_n hx hb d_C_share_29 rfl (lv_at hl 3 rfl) ?_
          refine gGet fx hK hP 0 rfl inC rfl (k := 0) (by decide) w_55 rfl d_C_share_30 ?_
          refine lv_iload hx hb d_C_share_33 (lv_at hl 0 rfl) ?_
          refine va_iald hx hb hK hP 1 0 rfl rfl hw.1 d_C_share_35 ?_
          have hw := hw.2
          refine lv_iadd hx hb d_C_share_36 ?_
          refine lv_istore_n (lv' := [(3, .int (x3 + (vw (x4).toNatClampNeg))), (4, .int x4), (2, .int x2), (0, .ref h_c)]) hx hb d_C_share_37 rfl hl (by decide) rfl (fun ls hl => ?_)
          refine lv_iload_n hx hb d_C_share_38 rfl (lv_at hl 0 rfl) ?_
          refine lv_iload_n hx hb d_C_share_39 rfl (lv_at hl 2 rfl) ?_
          refine lv_icmp_le (tgt := 46) hx hb d_C_share_40 (by decide) (fun c40 => ?_) (fun c40 => ?_)
          · have hw := hw.1 c40
            refine lv_iinc (v := (x4 + (nI 1))) (lv' := [(4, .int (x4 + (nI 1))), (3, .int (x3 + (vw (x4).toNatClampNeg))), (2, .int x2), (0, .ref h_c)]) hx hb d_C_share_46 hl (k := 1) rfl rfl (by decide) rfl (fun ls hl => ?_)
            refine lv_goto (tgt := 21) hx hb d_C_share_49 (by decide) ?_
            exact ih_21 _ _ hw _ _ _ hP hD hS (lv_sub hl [0, 1, 2, 3] rfl)
          · have hw := hw.2 c40
            refine lv_iload hx hb d_C_share_43 (lv_at hl 1 rfl) ?_
            exact hret _ _ _ t_at _ _ hw rfl hP hD hS d_C_share_45
    exact k_21 tat_3 r_2 n_21 _ _ hw _ _ _ hP hD hS (lv_sub hl [0, 1, 2, 3] rfl)
  · have hw := hw.2 c11
    refine lv_iconst (v := (-1)) hx hb d_C_share_14 (by decide) ?_
    exact hret _ _ _ tat_3 _ _ hw rfl hP hD hS d_C_share_15
def wp_C_sample (post : Int32 → (Nat → Int32) → Int32 → Prop) (Nb : Nat) (c_latestSpent : Int32) (vw : Nat → Int32) (vr : Nat → Int32) (t_size : Int32) (t_at : Int32) (vb : Nat → Int32) (x2 : Int32) (x3 : Int32) (x4 : Int32) : Prop :=
  ((x2 = nI 0 → wp_C_plain (fun r_1 tat_2 => post r_1 vr tat_2) Nb t_size t_at vb x3) ∧ (¬ x2 = nI 0 → ((x2 = nI 1 → wp_C_thrifty (fun r_3 tat_4 => post r_3 vr tat_4) Nb t_size t_at vb x3) ∧ (¬ x2 = nI 1 → ((x2 = nI 2 → wp_C_coin (fun r_5 tat_6 => post r_5 vr tat_6) Nb t_size t_at vb x3 x4) ∧ (¬ x2 = nI 2 → ((x2 = nI 3 → wp_C_tosses (fun r_7 tat_8 => post r_7 vr tat_8) Nb t_size t_at vb x3) ∧ (¬ x2 = nI 3 → ((x2 = nI 4 → wp_C_zerosBeforeOne (fun r_9 tat_10 => post r_9 vr tat_10) Nb t_size t_at vb x3) ∧ (¬ x2 = nI 4 → ((x2 = nI 5 → wp_C_order (fun r_11 vr_12 tat_13 => post r_11 vr_12 tat_13) Nb c_latestSpent vr t_size t_at vb x3) ∧ (¬ x2 = nI 5 → ((x2 = nI 6 → wp_C_choice (fun r_14 tat_15 => post r_14 vr tat_15) Nb t_size t_at vb x3 x4) ∧ (¬ x2 = nI 6 → ((x2 = nI 7 → wp_C_share (fun r_16 tat_17 => post r_16 vr tat_17) Nb c_latestSpent vw t_size t_at vb) ∧ (¬ x2 = nI 7 → post (-1) vr t_at))))))))))))))))
abbrev rm_C_sample : Room := { frames := 4, cells := 0, slots := 0, locals := 94 }
theorem mf_C_sample : gFV y_C_sample b_C_sample 5 (some .int) 4 := ⟨w_121, w_1, ⟨by decide, by decide, by decide +kernel⟩, w_120, ws_1_1⟩
set_option maxHeartbeats 4000000 in
set_option maxRecDepth 100000 in
theorem c_C_sample (l : Launch) (D : va_G) (cI : ClassId) (h_c : Nat) (h_w : Nat) (h_r : Nat) (h_t : Nat) (h_b : Nat) (c_tape : Nat) (c_trial : Nat) (c_tally : Nat) (Nb : Nat) (c_latestSpent : Int32) (vw : Nat → Int32) (vr : Nat → Int32) (t_size : Int32) (t_at : Int32) (vb : Nat → Int32) (x2 : Int32) (x3 : Int32) (x4 : Int32) (post : Int32 → (Nat → Int32) → Int32 → Prop) (hw : wp_C_sample post Nb c_latestSpent vw vr t_size t_at vb x2 x3 x4) :
    gMi l D [(cI, .int)] y_C_sample b_C_sample 5 .int rm_C_sample [.ref h_c, .ref h_t, .int x2, .int x3, .int x4] [(h_c, .inr (2, [.ref h_w, .ref h_r, .ref c_tape, .ref c_trial, .ref c_tally, .int c_latestSpent])), (h_w, .inl (cI, 8, .inl vw)), (h_r, .inl (cI, 4, .inl vr)), (h_t, .inr (1, [.ref h_b, .int t_size, .int t_at])), (h_b, .inl (cI, Nb, .inl vb))] (S := (Nat → Int32) × Int32) (fun u => [(h_c, .inr (2, [.ref h_w, .ref h_r, .ref c_tape, .ref c_trial, .ref c_tally, .int c_latestSpent])), (h_w, .inl (cI, 8, .inl vw)), (h_r, .inl (cI, 4, .inl u.1)), (h_t, .inr (1, [.ref h_b, .int t_size, .int u.2])), (h_b, .inl (cI, Nb, .inl vb))]) (fun r u => post r u.1 u.2) := by
  rw [wp_C_sample] at hw
  refine gMi.of (by decide) (Nat.le_of_ble_eq_true rfl) (fun p e s m args below meth c A Q ls hx hb hml hown hts hN hK hA hP hD hret hl => ?_)
  have fx : CallFix p m c b_C_sample 5 s args gG "TapeCounter" := ⟨hx, hb, hml, hown, hts⟩
  have hl : lv_has ls 5 [(0, .ref h_c), (1, .ref h_t), (2, .int x2), (3, .int x3), (4, .int x4)] := hl
  have hS : va_S A s.heap s.heap [] := va_S.rf
  refine lv_iload_n hx hb d_C_sample_0 rfl (lv_at hl 2 rfl) ?_
  rcases Classical.em (x2 = nI 0) with c1_0 | c1_0
  · have hw := hw.1 c1_0
    refine g_sw (nI 0) (tgt := 48) hx hb d_C_sample_1 c1_0 (by decide) (by decide) rfl (by decide) ?_
    refine lv_aload_n hx hb d_C_sample_48 rfl (lv_at hl 1 rfl) ?_
    refine lv_iload_n hx hb d_C_sample_49 rfl (lv_at hl 3 rfl) ?_
    refine g_cSi (wr := [(h_c, .inr (2, [.ref h_w, .ref h_r, .ref c_tape, .ref c_trial, .ref c_tally, .int c_latestSpent])), (h_w, .inl (cI, 8, .inl vw)), (h_r, .inl (cI, 4, .inl vr))]) fx (c_C_plain l D cI h_t h_b Nb t_size t_at vb x3 _ hw) mf_C_plain w_122 ⟨rfl, rfl⟩ ⟨Nat.le_of_ble_eq_true rfl, Nat.le_of_ble_eq_true rfl⟩ hN hK hA hP hD hS [3, 4] [0, 1, 2] rfl rfl rfl rfl (by decide) rfl rfl hl.1 (Nat.le_of_ble_eq_true rfl) d_C_sample_50 ⟨Nat.zero_le _, Nat.zero_le _⟩ (fun r_1 u H locs hw hP hD hS => ?_)
    obtain ⟨tat_2, rfl⟩ : ∃ z, z = u := ⟨_, rfl⟩
    try dsimp only at hw
    have hP : va_P D gCl [(h_c, .inr (2, [.ref h_w, .ref h_r, .ref c_tape, .ref c_trial, .ref c_tally, .int c_latestSpent])), (h_w, .inl (cI, 8, .inl vw)), (h_r, .inl (cI, 4, .inl vr)), (h_t, .inr (1, [.ref h_b, .int t_size, .int tat_2])), (h_b, .inl (cI, Nb, .inl vb))] H := hP
    have hD : va_D A [(h_c, .inr (2, [.ref h_w, .ref h_r, .ref c_tape, .ref c_trial, .ref c_tally, .int c_latestSpent])), (h_w, .inl (cI, 8, .inl vw)), (h_r, .inl (cI, 4, .inl vr)), (h_t, .inr (1, [.ref h_b, .int t_size, .int tat_2])), (h_b, .inl (cI, Nb, .inl vb))] := hD
    exact hret _ _ _ (vr, tat_2) _ _ hw rfl hP hD hS d_C_sample_53
  · have hw := hw.2 c1_0
    rcases Classical.em (x2 = nI 1) with c1_1 | c1_1
    · have hw := hw.1 c1_1
      refine g_sw (nI 1) (tgt := 54) hx hb d_C_sample_1 c1_1 (by decide) (by decide) rfl (by decide) ?_
      refine lv_aload_n hx hb d_C_sample_54 rfl (lv_at hl 1 rfl) ?_
      refine lv_iload_n hx hb d_C_sample_55 rfl (lv_at hl 3 rfl) ?_
      refine g_cSi (wr := [(h_c, .inr (2, [.ref h_w, .ref h_r, .ref c_tape, .ref c_trial, .ref c_tally, .int c_latestSpent])), (h_w, .inl (cI, 8, .inl vw)), (h_r, .inl (cI, 4, .inl vr))]) fx (c_C_thrifty l D cI h_t h_b Nb t_size t_at vb x3 _ hw) mf_C_thrifty w_136 ⟨rfl, rfl⟩ ⟨Nat.le_of_ble_eq_true rfl, Nat.le_of_ble_eq_true rfl⟩ hN hK hA hP hD hS [3, 4] [0, 1, 2] rfl rfl rfl rfl (by decide) rfl rfl hl.1 (Nat.le_of_ble_eq_true rfl) d_C_sample_56 ⟨Nat.zero_le _, Nat.zero_le _⟩ (fun r_3 u H locs hw hP hD hS => ?_)
      obtain ⟨tat_4, rfl⟩ : ∃ z, z = u := ⟨_, rfl⟩
      try dsimp only at hw
      have hP : va_P D gCl [(h_c, .inr (2, [.ref h_w, .ref h_r, .ref c_tape, .ref c_trial, .ref c_tally, .int c_latestSpent])), (h_w, .inl (cI, 8, .inl vw)), (h_r, .inl (cI, 4, .inl vr)), (h_t, .inr (1, [.ref h_b, .int t_size, .int tat_4])), (h_b, .inl (cI, Nb, .inl vb))] H := hP
      have hD : va_D A [(h_c, .inr (2, [.ref h_w, .ref h_r, .ref c_tape, .ref c_trial, .ref c_tally, .int c_latestSpent])), (h_w, .inl (cI, 8, .inl vw)), (h_r, .inl (cI, 4, .inl vr)), (h_t, .inr (1, [.ref h_b, .int t_size, .int tat_4])), (h_b, .inl (cI, Nb, .inl vb))] := hD
      exact hret _ _ _ (vr, tat_4) _ _ hw rfl hP hD hS d_C_sample_59
    · have hw := hw.2 c1_1
      rcases Classical.em (x2 = nI 2) with c1_2 | c1_2
      · have hw := hw.1 c1_2
        refine g_sw (nI 2) (tgt := 60) hx hb d_C_sample_1 c1_2 (by decide) (by decide) rfl (by decide) ?_
        refine lv_aload_n hx hb d_C_sample_60 rfl (lv_at hl 1 rfl) ?_
        refine lv_iload_n hx hb d_C_sample_61 rfl (lv_at hl 3 rfl) ?_
        refine lv_iload hx hb d_C_sample_62 (lv_at hl 4 rfl) ?_
        refine g_cSi (wr := [(h_c, .inr (2, [.ref h_w, .ref h_r, .ref c_tape, .ref c_trial, .ref c_tally, .int c_latestSpent])), (h_w, .inl (cI, 8, .inl vw)), (h_r, .inl (cI, 4, .inl vr))]) fx (c_C_coin l D cI h_t h_b Nb t_size t_at vb x3 x4 _ hw) mf_C_coin w_140 ⟨rfl, rfl⟩ ⟨Nat.le_of_ble_eq_true rfl, Nat.le_of_ble_eq_true rfl⟩ hN hK hA hP hD hS [3, 4] [0, 1, 2] rfl rfl rfl rfl (by decide) rfl rfl hl.1 (Nat.le_of_ble_eq_true rfl) d_C_sample_64 ⟨Nat.zero_le _, Nat.zero_le _⟩ (fun r_5 u H locs hw hP hD hS => ?_)
        obtain ⟨tat_6, rfl⟩ : ∃ z, z = u := ⟨_, rfl⟩
        try dsimp only at hw
        have hP : va_P D gCl [(h_c, .inr (2, [.ref h_w, .ref h_r, .ref c_tape, .ref c_trial, .ref c_tally, .int c_latestSpent])), (h_w, .inl (cI, 8, .inl vw)), (h_r, .inl (cI, 4, .inl vr)), (h_t, .inr (1, [.ref h_b, .int t_size, .int tat_6])), (h_b, .inl (cI, Nb, .inl vb))] H := hP
        have hD : va_D A [(h_c, .inr (2, [.ref h_w, .ref h_r, .ref c_tape, .ref c_trial, .ref c_tally, .int c_latestSpent])), (h_w, .inl (cI, 8, .inl vw)), (h_r, .inl (cI, 4, .inl vr)), (h_t, .inr (1, [.ref h_b, .int t_size, .int tat_6])), (h_b, .inl (cI, Nb, .inl vb))] := hD
        exact hret _ _ _ (vr, tat_6) _ _ hw rfl hP hD hS d_C_sample_67
      · have hw := hw.2 c1_2
        rcases Classical.em (x2 = nI 3) with c1_3 | c1_3
        · have hw := hw.1 c1_3
          refine g_sw (nI 3) (tgt := 68) hx hb d_C_sample_1 c1_3 (by decide) (by decide) rfl (by decide) ?_
          refine lv_aload_n hx hb d_C_sample_68 rfl (lv_at hl 1 rfl) ?_
          refine lv_iload_n hx hb d_C_sample_69 rfl (lv_at hl 3 rfl) ?_
          refine g_cSi (wr := [(h_c, .inr (2, [.ref h_w, .ref h_r, .ref c_tape, .ref c_trial, .ref c_tally, .int c_latestSpent])), (h_w, .inl (cI, 8, .inl vw)), (h_r, .inl (cI, 4, .inl vr))]) fx (c_C_tosses l D cI h_t h_b Nb t_size t_at vb x3 _ hw) mf_C_tosses w_143 ⟨rfl, rfl⟩ ⟨Nat.le_of_ble_eq_true rfl, Nat.le_of_ble_eq_true rfl⟩ hN hK hA hP hD hS [3, 4] [0, 1, 2] rfl rfl rfl rfl (by decide) rfl rfl hl.1 (Nat.le_of_ble_eq_true rfl) d_C_sample_70 ⟨Nat.zero_le _, Nat.zero_le _⟩ (fun r_7 u H locs hw hP hD hS => ?_)
          obtain ⟨tat_8, rfl⟩ : ∃ z, z = u := ⟨_, rfl⟩
          try dsimp only at hw
          have hP : va_P D gCl [(h_c, .inr (2, [.ref h_w, .ref h_r, .ref c_tape, .ref c_trial, .ref c_tally, .int c_latestSpent])), (h_w, .inl (cI, 8, .inl vw)), (h_r, .inl (cI, 4, .inl vr)), (h_t, .inr (1, [.ref h_b, .int t_size, .int tat_8])), (h_b, .inl (cI, Nb, .inl vb))] H := hP
          have hD : va_D A [(h_c, .inr (2, [.ref h_w, .ref h_r, .ref c_tape, .ref c_trial, .ref c_tally, .int c_latestSpent])), (h_w, .inl (cI, 8, .inl vw)), (h_r, .inl (cI, 4, .inl vr)), (h_t, .inr (1, [.ref h_b, .int t_size, .int tat_8])), (h_b, .inl (cI, Nb, .inl vb))] := hD
          exact hret _ _ _ (vr, tat_8) _ _ hw rfl hP hD hS d_C_sample_73
        · have hw := hw.2 c1_3
          rcases Classical.em (x2 = nI 4) with c1_4 | c1_4
          · have hw := hw.1 c1_4
            refine g_sw (nI 4) (tgt := 74) hx hb d_C_sample_1 c1_4 (by decide) (by decide) rfl (by decide) ?_
            refine lv_aload_n hx hb d_C_sample_74 rfl (lv_at hl 1 rfl) ?_
            refine lv_iload_n hx hb d_C_sample_75 rfl (lv_at hl 3 rfl) ?_
            refine g_cSi (wr := [(h_c, .inr (2, [.ref h_w, .ref h_r, .ref c_tape, .ref c_trial, .ref c_tally, .int c_latestSpent])), (h_w, .inl (cI, 8, .inl vw)), (h_r, .inl (cI, 4, .inl vr))]) fx (c_C_zerosBeforeOne l D cI h_t h_b Nb t_size t_at vb x3 _ hw) mf_C_zerosBeforeOne w_146 ⟨rfl, rfl⟩ ⟨Nat.le_of_ble_eq_true rfl, Nat.le_of_ble_eq_true rfl⟩ hN hK hA hP hD hS [3, 4] [0, 1, 2] rfl rfl rfl rfl (by decide) rfl rfl hl.1 (Nat.le_of_ble_eq_true rfl) d_C_sample_76 ⟨Nat.zero_le _, Nat.zero_le _⟩ (fun r_9 u H locs hw hP hD hS => ?_)
            obtain ⟨tat_10, rfl⟩ : ∃ z, z = u := ⟨_, rfl⟩
            try dsimp only at hw
            have hP : va_P D gCl [(h_c, .inr (2, [.ref h_w, .ref h_r, .ref c_tape, .ref c_trial, .ref c_tally, .int c_latestSpent])), (h_w, .inl (cI, 8, .inl vw)), (h_r, .inl (cI, 4, .inl vr)), (h_t, .inr (1, [.ref h_b, .int t_size, .int tat_10])), (h_b, .inl (cI, Nb, .inl vb))] H := hP
            have hD : va_D A [(h_c, .inr (2, [.ref h_w, .ref h_r, .ref c_tape, .ref c_trial, .ref c_tally, .int c_latestSpent])), (h_w, .inl (cI, 8, .inl vw)), (h_r, .inl (cI, 4, .inl vr)), (h_t, .inr (1, [.ref h_b, .int t_size, .int tat_10])), (h_b, .inl (cI, Nb, .inl vb))] := hD
            exact hret _ _ _ (vr, tat_10) _ _ hw rfl hP hD hS d_C_sample_79
          · have hw := hw.2 c1_4
            rcases Classical.em (x2 = nI 5) with c1_5 | c1_5
            · have hw := hw.1 c1_5
              refine g_sw (nI 5) (tgt := 80) hx hb d_C_sample_1 c1_5 (by decide) (by decide) rfl (by decide) ?_
              refine lv_aload_n hx hb d_C_sample_80 rfl (lv_at hl 0 rfl) ?_
              refine lv_aload_n hx hb d_C_sample_81 rfl (lv_at hl 1 rfl) ?_
              refine lv_iload_n hx hb d_C_sample_82 rfl (lv_at hl 3 rfl) ?_
              refine g_cVi (wr := [(h_w, .inl (cI, 8, .inl vw))]) fx (c_C_order l D cI h_c h_r h_t h_b h_w c_tape c_trial c_tally Nb c_latestSpent vr t_size t_at vb x3 _ hw) mf_C_order w_149 ⟨rfl, rfl⟩ ⟨Nat.le_of_ble_eq_true rfl, Nat.le_of_ble_eq_true rfl⟩ hN hK hA hP hD hS [0, 2, 3, 4] [1] rfl rfl rfl rfl (by decide) 0 rfl rfl rfl rfl hl.1 (Nat.le_of_ble_eq_true rfl) d_C_sample_83 ⟨Nat.zero_le _, Nat.zero_le _⟩ (fun r_11 u H locs hw hP hD hS => ?_)
              obtain ⟨vr_12, tat_13⟩ := u
              try dsimp only at hw
              have hP : va_P D gCl [(h_w, .inl (cI, 8, .inl vw)), (h_c, .inr (2, [.ref h_w, .ref h_r, .ref c_tape, .ref c_trial, .ref c_tally, .int c_latestSpent])), (h_r, .inl (cI, 4, .inl vr_12)), (h_t, .inr (1, [.ref h_b, .int t_size, .int tat_13])), (h_b, .inl (cI, Nb, .inl vb))] H := hP
              have hD : va_D A [(h_w, .inl (cI, 8, .inl vw)), (h_c, .inr (2, [.ref h_w, .ref h_r, .ref c_tape, .ref c_trial, .ref c_tally, .int c_latestSpent])), (h_r, .inl (cI, 4, .inl vr_12)), (h_t, .inr (1, [.ref h_b, .int t_size, .int tat_13])), (h_b, .inl (cI, Nb, .inl vb))] := hD
              exact hret _ _ _ (vr_12, tat_13) _ _ hw rfl (gSubP hP [1, 0, 2, 3, 4] rfl) (hD.sub [1, 0, 2, 3, 4] rfl rfl) hS d_C_sample_86
            · have hw := hw.2 c1_5
              rcases Classical.em (x2 = nI 6) with c1_6 | c1_6
              · have hw := hw.1 c1_6
                refine g_sw (nI 6) (tgt := 87) hx hb d_C_sample_1 c1_6 (by decide) (by decide) rfl (by decide) ?_
                refine lv_aload_n hx hb d_C_sample_87 rfl (lv_at hl 1 rfl) ?_
                refine lv_iload_n hx hb d_C_sample_88 rfl (lv_at hl 3 rfl) ?_
                refine lv_iload hx hb d_C_sample_89 (lv_at hl 4 rfl) ?_
                refine g_cSi (wr := [(h_c, .inr (2, [.ref h_w, .ref h_r, .ref c_tape, .ref c_trial, .ref c_tally, .int c_latestSpent])), (h_w, .inl (cI, 8, .inl vw)), (h_r, .inl (cI, 4, .inl vr))]) fx (c_C_choice l D cI h_t h_b Nb t_size t_at vb x3 x4 _ hw) mf_C_choice w_157 ⟨rfl, rfl⟩ ⟨Nat.le_of_ble_eq_true rfl, Nat.le_of_ble_eq_true rfl⟩ hN hK hA hP hD hS [3, 4] [0, 1, 2] rfl rfl rfl rfl (by decide) rfl rfl hl.1 (Nat.le_of_ble_eq_true rfl) d_C_sample_91 ⟨Nat.zero_le _, Nat.zero_le _⟩ (fun r_14 u H locs hw hP hD hS => ?_)
                obtain ⟨tat_15, rfl⟩ : ∃ z, z = u := ⟨_, rfl⟩
                try dsimp only at hw
                have hP : va_P D gCl [(h_c, .inr (2, [.ref h_w, .ref h_r, .ref c_tape, .ref c_trial, .ref c_tally, .int c_latestSpent])), (h_w, .inl (cI, 8, .inl vw)), (h_r, .inl (cI, 4, .inl vr)), (h_t, .inr (1, [.ref h_b, .int t_size, .int tat_15])), (h_b, .inl (cI, Nb, .inl vb))] H := hP
                have hD : va_D A [(h_c, .inr (2, [.ref h_w, .ref h_r, .ref c_tape, .ref c_trial, .ref c_tally, .int c_latestSpent])), (h_w, .inl (cI, 8, .inl vw)), (h_r, .inl (cI, 4, .inl vr)), (h_t, .inr (1, [.ref h_b, .int t_size, .int tat_15])), (h_b, .inl (cI, Nb, .inl vb))] := hD
                exact hret _ _ _ (vr, tat_15) _ _ hw rfl hP hD hS d_C_sample_94
              · have hw := hw.2 c1_6
                rcases Classical.em (x2 = nI 7) with c1_7 | c1_7
                · have hw := hw.1 c1_7
                  refine g_sw (nI 7) (tgt := 95) hx hb d_C_sample_1 c1_7 (by decide) (by decide) rfl (by decide) ?_
                  refine lv_aload_n hx hb d_C_sample_95 rfl (lv_at hl 0 rfl) ?_
                  refine lv_aload_n hx hb d_C_sample_96 rfl (lv_at hl 1 rfl) ?_
                  refine g_cVi (wr := [(h_r, .inl (cI, 4, .inl vr))]) fx (c_C_share l D cI h_c h_w h_t h_b h_r c_tape c_trial c_tally Nb c_latestSpent vw t_size t_at vb _ hw) mf_C_share w_160 ⟨rfl, rfl⟩ ⟨Nat.le_of_ble_eq_true rfl, Nat.le_of_ble_eq_true rfl⟩ hN hK hA hP hD hS [0, 1, 3, 4] [2] rfl rfl rfl rfl (by decide) 0 rfl rfl rfl rfl hl.1 (Nat.le_of_ble_eq_true rfl) d_C_sample_97 ⟨Nat.zero_le _, Nat.zero_le _⟩ (fun r_16 u H locs hw hP hD hS => ?_)
                  obtain ⟨tat_17, rfl⟩ : ∃ z, z = u := ⟨_, rfl⟩
                  try dsimp only at hw
                  have hP : va_P D gCl [(h_r, .inl (cI, 4, .inl vr)), (h_c, .inr (2, [.ref h_w, .ref h_r, .ref c_tape, .ref c_trial, .ref c_tally, .int c_latestSpent])), (h_w, .inl (cI, 8, .inl vw)), (h_t, .inr (1, [.ref h_b, .int t_size, .int tat_17])), (h_b, .inl (cI, Nb, .inl vb))] H := hP
                  have hD : va_D A [(h_r, .inl (cI, 4, .inl vr)), (h_c, .inr (2, [.ref h_w, .ref h_r, .ref c_tape, .ref c_trial, .ref c_tally, .int c_latestSpent])), (h_w, .inl (cI, 8, .inl vw)), (h_t, .inr (1, [.ref h_b, .int t_size, .int tat_17])), (h_b, .inl (cI, Nb, .inl vb))] := hD
                  exact hret _ _ _ (vr, tat_17) _ _ hw rfl (gSubP hP [1, 2, 0, 3, 4] rfl) (hD.sub [1, 2, 0, 3, 4] rfl rfl) hS d_C_sample_100
                · have hw := hw.2 c1_7
                  refine lv_tableOut (tgt := 101) hx hb d_C_sample_1 (by have h := g_out (x := x2) (n := 8) (by decide) (fun j hj => by rcases (show j = 0 ∨ j = 1 ∨ j = 2 ∨ j = 3 ∨ j = 4 ∨ j = 5 ∨ j = 6 ∨ j = 7 by omega) with rfl | rfl | rfl | rfl | rfl | rfl | rfl | rfl <;> assumption); omega) (by decide) ?_
                  refine lv_iconst (v := (-1)) hx hb d_C_sample_101 (by decide) ?_
                  exact hret _ _ _ (vr, t_at) _ _ hw rfl hP hD hS d_C_sample_102
end
section
def wp_C_draw (post : Int32 → Int32 → (Nat → Int32) → Int32 → Int32 → (Nat → Int32) → Prop) (Nb : Nat) (c_latestSpent : Int32) (vw : Nat → Int32) (vr : Nat → Int32) (t_size : Int32) (t_at : Int32) (vb : Nat → Int32) (x1 : Int32) (x2 : Int32) (x3 : Int32) : Prop :=
  wp_C_isOne (fun r_1 => ((¬ r_1 = 0 → wp_T_rewind (fun tat_2 => wp_C_sample (fun r_3 vr_4 tat_5 => ((¬ r_3 = (-1) → wp_T_readSoFar (fun r_6 => wp_T_dropRead (fun tsize_7 tat_8 vb_9 => post r_3 r_6 vr_4 tsize_7 tat_8 vb_9) Nb t_size tat_5 vb) t_size tat_5) ∧ (r_3 = (-1) → post (-1) c_latestSpent vr_4 t_size tat_5 vb))) Nb c_latestSpent vw vr t_size tat_2 vb x1 x2 x3) t_size t_at) ∧ (r_1 = 0 → post (-1) c_latestSpent vr t_size t_at vb))) c_latestSpent vw x1 x2 x3
abbrev rm_C_draw : Room := { frames := 5, cells := 0, slots := 0, locals := 118 }
theorem mf_C_draw : gFV y_C_draw b_C_draw 5 (some .int) 3 := ⟨w_112, w_1, ⟨by decide, by decide, by decide +kernel⟩, w_110, w_111⟩
set_option maxHeartbeats 4000000 in
set_option maxRecDepth 100000 in
theorem c_C_draw (l : Launch) (D : va_G) (cI : ClassId) (h_c : Nat) (h_w : Nat) (h_r : Nat) (h_t : Nat) (h_b : Nat) (c_trial : Nat) (c_tally : Nat) (Nb : Nat) (c_latestSpent : Int32) (vw : Nat → Int32) (vr : Nat → Int32) (t_size : Int32) (t_at : Int32) (vb : Nat → Int32) (x1 : Int32) (x2 : Int32) (x3 : Int32) (post : Int32 → Int32 → (Nat → Int32) → Int32 → Int32 → (Nat → Int32) → Prop) (hw : wp_C_draw post Nb c_latestSpent vw vr t_size t_at vb x1 x2 x3) :
    gMi l D [(cI, .int)] y_C_draw b_C_draw 5 .int rm_C_draw [.ref h_c, .int x1, .int x2, .int x3] [(h_c, .inr (2, [.ref h_w, .ref h_r, .ref h_t, .ref c_trial, .ref c_tally, .int c_latestSpent])), (h_w, .inl (cI, 8, .inl vw)), (h_r, .inl (cI, 4, .inl vr)), (h_t, .inr (1, [.ref h_b, .int t_size, .int t_at])), (h_b, .inl (cI, Nb, .inl vb))] (S := Int32 × (Nat → Int32) × Int32 × Int32 × (Nat → Int32)) (fun u => [(h_c, .inr (2, [.ref h_w, .ref h_r, .ref h_t, .ref c_trial, .ref c_tally, .int u.1])), (h_w, .inl (cI, 8, .inl vw)), (h_r, .inl (cI, 4, .inl u.2.1)), (h_t, .inr (1, [.ref h_b, .int u.2.2.1, .int u.2.2.2.1])), (h_b, .inl (cI, Nb, .inl u.2.2.2.2))]) (fun r u => post r u.1 u.2.1 u.2.2.1 u.2.2.2.1 u.2.2.2.2) := by
  rw [wp_C_draw] at hw
  refine gMi.of (by decide) (Nat.le_of_ble_eq_true rfl) (fun p e s m args below meth c A Q ls hx hb hml hown hts hN hK hA hP hD hret hl => ?_)
  have fx : CallFix p m c b_C_draw 5 s args gG "TapeCounter" := ⟨hx, hb, hml, hown, hts⟩
  have hl : lv_has ls 5 [(0, .ref h_c), (1, .int x1), (2, .int x2), (3, .int x3)] := hl
  have hS : va_S A s.heap s.heap [] := va_S.rf
  refine lv_aload_n hx hb d_C_draw_0 rfl (lv_at hl 0 rfl) ?_
  refine lv_iload_n hx hb d_C_draw_1 rfl (lv_at hl 1 rfl) ?_
  refine lv_iload_n hx hb d_C_draw_2 rfl (lv_at hl 2 rfl) ?_
  refine lv_iload_n hx hb d_C_draw_3 rfl (lv_at hl 3 rfl) ?_
  refine g_cVi (wr := [(h_r, .inl (cI, 4, .inl vr)), (h_t, .inr (1, [.ref h_b, .int t_size, .int t_at])), (h_b, .inl (cI, Nb, .inl vb))]) fx (c_C_isOne l D cI h_c h_w h_r h_t c_trial c_tally c_latestSpent vw x1 x2 x3 _ hw) mf_C_isOne w_113 ⟨rfl, rfl⟩ ⟨Nat.le_of_ble_eq_true rfl, Nat.le_of_ble_eq_true rfl⟩ hN hK hA hP hD hS [0, 1] [2, 3, 4] rfl rfl rfl rfl (by decide) 0 rfl rfl rfl rfl hl.1 (Nat.le_of_ble_eq_true rfl) d_C_draw_4 ⟨Nat.zero_le _, Nat.zero_le _⟩ (fun r_1 u H locs hw hP hD hS => ?_)
  try dsimp only at hw
  have hP : va_P D gCl [(h_r, .inl (cI, 4, .inl vr)), (h_t, .inr (1, [.ref h_b, .int t_size, .int t_at])), (h_b, .inl (cI, Nb, .inl vb)), (h_c, .inr (2, [.ref h_w, .ref h_r, .ref h_t, .ref c_trial, .ref c_tally, .int c_latestSpent])), (h_w, .inl (cI, 8, .inl vw))] H := hP
  have hD : va_D A [(h_r, .inl (cI, 4, .inl vr)), (h_t, .inr (1, [.ref h_b, .int t_size, .int t_at])), (h_b, .inl (cI, Nb, .inl vb)), (h_c, .inr (2, [.ref h_w, .ref h_r, .ref h_t, .ref c_trial, .ref c_tally, .int c_latestSpent])), (h_w, .inl (cI, 8, .inl vw))] := hD
  refine lv_if_ne (tgt := 12) hx hb d_C_draw_7 (by decide) (fun c7 => ?_) (fun c7 => ?_)
  · have hw := hw.1 c7
    refine lv_aload_n hx hb d_C_draw_12 rfl (lv_at hl 0 rfl) ?_
    refine gGet fx hK hP 3 rfl inC rfl (k := 2) (by decide) w_57 rfl d_C_draw_13 ?_
    refine g_cVv (wr := [(h_r, .inl (cI, 4, .inl vr)), (h_b, .inl (cI, Nb, .inl vb)), (h_c, .inr (2, [.ref h_w, .ref h_r, .ref h_t, .ref c_trial, .ref c_tally, .int c_latestSpent])), (h_w, .inl (cI, 8, .inl vw))]) fx (c_T_rewind l D cI h_t h_b t_size t_at _ hw) mf_T_rewind w_114 ⟨rfl, rfl⟩ ⟨Nat.le_of_ble_eq_true rfl, Nat.le_of_ble_eq_true rfl⟩ hN hK hA hP hD hS [1] [0, 2, 3, 4] rfl rfl rfl rfl (by decide) 0 rfl rfl rfl rfl hl.1 (Nat.le_of_ble_eq_true rfl) d_C_draw_16 ⟨Nat.zero_le _, Nat.zero_le _⟩ (fun u H locs hw hP hD hS => ?_)
    obtain ⟨tat_2, rfl⟩ : ∃ z, z = u := ⟨_, rfl⟩
    try dsimp only at hw
    have hP : va_P D gCl [(h_r, .inl (cI, 4, .inl vr)), (h_b, .inl (cI, Nb, .inl vb)), (h_c, .inr (2, [.ref h_w, .ref h_r, .ref h_t, .ref c_trial, .ref c_tally, .int c_latestSpent])), (h_w, .inl (cI, 8, .inl vw)), (h_t, .inr (1, [.ref h_b, .int t_size, .int tat_2]))] H := hP
    have hD : va_D A [(h_r, .inl (cI, 4, .inl vr)), (h_b, .inl (cI, Nb, .inl vb)), (h_c, .inr (2, [.ref h_w, .ref h_r, .ref h_t, .ref c_trial, .ref c_tally, .int c_latestSpent])), (h_w, .inl (cI, 8, .inl vw)), (h_t, .inr (1, [.ref h_b, .int t_size, .int tat_2]))] := hD
    refine lv_aload_n hx hb d_C_draw_19 rfl (lv_at hl 0 rfl) ?_
    refine lv_aload_n hx hb d_C_draw_20 rfl (lv_at hl 0 rfl) ?_
    refine gGet fx hK hP 2 rfl inC rfl (k := 2) (by decide) w_57 rfl d_C_draw_21 ?_
    refine lv_iload_n hx hb d_C_draw_24 rfl (lv_at hl 1 rfl) ?_
    refine lv_iload_n hx hb d_C_draw_25 rfl (lv_at hl 2 rfl) ?_
    refine lv_iload_n hx hb d_C_draw_26 rfl (lv_at hl 3 rfl) ?_
    refine g_cVi (wr := []) fx (c_C_sample l D cI h_c h_w h_r h_t h_b h_t c_trial c_tally Nb c_latestSpent vw vr t_size tat_2 vb x1 x2 x3 _ hw) mf_C_sample w_118 ⟨rfl, rfl⟩ ⟨Nat.le_of_ble_eq_true rfl, Nat.le_of_ble_eq_true rfl⟩ hN hK hA hP hD hS [2, 3, 0, 4, 1] [] rfl rfl rfl rfl (by decide) 0 rfl rfl rfl rfl hl.1 (Nat.le_of_ble_eq_true rfl) d_C_draw_27 ⟨Nat.zero_le _, Nat.zero_le _⟩ (fun r_3 u H locs hw hP hD hS => ?_)
    obtain ⟨vr_4, tat_5⟩ := u
    try dsimp only at hw
    have hP : va_P D gCl [(h_c, .inr (2, [.ref h_w, .ref h_r, .ref h_t, .ref c_trial, .ref c_tally, .int c_latestSpent])), (h_w, .inl (cI, 8, .inl vw)), (h_r, .inl (cI, 4, .inl vr_4)), (h_t, .inr (1, [.ref h_b, .int t_size, .int tat_5])), (h_b, .inl (cI, Nb, .inl vb))] H := hP
    have hD : va_D A [(h_c, .inr (2, [.ref h_w, .ref h_r, .ref h_t, .ref c_trial, .ref c_tally, .int c_latestSpent])), (h_w, .inl (cI, 8, .inl vw)), (h_r, .inl (cI, 4, .inl vr_4)), (h_t, .inr (1, [.ref h_b, .int t_size, .int tat_5])), (h_b, .inl (cI, Nb, .inl vb))] := hD
    refine lv_istore (lv' := [(4, .int r_3), (0, .ref h_c), (1, .int x1), (2, .int x2), (3, .int x3)]) hx hb d_C_draw_30 hl (by decide) rfl (fun ls hl => ?_)
    refine lv_iload hx hb d_C_draw_32 (lv_at hl 0 rfl) ?_
    refine lv_iconst (v := (-1)) hx hb d_C_draw_34 (by decide) ?_
    refine lv_icmp_ne (tgt := 40) hx hb d_C_draw_35 (by decide) (fun c35 => ?_) (fun c35 => ?_)
    · have hw := hw.1 c35
      refine lv_aload_n hx hb d_C_draw_40 rfl (lv_at hl 1 rfl) ?_
      refine lv_aload_n hx hb d_C_draw_41 rfl (lv_at hl 1 rfl) ?_
      refine gGet fx hK hP 0 rfl inC rfl (k := 2) (by decide) w_57 rfl d_C_draw_42 ?_
      refine g_cVi (wr := [(h_c, .inr (2, [.ref h_w, .ref h_r, .ref h_t, .ref c_trial, .ref c_tally, .int c_latestSpent])), (h_w, .inl (cI, 8, .inl vw)), (h_r, .inl (cI, 4, .inl vr_4)), (h_b, .inl (cI, Nb, .inl vb))]) fx (c_T_readSoFar l D cI h_t h_b t_size tat_5 _ hw) mf_T_readSoFar w_164 ⟨rfl, rfl⟩ ⟨Nat.le_of_ble_eq_true rfl, Nat.le_of_ble_eq_true rfl⟩ hN hK hA hP hD hS [3] [0, 1, 2, 4] rfl rfl rfl rfl (by decide) 0 rfl rfl rfl rfl hl.1 (Nat.le_of_ble_eq_true rfl) d_C_draw_45 ⟨Nat.zero_le _, Nat.zero_le _⟩ (fun r_6 u H locs hw hP hD hS => ?_)
      try dsimp only at hw
      have hP : va_P D gCl [(h_c, .inr (2, [.ref h_w, .ref h_r, .ref h_t, .ref c_trial, .ref c_tally, .int c_latestSpent])), (h_w, .inl (cI, 8, .inl vw)), (h_r, .inl (cI, 4, .inl vr_4)), (h_b, .inl (cI, Nb, .inl vb)), (h_t, .inr (1, [.ref h_b, .int t_size, .int tat_5]))] H := hP
      have hD : va_D A [(h_c, .inr (2, [.ref h_w, .ref h_r, .ref h_t, .ref c_trial, .ref c_tally, .int c_latestSpent])), (h_w, .inl (cI, 8, .inl vw)), (h_r, .inl (cI, 4, .inl vr_4)), (h_b, .inl (cI, Nb, .inl vb)), (h_t, .inr (1, [.ref h_b, .int t_size, .int tat_5]))] := hD
      refine gPut fx hK hP hD hS 0 rfl inC tyC nmC rfl (k := 5) (by decide) w_60 rfl rfl rfl (Nat.le_of_ble_eq_true rfl) d_C_draw_48 (fun H locs hP hD hS => ?_)
      have hP : va_P D gCl [(h_c, .inr (2, [.ref h_w, .ref h_r, .ref h_t, .ref c_trial, .ref c_tally, .int r_6])), (h_w, .inl (cI, 8, .inl vw)), (h_r, .inl (cI, 4, .inl vr_4)), (h_b, .inl (cI, Nb, .inl vb)), (h_t, .inr (1, [.ref h_b, .int t_size, .int tat_5]))] H := hP
      have hD : va_D A [(h_c, .inr (2, [.ref h_w, .ref h_r, .ref h_t, .ref c_trial, .ref c_tally, .int r_6])), (h_w, .inl (cI, 8, .inl vw)), (h_r, .inl (cI, 4, .inl vr_4)), (h_b, .inl (cI, Nb, .inl vb)), (h_t, .inr (1, [.ref h_b, .int t_size, .int tat_5]))] := hD
      refine lv_aload_n hx hb d_C_draw_51 rfl (lv_at hl 1 rfl) ?_
      refine gGet fx hK hP 0 rfl inC rfl (k := 2) (by decide) w_57 rfl d_C_draw_52 ?_
      refine g_cVv (wr := [(h_c, .inr (2, [.ref h_w, .ref h_r, .ref h_t, .ref c_trial, .ref c_tally, .int r_6])), (h_w, .inl (cI, 8, .inl vw)), (h_r, .inl (cI, 4, .inl vr_4))]) fx (c_T_dropRead l D cI h_t h_b Nb t_size tat_5 vb _ hw) mf_T_dropRead w_168 ⟨rfl, rfl⟩ ⟨Nat.le_of_ble_eq_true rfl, Nat.le_of_ble_eq_true rfl⟩ hN hK hA hP hD hS [4, 3] [0, 1, 2] rfl rfl rfl rfl (by decide) 0 rfl rfl rfl rfl hl.1 (Nat.le_of_ble_eq_true rfl) d_C_draw_55 ⟨Nat.zero_le _, Nat.zero_le _⟩ (fun u H locs hw hP hD hS => ?_)
      obtain ⟨tsize_7, tat_8, vb_9⟩ := u
      try dsimp only at hw
      have hP : va_P D gCl [(h_c, .inr (2, [.ref h_w, .ref h_r, .ref h_t, .ref c_trial, .ref c_tally, .int r_6])), (h_w, .inl (cI, 8, .inl vw)), (h_r, .inl (cI, 4, .inl vr_4)), (h_t, .inr (1, [.ref h_b, .int tsize_7, .int tat_8])), (h_b, .inl (cI, Nb, .inl vb_9))] H := hP
      have hD : va_D A [(h_c, .inr (2, [.ref h_w, .ref h_r, .ref h_t, .ref c_trial, .ref c_tally, .int r_6])), (h_w, .inl (cI, 8, .inl vw)), (h_r, .inl (cI, 4, .inl vr_4)), (h_t, .inr (1, [.ref h_b, .int tsize_7, .int tat_8])), (h_b, .inl (cI, Nb, .inl vb_9))] := hD
      refine lv_iload hx hb d_C_draw_58 (lv_at hl 0 rfl) ?_
      exact hret _ _ _ (r_6, vr_4, tsize_7, tat_8, vb_9) _ _ hw rfl hP hD hS d_C_draw_60
    · have hw := hw.2 c35
      refine lv_iconst (v := (-1)) hx hb d_C_draw_38 (by decide) ?_
      exact hret _ _ _ (c_latestSpent, vr_4, t_size, tat_5, vb) _ _ hw rfl hP hD hS d_C_draw_39
  · have hw := hw.2 c7
    refine lv_iconst (v := (-1)) hx hb d_C_draw_10 (by decide) ?_
    exact hret _ _ _ (c_latestSpent, vr, t_size, t_at, vb) _ _ hw rfl (gSubP hP [3, 4, 0, 1, 2] rfl) (hD.sub [3, 4, 0, 1, 2] rfl rfl) hS d_C_draw_11
def wpF_C_tryAllTapes_16 (post : (Nat → Int32) → Int32 → Int32 → (Nat → Int32) → Int32 → Int32 → Int32 → Int32 → Prop) (Nb : Nat) (c_latestSpent : Int32) (vw : Nat → Int32) (x1 : Int32) (x2 : Int32) (x3 : Int32) (x4 : Int32) (x5 : Int32) (x6 : Int32) (K_16 : (Nat → Int32) → Int32 → Int32 → (Nat → Int32) → Int32 → Int32 → Int32 → Int32 → Int32 → Prop) (vr : Nat → Int32) (t_size : Int32) (t_at : Int32) (vb : Nat → Int32) (y_hits : Int32) (y_runOuts : Int32) (y_bitsRead : Int32) (y_fewestBits : Int32) (x8 : Int32) : Prop :=
  ((x6 ≤ x8 → post vr t_size t_at vb y_hits y_runOuts y_bitsRead y_fewestBits) ∧ (¬ x6 ≤ x8 → wp_T_clear (fun tsize_5 tat_6 => wp_T_append (fun r_7 tsize_8 vb_9 => wp_C_sample (fun r_10 vr_11 tat_12 => wp_T_readSoFar (fun r_13 => wp_T_readSoFar (fun r_14 => wp_Y_add (fun yhits_15 yrunOuts_16 ybitsRead_17 yfewestBits_18 => K_16 vr_11 tsize_8 tat_12 vb_9 yhits_15 yrunOuts_16 ybitsRead_17 yfewestBits_18 (x8 + ((nI 1) <<< ((x4 - r_13) &&& 31)))) y_hits y_runOuts y_bitsRead y_fewestBits r_10 x5 r_14 ((nI 1) <<< ((x4 - r_13) &&& 31))) tsize_8 tat_12) tsize_8 tat_12) Nb c_latestSpent vw vr tsize_8 tat_6 vb_9 x1 x2 x3) Nb tsize_5 tat_6 vb x8 x4) t_size t_at))
def wp_C_tryAllTapes (post : (Nat → Int32) → Int32 → Int32 → (Nat → Int32) → Int32 → Int32 → Int32 → Int32 → Prop) (Nb : Nat) (c_latestSpent : Int32) (vw : Nat → Int32) (vr : Nat → Int32) (t_size : Int32) (t_at : Int32) (vb : Nat → Int32) (y_hits : Int32) (y_runOuts : Int32) (y_bitsRead : Int32) (y_fewestBits : Int32) (x1 : Int32) (x2 : Int32) (x3 : Int32) (x4 : Int32) (x5 : Int32) : Prop :=
  wp_Y_clear (fun yhits_1 yrunOuts_2 ybitsRead_3 yfewestBits_4 => (∃ n, gL9 (wpF_C_tryAllTapes_16 post Nb c_latestSpent vw x1 x2 x3 x4 x5 ((nI 1) <<< (x4 &&& 31))) n vr t_size t_at vb yhits_1 yrunOuts_2 ybitsRead_3 yfewestBits_4 (nI 0))) y_hits y_runOuts y_bitsRead y_fewestBits
abbrev rm_C_tryAllTapes : Room := { frames := 5, cells := 0, slots := 0, locals := 118 }
theorem mf_C_tryAllTapes : gFV y_C_tryAllTapes b_C_tryAllTapes 10 none 5 := ⟨w_190, w_1, ⟨by decide, by decide, by decide +kernel⟩, w_189, ws_1_6⟩
set_option maxHeartbeats 4000000 in
set_option maxRecDepth 100000 in
theorem c_C_tryAllTapes (l : Launch) (D : va_G) (cI : ClassId) (h_c : Nat) (h_w : Nat) (h_r : Nat) (h_t : Nat) (h_b : Nat) (h_y : Nat) (c_tape : Nat) (Nb : Nat) (c_latestSpent : Int32) (vw : Nat → Int32) (vr : Nat → Int32) (t_size : Int32) (t_at : Int32) (vb : Nat → Int32) (y_hits : Int32) (y_runOuts : Int32) (y_bitsRead : Int32) (y_fewestBits : Int32) (x1 : Int32) (x2 : Int32) (x3 : Int32) (x4 : Int32) (x5 : Int32) (post : (Nat → Int32) → Int32 → Int32 → (Nat → Int32) → Int32 → Int32 → Int32 → Int32 → Prop) (hw : wp_C_tryAllTapes post Nb c_latestSpent vw vr t_size t_at vb y_hits y_runOuts y_bitsRead y_fewestBits x1 x2 x3 x4 x5) :
    gMv l D [(cI, .int)] y_C_tryAllTapes b_C_tryAllTapes 10 rm_C_tryAllTapes [.ref h_c, .int x1, .int x2, .int x3, .int x4, .int x5] [(h_c, .inr (2, [.ref h_w, .ref h_r, .ref c_tape, .ref h_t, .ref h_y, .int c_latestSpent])), (h_w, .inl (cI, 8, .inl vw)), (h_r, .inl (cI, 4, .inl vr)), (h_t, .inr (1, [.ref h_b, .int t_size, .int t_at])), (h_b, .inl (cI, Nb, .inl vb)), (h_y, .inr (0, [.int y_hits, .int y_runOuts, .int y_bitsRead, .int y_fewestBits]))] (S := (Nat → Int32) × Int32 × Int32 × (Nat → Int32) × Int32 × Int32 × Int32 × Int32) (fun u => [(h_c, .inr (2, [.ref h_w, .ref h_r, .ref c_tape, .ref h_t, .ref h_y, .int c_latestSpent])), (h_w, .inl (cI, 8, .inl vw)), (h_r, .inl (cI, 4, .inl u.1)), (h_t, .inr (1, [.ref h_b, .int u.2.1, .int u.2.2.1])), (h_b, .inl (cI, Nb, .inl u.2.2.2.1)), (h_y, .inr (0, [.int u.2.2.2.2.1, .int u.2.2.2.2.2.1, .int u.2.2.2.2.2.2.1, .int u.2.2.2.2.2.2.2]))]) (fun u => post u.1 u.2.1 u.2.2.1 u.2.2.2.1 u.2.2.2.2.1 u.2.2.2.2.2.1 u.2.2.2.2.2.2.1 u.2.2.2.2.2.2.2) := by
  rw [wp_C_tryAllTapes] at hw
  refine gMv.of (by decide) (Nat.le_of_ble_eq_true rfl) (fun p e s m args below meth c A Q ls hx hb hml hown hts hN hK hA hP hD hret hl => ?_)
  have fx : CallFix p m c b_C_tryAllTapes 10 s args gG "TapeCounter" := ⟨hx, hb, hml, hown, hts⟩
  have hl : lv_has ls 10 [(0, .ref h_c), (1, .int x1), (2, .int x2), (3, .int x3), (4, .int x4), (5, .int x5)] := hl
  have hS : va_S A s.heap s.heap [] := va_S.rf
  refine lv_aload_n hx hb d_C_tryAllTapes_0 rfl (lv_at hl 0 rfl) ?_
  refine gGet fx hK hP 0 rfl inC rfl (k := 4) (by decide) w_59 rfl d_C_tryAllTapes_1 ?_
  refine g_cVv (wr := [(h_c, .inr (2, [.ref h_w, .ref h_r, .ref c_tape, .ref h_t, .ref h_y, .int c_latestSpent])), (h_w, .inl (cI, 8, .inl vw)), (h_r, .inl (cI, 4, .inl vr)), (h_t, .inr (1, [.ref h_b, .int t_size, .int t_at])), (h_b, .inl (cI, Nb, .inl vb))]) fx (c_Y_clear l D cI h_y y_hits y_runOuts y_bitsRead y_fewestBits _ hw) mf_Y_clear w_191 ⟨rfl, rfl⟩ ⟨Nat.le_of_ble_eq_true rfl, Nat.le_of_ble_eq_true rfl⟩ hN hK hA hP hD hS [5] [0, 1, 2, 3, 4] rfl rfl rfl rfl (by decide) 0 rfl rfl rfl rfl hl.1 (Nat.le_of_ble_eq_true rfl) d_C_tryAllTapes_4 ⟨Nat.zero_le _, Nat.zero_le _⟩ (fun u H locs hw hP hD hS => ?_)
  obtain ⟨yhits_1, yrunOuts_2, ybitsRead_3, yfewestBits_4⟩ := u
  try dsimp only at hw
  have hP : va_P D gCl [(h_c, .inr (2, [.ref h_w, .ref h_r, .ref c_tape, .ref h_t, .ref h_y, .int c_latestSpent])), (h_w, .inl (cI, 8, .inl vw)), (h_r, .inl (cI, 4, .inl vr)), (h_t, .inr (1, [.ref h_b, .int t_size, .int t_at])), (h_b, .inl (cI, Nb, .inl vb)), (h_y, .inr (0, [.int yhits_1, .int yrunOuts_2, .int ybitsRead_3, .int yfewestBits_4]))] H := hP
  have hD : va_D A [(h_c, .inr (2, [.ref h_w, .ref h_r, .ref c_tape, .ref h_t, .ref h_y, .int c_latestSpent])), (h_w, .inl (cI, 8, .inl vw)), (h_r, .inl (cI, 4, .inl vr)), (h_t, .inr (1, [.ref h_b, .int t_size, .int t_at])), (h_b, .inl (cI, Nb, .inl vb)), (h_y, .inr (0, [.int yhits_1, .int yrunOuts_2, .int ybitsRead_3, .int yfewestBits_4]))] := hD
  refine lv_iconst (v := (nI 1)) hx hb d_C_tryAllTapes_7 (by decide) ?_
  refine lv_iload hx hb d_C_tryAllTapes_8 (lv_at hl 4 rfl) ?_
  refine lv_ishl hx hb d_C_tryAllTapes_10 ?_
  refine lv_istore (lv' := [(6, .int ((nI 1) <<< (x4 &&& 31))), (0, .ref h_c), (1, .int x1), (2, .int x2), (3, .int x3), (4, .int x4), (5, .int x5)]) hx hb d_C_tryAllTapes_11 hl (by decide) rfl (fun ls hl => ?_)
  refine lv_iconst (v := (nI 0)) hx hb d_C_tryAllTapes_13 (by decide) ?_
  refine lv_istore (lv' := [(8, .int (nI 0)), (6, .int ((nI 1) <<< (x4 &&& 31))), (0, .ref h_c), (1, .int x1), (2, .int x2), (3, .int x3), (4, .int x4), (5, .int x5)]) hx hb d_C_tryAllTapes_14 hl (by decide) rfl (fun ls hl => ?_)
  obtain ⟨n_16, hw⟩ := hw
  have k_16 : ∀ (x6 : Int32) (n_16 : Nat) (vr : Nat → Int32) (t_size : Int32) (t_at : Int32) (vb : Nat → Int32) (y_hits : Int32) (y_runOuts : Int32) (y_bitsRead : Int32) (y_fewestBits : Int32) (x8 : Int32), gL9 (wpF_C_tryAllTapes_16 post Nb c_latestSpent vw x1 x2 x3 x4 x5 x6) n_16 vr t_size t_at vb y_hits y_runOuts y_bitsRead y_fewestBits x8 → ∀ (H : Heap) (locs : List Loc) (ls : Array Slot), va_P D gCl [(h_c, .inr (2, [.ref h_w, .ref h_r, .ref c_tape, .ref h_t, .ref h_y, .int c_latestSpent])), (h_w, .inl (cI, 8, .inl vw)), (h_r, .inl (cI, 4, .inl vr)), (h_t, .inr (1, [.ref h_b, .int t_size, .int t_at])), (h_b, .inl (cI, Nb, .inl vb)), (h_y, .inr (0, [.int y_hits, .int y_runOuts, .int y_bitsRead, .int y_fewestBits]))] H → va_D A [(h_c, .inr (2, [.ref h_w, .ref h_r, .ref c_tape, .ref h_t, .ref h_y, .int c_latestSpent])), (h_w, .inl (cI, 8, .inl vw)), (h_r, .inl (cI, 4, .inl vr)), (h_t, .inr (1, [.ref h_b, .int t_size, .int t_at])), (h_b, .inl (cI, Nb, .inl vb)), (h_y, .inr (0, [.int y_hits, .int y_runOuts, .int y_bitsRead, .int y_fewestBits]))] → va_S A s.heap H locs → lv_has ls 10 [(8, .int x8), (6, .int x6), (0, .ref h_c), (1, .int x1), (2, .int x2), (3, .int x3), (4, .int x4), (5, .int x5)] → W p l e rm_C_tryAllTapes s m args below meth c H locs 0 0 Q (F0 m 16 ls []) := by
    clear hw hP hD hS hl
    intro x6 n_16
    induction n_16 with
    | zero => exact fun _ _ _ _ _ _ _ _ _ h => h.elim
    | succ n_16 ih_16 =>
      intro vr t_size t_at vb y_hits y_runOuts y_bitsRead y_fewestBits x8 hw H locs ls hP hD hS hl
      have hw : wpF_C_tryAllTapes_16 post Nb c_latestSpent vw x1 x2 x3 x4 x5 x6 (gL9 (wpF_C_tryAllTapes_16 post Nb c_latestSpent vw x1 x2 x3 x4 x5 x6) n_16) vr t_size t_at vb y_hits y_runOuts y_bitsRead y_fewestBits x8 := hw
      rw [wpF_C_tryAllTapes_16] at hw
      refine lv_iload hx hb d_C_tryAllTapes_16 (lv_at hl 0 rfl) ?_
      refine lv_iload hx hb d_C_tryAllTapes_18 (lv_at hl 1 rfl) ?_
      refine lv_icmp_ge (tgt := 99) hx hb d_C_tryAllTapes_20 (by decide) (fun c20 => ?_) (fun c20 => ?_)
      · have hw := hw.1 c20
        exact hret _ _ (vr, t_size, t_at, vb, y_hits, y_runOuts, y_bitsRead, y_fewestBits) _ _ hw hP hD hS d_C_tryAllTapes_99
      · have hw := hw.2 c20
        refine lv_aload_n hx hb d_C_tryAllTapes_23 rfl (lv_at hl 2 rfl) ?_
        refine gGet fx hK hP 0 rfl inC rfl (k := 3) (by decide) w_58 rfl d_C_tryAllTapes_24 ?_
        refine g_cVv (wr := [(h_c, .inr (2, [.ref h_w, .ref h_r, .ref c_tape, .ref h_t, .ref h_y, .int c_latestSpent])), (h_w, .inl (cI, 8, .inl vw)), (h_r, .inl (cI, 4, .inl vr)), (h_b, .inl (cI, Nb, .inl vb)), (h_y, .inr (0, [.int y_hits, .int y_runOuts, .int y_bitsRead, .int y_fewestBits]))]) fx (c_T_clear l D cI h_t h_b t_size t_at _ hw) mf_T_clear w_195 ⟨rfl, rfl⟩ ⟨Nat.le_of_ble_eq_true rfl, Nat.le_of_ble_eq_true rfl⟩ hN hK hA hP hD hS [3] [0, 1, 2, 4, 5] rfl rfl rfl rfl (by decide) 0 rfl rfl rfl rfl hl.1 (Nat.le_of_ble_eq_true rfl) d_C_tryAllTapes_27 ⟨Nat.zero_le _, Nat.zero_le _⟩ (fun u H locs hw hP hD hS => ?_)
        obtain ⟨tsize_5, tat_6⟩ := u
        try dsimp only at hw
        have hP : va_P D gCl [(h_c, .inr (2, [.ref h_w, .ref h_r, .ref c_tape, .ref h_t, .ref h_y, .int c_latestSpent])), (h_w, .inl (cI, 8, .inl vw)), (h_r, .inl (cI, 4, .inl vr)), (h_b, .inl (cI, Nb, .inl vb)), (h_y, .inr (0, [.int y_hits, .int y_runOuts, .int y_bitsRead, .int y_fewestBits])), (h_t, .inr (1, [.ref h_b, .int tsize_5, .int tat_6]))] H := hP
        have hD : va_D A [(h_c, .inr (2, [.ref h_w, .ref h_r, .ref c_tape, .ref h_t, .ref h_y, .int c_latestSpent])), (h_w, .inl (cI, 8, .inl vw)), (h_r, .inl (cI, 4, .inl vr)), (h_b, .inl (cI, Nb, .inl vb)), (h_y, .inr (0, [.int y_hits, .int y_runOuts, .int y_bitsRead, .int y_fewestBits])), (h_t, .inr (1, [.ref h_b, .int tsize_5, .int tat_6]))] := hD
        refine lv_aload_n hx hb d_C_tryAllTapes_30 rfl (lv_at hl 2 rfl) ?_
        refine gGet fx hK hP 0 rfl inC rfl (k := 3) (by decide) w_58 rfl d_C_tryAllTapes_31 ?_
        refine lv_iload hx hb d_C_tryAllTapes_34 (lv_at hl 0 rfl) ?_
        refine lv_iload hx hb d_C_tryAllTapes_36 (lv_at hl 6 rfl) ?_
        refine g_cVi (wr := [(h_c, .inr (2, [.ref h_w, .ref h_r, .ref c_tape, .ref h_t, .ref h_y, .int c_latestSpent])), (h_w, .inl (cI, 8, .inl vw)), (h_r, .inl (cI, 4, .inl vr)), (h_y, .inr (0, [.int y_hits, .int y_runOuts, .int y_bitsRead, .int y_fewestBits]))]) fx (c_T_append l D cI h_t h_b Nb tsize_5 tat_6 vb x8 x4 _ hw) mf_T_append w_89 ⟨rfl, rfl⟩ ⟨Nat.le_of_ble_eq_true rfl, Nat.le_of_ble_eq_true rfl⟩ hN hK hA hP hD hS [5, 3] [0, 1, 2, 4] rfl rfl rfl rfl (by decide) 0 rfl rfl rfl rfl hl.1 (Nat.le_of_ble_eq_true rfl) d_C_tryAllTapes_38 ⟨Nat.zero_le _, Nat.zero_le _⟩ (fun r_7 u H locs hw hP hD hS => ?_)
        obtain ⟨tsize_8, vb_9⟩ := u
        try dsimp only at hw
        have hP : va_P D gCl [(h_c, .inr (2, [.ref h_w, .ref h_r, .ref c_tape, .ref h_t, .ref h_y, .int c_latestSpent])), (h_w, .inl (cI, 8, .inl vw)), (h_r, .inl (cI, 4, .inl vr)), (h_y, .inr (0, [.int y_hits, .int y_runOuts, .int y_bitsRead, .int y_fewestBits])), (h_t, .inr (1, [.ref h_b, .int tsize_8, .int tat_6])), (h_b, .inl (cI, Nb, .inl vb_9))] H := hP
        have hD : va_D A [(h_c, .inr (2, [.ref h_w, .ref h_r, .ref c_tape, .ref h_t, .ref h_y, .int c_latestSpent])), (h_w, .inl (cI, 8, .inl vw)), (h_r, .inl (cI, 4, .inl vr)), (h_y, .inr (0, [.int y_hits, .int y_runOuts, .int y_bitsRead, .int y_fewestBits])), (h_t, .inr (1, [.ref h_b, .int tsize_8, .int tat_6])), (h_b, .inl (cI, Nb, .inl vb_9))] := hD
        refine lv_pop hx hb d_C_tryAllTapes_41 rfl ?_
        refine lv_aload_n hx hb d_C_tryAllTapes_42 rfl (lv_at hl 2 rfl) ?_
        refine lv_aload_n hx hb d_C_tryAllTapes_43 rfl (lv_at hl 2 rfl) ?_
        refine gGet fx hK hP 0 rfl inC rfl (k := 3) (by decide) w_58 rfl d_C_tryAllTapes_44 ?_
        refine lv_iload_n hx hb d_C_tryAllTapes_47 rfl (lv_at hl 3 rfl) ?_
        refine lv_iload_n hx hb d_C_tryAllTapes_48 rfl (lv_at hl 4 rfl) ?_
        refine lv_iload_n hx hb d_C_tryAllTapes_49 rfl (lv_at hl 5 rfl) ?_
        refine g_cVi (wr := [(h_y, .inr (0, [.int y_hits, .int y_runOuts, .int y_bitsRead, .int y_fewestBits]))]) fx (c_C_sample l D cI h_c h_w h_r h_t h_b c_tape h_t h_y Nb c_latestSpent vw vr tsize_8 tat_6 vb_9 x1 x2 x3 _ hw) mf_C_sample w_118 ⟨rfl, rfl⟩ ⟨Nat.le_of_ble_eq_true rfl, Nat.le_of_ble_eq_true rfl⟩ hN hK hA hP hD hS [0, 1, 2, 4, 5] [3] rfl rfl rfl rfl (by decide) 0 rfl rfl rfl rfl hl.1 (Nat.le_of_ble_eq_true rfl) d_C_tryAllTapes_50 ⟨Nat.zero_le _, Nat.zero_le _⟩ (fun r_10 u H locs hw hP hD hS => ?_)
        obtain ⟨vr_11, tat_12⟩ := u
        try dsimp only at hw
        have hP : va_P D gCl [(h_y, .inr (0, [.int y_hits, .int y_runOuts, .int y_bitsRead, .int y_fewestBits])), (h_c, .inr (2, [.ref h_w, .ref h_r, .ref c_tape, .ref h_t, .ref h_y, .int c_latestSpent])), (h_w, .inl (cI, 8, .inl vw)), (h_r, .inl (cI, 4, .inl vr_11)), (h_t, .inr (1, [.ref h_b, .int tsize_8, .int tat_12])), (h_b, .inl (cI, Nb, .inl vb_9))] H := hP
        have hD : va_D A [(h_y, .inr (0, [.int y_hits, .int y_runOuts, .int y_bitsRead, .int y_fewestBits])), (h_c, .inr (2, [.ref h_w, .ref h_r, .ref c_tape, .ref h_t, .ref h_y, .int c_latestSpent])), (h_w, .inl (cI, 8, .inl vw)), (h_r, .inl (cI, 4, .inl vr_11)), (h_t, .inr (1, [.ref h_b, .int tsize_8, .int tat_12])), (h_b, .inl (cI, Nb, .inl vb_9))] := hD
        refine lv_istore (lv' := [(9, .int r_10), (8, .int x8), (6, .int x6), (0, .ref h_c), (1, .int x1), (2, .int x2), (3, .int x3), (4, .int x4), (5, .int x5)]) hx hb d_C_tryAllTapes_53 hl (by decide) rfl (fun ls hl => ?_)
        refine lv_iconst (v := (nI 1)) hx hb d_C_tryAllTapes_55 (by decide) ?_
        refine lv_iload hx hb d_C_tryAllTapes_56 (lv_at hl 7 rfl) ?_
        refine lv_aload_n hx hb d_C_tryAllTapes_58 rfl (lv_at hl 3 rfl) ?_
        refine gGet fx hK hP 1 rfl inC rfl (k := 3) (by decide) w_58 rfl d_C_tryAllTapes_59 ?_
        refine g_cVi (wr := [(h_y, .inr (0, [.int y_hits, .int y_runOuts, .int y_bitsRead, .int y_fewestBits])), (h_c, .inr (2, [.ref h_w, .ref h_r, .ref c_tape, .ref h_t, .ref h_y, .int c_latestSpent])), (h_w, .inl (cI, 8, .inl vw)), (h_r, .inl (cI, 4, .inl vr_11)), (h_b, .inl (cI, Nb, .inl vb_9))]) fx (c_T_readSoFar l D cI h_t h_b tsize_8 tat_12 _ hw) mf_T_readSoFar w_164 ⟨rfl, rfl⟩ ⟨Nat.le_of_ble_eq_true rfl, Nat.le_of_ble_eq_true rfl⟩ hN hK hA hP hD hS [4] [0, 1, 2, 3, 5] rfl rfl rfl rfl (by decide) 0 rfl rfl rfl rfl hl.1 (Nat.le_of_ble_eq_true rfl) d_C_tryAllTapes_62 ⟨Nat.zero_le _, Nat.zero_le _⟩ (fun r_13 u H locs hw hP hD hS => ?_)
        try dsimp only at hw
        have hP : va_P D gCl [(h_y, .inr (0, [.int y_hits, .int y_runOuts, .int y_bitsRead, .int y_fewestBits])), (h_c, .inr (2, [.ref h_w, .ref h_r, .ref c_tape, .ref h_t, .ref h_y, .int c_latestSpent])), (h_w, .inl (cI, 8, .inl vw)), (h_r, .inl (cI, 4, .inl vr_11)), (h_b, .inl (cI, Nb, .inl vb_9)), (h_t, .inr (1, [.ref h_b, .int tsize_8, .int tat_12]))] H := hP
        have hD : va_D A [(h_y, .inr (0, [.int y_hits, .int y_runOuts, .int y_bitsRead, .int y_fewestBits])), (h_c, .inr (2, [.ref h_w, .ref h_r, .ref c_tape, .ref h_t, .ref h_y, .int c_latestSpent])), (h_w, .inl (cI, 8, .inl vw)), (h_r, .inl (cI, 4, .inl vr_11)), (h_b, .inl (cI, Nb, .inl vb_9)), (h_t, .inr (1, [.ref h_b, .int tsize_8, .int tat_12]))] := hD
        refine lv_isub hx hb d_C_tryAllTapes_65 ?_
        refine lv_ishl hx hb d_C_tryAllTapes_66 ?_
        refine lv_istore (lv' := [(7, .int ((nI 1) <<< ((x4 - r_13) &&& 31))), (9, .int r_10), (8, .int x8), (6, .int x6), (0, .ref h_c), (1, .int x1), (2, .int x2), (3, .int x3), (4, .int x4), (5, .int x5)]) hx hb d_C_tryAllTapes_67 hl (by decide) rfl (fun ls hl => ?_)
        refine lv_aload_n hx hb d_C_tryAllTapes_69 rfl (lv_at hl 4 rfl) ?_
        refine gGet fx hK hP 1 rfl inC rfl (k := 4) (by decide) w_59 rfl d_C_tryAllTapes_70 ?_
        refine lv_iload hx hb d_C_tryAllTapes_73 (lv_at hl 1 rfl) ?_
        refine lv_iload hx hb d_C_tryAllTapes_75 (lv_at hl 9 rfl) ?_
        refine lv_aload_n hx hb d_C_tryAllTapes_77 rfl (lv_at hl 4 rfl) ?_
        refine gGet fx hK hP 1 rfl inC rfl (k := 3) (by decide) w_58 rfl d_C_tryAllTapes_78 ?_
        refine g_cVi (wr := [(h_y, .inr (0, [.int y_hits, .int y_runOuts, .int y_bitsRead, .int y_fewestBits])), (h_c, .inr (2, [.ref h_w, .ref h_r, .ref c_tape, .ref h_t, .ref h_y, .int c_latestSpent])), (h_w, .inl (cI, 8, .inl vw)), (h_r, .inl (cI, 4, .inl vr_11)), (h_b, .inl (cI, Nb, .inl vb_9))]) fx (c_T_readSoFar l D cI h_t h_b tsize_8 tat_12 _ hw) mf_T_readSoFar w_164 ⟨rfl, rfl⟩ ⟨Nat.le_of_ble_eq_true rfl, Nat.le_of_ble_eq_true rfl⟩ hN hK hA hP hD hS [5] [0, 1, 2, 3, 4] rfl rfl rfl rfl (by decide) 0 rfl rfl rfl rfl hl.1 (Nat.le_of_ble_eq_true rfl) d_C_tryAllTapes_81 ⟨Nat.zero_le _, Nat.zero_le _⟩ (fun r_14 u H locs hw hP hD hS => ?_)
        try dsimp only at hw
        have hP : va_P D gCl [(h_y, .inr (0, [.int y_hits, .int y_runOuts, .int y_bitsRead, .int y_fewestBits])), (h_c, .inr (2, [.ref h_w, .ref h_r, .ref c_tape, .ref h_t, .ref h_y, .int c_latestSpent])), (h_w, .inl (cI, 8, .inl vw)), (h_r, .inl (cI, 4, .inl vr_11)), (h_b, .inl (cI, Nb, .inl vb_9)), (h_t, .inr (1, [.ref h_b, .int tsize_8, .int tat_12]))] H := hP
        have hD : va_D A [(h_y, .inr (0, [.int y_hits, .int y_runOuts, .int y_bitsRead, .int y_fewestBits])), (h_c, .inr (2, [.ref h_w, .ref h_r, .ref c_tape, .ref h_t, .ref h_y, .int c_latestSpent])), (h_w, .inl (cI, 8, .inl vw)), (h_r, .inl (cI, 4, .inl vr_11)), (h_b, .inl (cI, Nb, .inl vb_9)), (h_t, .inr (1, [.ref h_b, .int tsize_8, .int tat_12]))] := hD
        refine lv_iload hx hb d_C_tryAllTapes_84 (lv_at hl 0 rfl) ?_
        refine g_cVv (wr := [(h_c, .inr (2, [.ref h_w, .ref h_r, .ref c_tape, .ref h_t, .ref h_y, .int c_latestSpent])), (h_w, .inl (cI, 8, .inl vw)), (h_r, .inl (cI, 4, .inl vr_11)), (h_b, .inl (cI, Nb, .inl vb_9)), (h_t, .inr (1, [.ref h_b, .int tsize_8, .int tat_12]))]) fx (c_Y_add l D cI h_y y_hits y_runOuts y_bitsRead y_fewestBits r_10 x5 r_14 ((nI 1) <<< ((x4 - r_13) &&& 31)) _ hw) mf_Y_add w_199 ⟨rfl, rfl⟩ ⟨Nat.le_of_ble_eq_true rfl, Nat.le_of_ble_eq_true rfl⟩ hN hK hA hP hD hS [0] [1, 2, 3, 4, 5] rfl rfl rfl rfl (by decide) 0 rfl rfl rfl rfl hl.1 (Nat.le_of_ble_eq_true rfl) d_C_tryAllTapes_86 ⟨Nat.zero_le _, Nat.zero_le _⟩ (fun u H locs hw hP hD hS => ?_)
        obtain ⟨yhits_15, yrunOuts_16, ybitsRead_17, yfewestBits_18⟩ := u
        try dsimp only at hw
        have hP : va_P D gCl [(h_c, .inr (2, [.ref h_w, .ref h_r, .ref c_tape, .ref h_t, .ref h_y, .int c_latestSpent])), (h_w, .inl (cI, 8, .inl vw)), (h_r, .inl (cI, 4, .inl vr_11)), (h_b, .inl (cI, Nb, .inl vb_9)), (h_t, .inr (1, [.ref h_b, .int tsize_8, .int tat_12])), (h_y, .inr (0, [.int yhits_15, .int yrunOuts_16, .int ybitsRead_17, .int yfewestBits_18]))] H := hP
        have hD : va_D A [(h_c, .inr (2, [.ref h_w, .ref h_r, .ref c_tape, .ref h_t, .ref h_y, .int c_latestSpent])), (h_w, .inl (cI, 8, .inl vw)), (h_r, .inl (cI, 4, .inl vr_11)), (h_b, .inl (cI, Nb, .inl vb_9)), (h_t, .inr (1, [.ref h_b, .int tsize_8, .int tat_12])), (h_y, .inr (0, [.int yhits_15, .int yrunOuts_16, .int ybitsRead_17, .int yfewestBits_18]))] := hD
        refine lv_iload hx hb d_C_tryAllTapes_89 (lv_at hl 2 rfl) ?_
        refine lv_iload hx hb d_C_tryAllTapes_91 (lv_at hl 0 rfl) ?_
        refine lv_iadd hx hb d_C_tryAllTapes_93 ?_
        refine lv_istore (lv' := [(8, .int (x8 + ((nI 1) <<< ((x4 - r_13) &&& 31)))), (7, .int ((nI 1) <<< ((x4 - r_13) &&& 31))), (9, .int r_10), (6, .int x6), (0, .ref h_c), (1, .int x1), (2, .int x2), (3, .int x3), (4, .int x4), (5, .int x5)]) hx hb d_C_tryAllTapes_94 hl (by decide) rfl (fun ls hl => ?_)
        refine lv_goto (tgt := 16) hx hb d_C_tryAllTapes_96 (by decide) ?_
        exact ih_16 _ _ _ _ _ _ _ _ _ hw _ _ _ (gSubP hP [0, 1, 2, 4, 3, 5] rfl) (hD.sub [0, 1, 2, 4, 3, 5] rfl rfl) hS (lv_sub hl [0, 3, 4, 5, 6, 7, 8, 9] rfl)
  exact k_16 ((nI 1) <<< (x4 &&& 31)) n_16 _ _ _ _ _ _ _ _ _ hw _ _ _ hP hD hS (lv_sub hl [0, 1, 2, 3, 4, 5, 6, 7] rfl)
def wp_C_count (post : Int32 → (Nat → Int32) → Int32 → Int32 → (Nat → Int32) → Int32 → Int32 → Int32 → Int32 → Prop) (Nb : Nat) (c_latestSpent : Int32) (vw : Nat → Int32) (vr : Nat → Int32) (t_size : Int32) (t_at : Int32) (vb : Nat → Int32) (y_hits : Int32) (y_runOuts : Int32) (y_bitsRead : Int32) (y_fewestBits : Int32) (x1 : Int32) (x2 : Int32) (x3 : Int32) (x4 : Int32) (x5 : Int32) : Prop :=
  wp_C_isCountable (fun r_1 => ((¬ r_1 = 0 → wp_C_tryAllTapes (fun vr_2 tsize_3 tat_4 vb_5 yhits_6 yrunOuts_7 ybitsRead_8 yfewestBits_9 => post yhits_6 vr_2 tsize_3 tat_4 vb_5 yhits_6 yrunOuts_7 ybitsRead_8 yfewestBits_9) Nb c_latestSpent vw vr t_size t_at vb y_hits y_runOuts y_bitsRead y_fewestBits x1 x2 x3 x4 x5) ∧ (r_1 = 0 → post (-1) vr t_size t_at vb y_hits y_runOuts y_bitsRead y_fewestBits))) c_latestSpent vw x1 x2 x3 x4
abbrev rm_C_count : Room := { frames := 6, cells := 0, slots := 0, locals := 147 }
theorem mf_C_count : gFV y_C_count b_C_count 6 (some .int) 5 := ⟨w_182, w_1, ⟨by decide, by decide, by decide +kernel⟩, w_180, w_181⟩
set_option maxHeartbeats 4000000 in
set_option maxRecDepth 100000 in
theorem c_C_count (l : Launch) (D : va_G) (cI : ClassId) (h_c : Nat) (h_w : Nat) (h_r : Nat) (h_t : Nat) (h_b : Nat) (h_y : Nat) (c_tape : Nat) (Nb : Nat) (c_latestSpent : Int32) (vw : Nat → Int32) (vr : Nat → Int32) (t_size : Int32) (t_at : Int32) (vb : Nat → Int32) (y_hits : Int32) (y_runOuts : Int32) (y_bitsRead : Int32) (y_fewestBits : Int32) (x1 : Int32) (x2 : Int32) (x3 : Int32) (x4 : Int32) (x5 : Int32) (post : Int32 → (Nat → Int32) → Int32 → Int32 → (Nat → Int32) → Int32 → Int32 → Int32 → Int32 → Prop) (hw : wp_C_count post Nb c_latestSpent vw vr t_size t_at vb y_hits y_runOuts y_bitsRead y_fewestBits x1 x2 x3 x4 x5) :
    gMi l D [(cI, .int)] y_C_count b_C_count 6 .int rm_C_count [.ref h_c, .int x1, .int x2, .int x3, .int x4, .int x5] [(h_c, .inr (2, [.ref h_w, .ref h_r, .ref c_tape, .ref h_t, .ref h_y, .int c_latestSpent])), (h_w, .inl (cI, 8, .inl vw)), (h_r, .inl (cI, 4, .inl vr)), (h_t, .inr (1, [.ref h_b, .int t_size, .int t_at])), (h_b, .inl (cI, Nb, .inl vb)), (h_y, .inr (0, [.int y_hits, .int y_runOuts, .int y_bitsRead, .int y_fewestBits]))] (S := (Nat → Int32) × Int32 × Int32 × (Nat → Int32) × Int32 × Int32 × Int32 × Int32) (fun u => [(h_c, .inr (2, [.ref h_w, .ref h_r, .ref c_tape, .ref h_t, .ref h_y, .int c_latestSpent])), (h_w, .inl (cI, 8, .inl vw)), (h_r, .inl (cI, 4, .inl u.1)), (h_t, .inr (1, [.ref h_b, .int u.2.1, .int u.2.2.1])), (h_b, .inl (cI, Nb, .inl u.2.2.2.1)), (h_y, .inr (0, [.int u.2.2.2.2.1, .int u.2.2.2.2.2.1, .int u.2.2.2.2.2.2.1, .int u.2.2.2.2.2.2.2]))]) (fun r u => post r u.1 u.2.1 u.2.2.1 u.2.2.2.1 u.2.2.2.2.1 u.2.2.2.2.2.1 u.2.2.2.2.2.2.1 u.2.2.2.2.2.2.2) := by
  rw [wp_C_count] at hw
  refine gMi.of (by decide) (Nat.le_of_ble_eq_true rfl) (fun p e s m args below meth c A Q ls hx hb hml hown hts hN hK hA hP hD hret hl => ?_)
  have fx : CallFix p m c b_C_count 6 s args gG "TapeCounter" := ⟨hx, hb, hml, hown, hts⟩
  have hl : lv_has ls 6 [(0, .ref h_c), (1, .int x1), (2, .int x2), (3, .int x3), (4, .int x4), (5, .int x5)] := hl
  have hS : va_S A s.heap s.heap [] := va_S.rf
  refine lv_aload_n hx hb d_C_count_0 rfl (lv_at hl 0 rfl) ?_
  refine lv_iload_n hx hb d_C_count_1 rfl (lv_at hl 1 rfl) ?_
  refine lv_iload_n hx hb d_C_count_2 rfl (lv_at hl 2 rfl) ?_
  refine lv_iload_n hx hb d_C_count_3 rfl (lv_at hl 3 rfl) ?_
  refine lv_iload hx hb d_C_count_4 (lv_at hl 4 rfl) ?_
  refine g_cVi (wr := [(h_r, .inl (cI, 4, .inl vr)), (h_t, .inr (1, [.ref h_b, .int t_size, .int t_at])), (h_b, .inl (cI, Nb, .inl vb)), (h_y, .inr (0, [.int y_hits, .int y_runOuts, .int y_bitsRead, .int y_fewestBits]))]) fx (c_C_isCountable l D cI h_c h_w h_r c_tape h_t h_y c_latestSpent vw x1 x2 x3 x4 _ hw) mf_C_isCountable w_183 ⟨rfl, rfl⟩ ⟨Nat.le_of_ble_eq_true rfl, Nat.le_of_ble_eq_true rfl⟩ hN hK hA hP hD hS [0, 1] [2, 3, 4, 5] rfl rfl rfl rfl (by decide) 0 rfl rfl rfl rfl hl.1 (Nat.le_of_ble_eq_true rfl) d_C_count_6 ⟨Nat.zero_le _, Nat.zero_le _⟩ (fun r_1 u H locs hw hP hD hS => ?_)
  try dsimp only at hw
  have hP : va_P D gCl [(h_r, .inl (cI, 4, .inl vr)), (h_t, .inr (1, [.ref h_b, .int t_size, .int t_at])), (h_b, .inl (cI, Nb, .inl vb)), (h_y, .inr (0, [.int y_hits, .int y_runOuts, .int y_bitsRead, .int y_fewestBits])), (h_c, .inr (2, [.ref h_w, .ref h_r, .ref c_tape, .ref h_t, .ref h_y, .int c_latestSpent])), (h_w, .inl (cI, 8, .inl vw))] H := hP
  have hD : va_D A [(h_r, .inl (cI, 4, .inl vr)), (h_t, .inr (1, [.ref h_b, .int t_size, .int t_at])), (h_b, .inl (cI, Nb, .inl vb)), (h_y, .inr (0, [.int y_hits, .int y_runOuts, .int y_bitsRead, .int y_fewestBits])), (h_c, .inr (2, [.ref h_w, .ref h_r, .ref c_tape, .ref h_t, .ref h_y, .int c_latestSpent])), (h_w, .inl (cI, 8, .inl vw))] := hD
  refine lv_if_ne (tgt := 14) hx hb d_C_count_9 (by decide) (fun c9 => ?_) (fun c9 => ?_)
  · have hw := hw.1 c9
    refine lv_aload_n hx hb d_C_count_14 rfl (lv_at hl 0 rfl) ?_
    refine lv_iload_n hx hb d_C_count_15 rfl (lv_at hl 1 rfl) ?_
    refine lv_iload_n hx hb d_C_count_16 rfl (lv_at hl 2 rfl) ?_
    refine lv_iload_n hx hb d_C_count_17 rfl (lv_at hl 3 rfl) ?_
    refine lv_iload hx hb d_C_count_18 (lv_at hl 4 rfl) ?_
    refine lv_iload hx hb d_C_count_20 (lv_at hl 5 rfl) ?_
    refine g_cVv (wr := []) fx (c_C_tryAllTapes l D cI h_c h_w h_r h_t h_b h_y c_tape Nb c_latestSpent vw vr t_size t_at vb y_hits y_runOuts y_bitsRead y_fewestBits x1 x2 x3 x4 x5 _ hw) mf_C_tryAllTapes w_187 ⟨rfl, rfl⟩ ⟨Nat.le_of_ble_eq_true rfl, Nat.le_of_ble_eq_true rfl⟩ hN hK hA hP hD hS [4, 5, 0, 1, 2, 3] [] rfl rfl rfl rfl (by decide) 0 rfl rfl rfl rfl hl.1 (Nat.le_of_ble_eq_true rfl) d_C_count_22 ⟨Nat.zero_le _, Nat.zero_le _⟩ (fun u H locs hw hP hD hS => ?_)
    obtain ⟨vr_2, tsize_3, tat_4, vb_5, yhits_6, yrunOuts_7, ybitsRead_8, yfewestBits_9⟩ := u
    try dsimp only at hw
    have hP : va_P D gCl [(h_c, .inr (2, [.ref h_w, .ref h_r, .ref c_tape, .ref h_t, .ref h_y, .int c_latestSpent])), (h_w, .inl (cI, 8, .inl vw)), (h_r, .inl (cI, 4, .inl vr_2)), (h_t, .inr (1, [.ref h_b, .int tsize_3, .int tat_4])), (h_b, .inl (cI, Nb, .inl vb_5)), (h_y, .inr (0, [.int yhits_6, .int yrunOuts_7, .int ybitsRead_8, .int yfewestBits_9]))] H := hP
    have hD : va_D A [(h_c, .inr (2, [.ref h_w, .ref h_r, .ref c_tape, .ref h_t, .ref h_y, .int c_latestSpent])), (h_w, .inl (cI, 8, .inl vw)), (h_r, .inl (cI, 4, .inl vr_2)), (h_t, .inr (1, [.ref h_b, .int tsize_3, .int tat_4])), (h_b, .inl (cI, Nb, .inl vb_5)), (h_y, .inr (0, [.int yhits_6, .int yrunOuts_7, .int ybitsRead_8, .int yfewestBits_9]))] := hD
    refine lv_aload_n hx hb d_C_count_25 rfl (lv_at hl 0 rfl) ?_
    refine gGet fx hK hP 0 rfl inC rfl (k := 4) (by decide) w_59 rfl d_C_count_26 ?_
    refine gGetN fx hN hK hP 5 rfl inY rfl (k := 0) (by decide) gN_1 rfl d_C_count_29 ?_
    exact hret _ _ _ (vr_2, tsize_3, tat_4, vb_5, yhits_6, yrunOuts_7, ybitsRead_8, yfewestBits_9) _ _ hw rfl hP hD hS d_C_count_32
  · have hw := hw.2 c9
    refine lv_iconst (v := (-1)) hx hb d_C_count_12 (by decide) ?_
    exact hret _ _ _ (vr, t_size, t_at, vb, y_hits, y_runOuts, y_bitsRead, y_fewestBits) _ _ hw rfl (gSubP hP [4, 5, 0, 1, 2, 3] rfl) (hD.sub [4, 5, 0, 1, 2, 3] rfl rfl) hS d_C_count_13
def wp_C_fails (post : Int32 → (Nat → Int32) → Int32 → Int32 → (Nat → Int32) → Int32 → Int32 → Int32 → Int32 → Prop) (Nb : Nat) (c_latestSpent : Int32) (vw : Nat → Int32) (vr : Nat → Int32) (t_size : Int32) (t_at : Int32) (vb : Nat → Int32) (y_hits : Int32) (y_runOuts : Int32) (y_bitsRead : Int32) (y_fewestBits : Int32) (x1 : Int32) (x2 : Int32) (x3 : Int32) (x4 : Int32) : Prop :=
  wp_C_isCountable (fun r_1 => ((¬ r_1 = 0 → wp_C_tryAllTapes (fun vr_2 tsize_3 tat_4 vb_5 yhits_6 yrunOuts_7 ybitsRead_8 yfewestBits_9 => post yrunOuts_7 vr_2 tsize_3 tat_4 vb_5 yhits_6 yrunOuts_7 ybitsRead_8 yfewestBits_9) Nb c_latestSpent vw vr t_size t_at vb y_hits y_runOuts y_bitsRead y_fewestBits x1 x2 x3 x4 (-1)) ∧ (r_1 = 0 → post (-1) vr t_size t_at vb y_hits y_runOuts y_bitsRead y_fewestBits))) c_latestSpent vw x1 x2 x3 x4
abbrev rm_C_fails : Room := { frames := 6, cells := 0, slots := 0, locals := 147 }
theorem mf_C_fails : gFV y_C_fails b_C_fails 5 (some .int) 4 := ⟨w_209, w_1, ⟨by decide, by decide, by decide +kernel⟩, w_207, w_208⟩
set_option maxHeartbeats 4000000 in
set_option maxRecDepth 100000 in
theorem c_C_fails (l : Launch) (D : va_G) (cI : ClassId) (h_c : Nat) (h_w : Nat) (h_r : Nat) (h_t : Nat) (h_b : Nat) (h_y : Nat) (c_tape : Nat) (Nb : Nat) (c_latestSpent : Int32) (vw : Nat → Int32) (vr : Nat → Int32) (t_size : Int32) (t_at : Int32) (vb : Nat → Int32) (y_hits : Int32) (y_runOuts : Int32) (y_bitsRead : Int32) (y_fewestBits : Int32) (x1 : Int32) (x2 : Int32) (x3 : Int32) (x4 : Int32) (post : Int32 → (Nat → Int32) → Int32 → Int32 → (Nat → Int32) → Int32 → Int32 → Int32 → Int32 → Prop) (hw : wp_C_fails post Nb c_latestSpent vw vr t_size t_at vb y_hits y_runOuts y_bitsRead y_fewestBits x1 x2 x3 x4) :
    gMi l D [(cI, .int)] y_C_fails b_C_fails 5 .int rm_C_fails [.ref h_c, .int x1, .int x2, .int x3, .int x4] [(h_c, .inr (2, [.ref h_w, .ref h_r, .ref c_tape, .ref h_t, .ref h_y, .int c_latestSpent])), (h_w, .inl (cI, 8, .inl vw)), (h_r, .inl (cI, 4, .inl vr)), (h_t, .inr (1, [.ref h_b, .int t_size, .int t_at])), (h_b, .inl (cI, Nb, .inl vb)), (h_y, .inr (0, [.int y_hits, .int y_runOuts, .int y_bitsRead, .int y_fewestBits]))] (S := (Nat → Int32) × Int32 × Int32 × (Nat → Int32) × Int32 × Int32 × Int32 × Int32) (fun u => [(h_c, .inr (2, [.ref h_w, .ref h_r, .ref c_tape, .ref h_t, .ref h_y, .int c_latestSpent])), (h_w, .inl (cI, 8, .inl vw)), (h_r, .inl (cI, 4, .inl u.1)), (h_t, .inr (1, [.ref h_b, .int u.2.1, .int u.2.2.1])), (h_b, .inl (cI, Nb, .inl u.2.2.2.1)), (h_y, .inr (0, [.int u.2.2.2.2.1, .int u.2.2.2.2.2.1, .int u.2.2.2.2.2.2.1, .int u.2.2.2.2.2.2.2]))]) (fun r u => post r u.1 u.2.1 u.2.2.1 u.2.2.2.1 u.2.2.2.2.1 u.2.2.2.2.2.1 u.2.2.2.2.2.2.1 u.2.2.2.2.2.2.2) := by
  rw [wp_C_fails] at hw
  refine gMi.of (by decide) (Nat.le_of_ble_eq_true rfl) (fun p e s m args below meth c A Q ls hx hb hml hown hts hN hK hA hP hD hret hl => ?_)
  have fx : CallFix p m c b_C_fails 5 s args gG "TapeCounter" := ⟨hx, hb, hml, hown, hts⟩
  have hl : lv_has ls 5 [(0, .ref h_c), (1, .int x1), (2, .int x2), (3, .int x3), (4, .int x4)] := hl
  have hS : va_S A s.heap s.heap [] := va_S.rf
  refine lv_aload_n hx hb d_C_fails_0 rfl (lv_at hl 0 rfl) ?_
  refine lv_iload_n hx hb d_C_fails_1 rfl (lv_at hl 1 rfl) ?_
  refine lv_iload_n hx hb d_C_fails_2 rfl (lv_at hl 2 rfl) ?_
  refine lv_iload_n hx hb d_C_fails_3 rfl (lv_at hl 3 rfl) ?_
  refine lv_iload hx hb d_C_fails_4 (lv_at hl 4 rfl) ?_
  refine g_cVi (wr := [(h_r, .inl (cI, 4, .inl vr)), (h_t, .inr (1, [.ref h_b, .int t_size, .int t_at])), (h_b, .inl (cI, Nb, .inl vb)), (h_y, .inr (0, [.int y_hits, .int y_runOuts, .int y_bitsRead, .int y_fewestBits]))]) fx (c_C_isCountable l D cI h_c h_w h_r c_tape h_t h_y c_latestSpent vw x1 x2 x3 x4 _ hw) mf_C_isCountable w_183 ⟨rfl, rfl⟩ ⟨Nat.le_of_ble_eq_true rfl, Nat.le_of_ble_eq_true rfl⟩ hN hK hA hP hD hS [0, 1] [2, 3, 4, 5] rfl rfl rfl rfl (by decide) 0 rfl rfl rfl rfl hl.1 (Nat.le_of_ble_eq_true rfl) d_C_fails_6 ⟨Nat.zero_le _, Nat.zero_le _⟩ (fun r_1 u H locs hw hP hD hS => ?_)
  try dsimp only at hw
  have hP : va_P D gCl [(h_r, .inl (cI, 4, .inl vr)), (h_t, .inr (1, [.ref h_b, .int t_size, .int t_at])), (h_b, .inl (cI, Nb, .inl vb)), (h_y, .inr (0, [.int y_hits, .int y_runOuts, .int y_bitsRead, .int y_fewestBits])), (h_c, .inr (2, [.ref h_w, .ref h_r, .ref c_tape, .ref h_t, .ref h_y, .int c_latestSpent])), (h_w, .inl (cI, 8, .inl vw))] H := hP
  have hD : va_D A [(h_r, .inl (cI, 4, .inl vr)), (h_t, .inr (1, [.ref h_b, .int t_size, .int t_at])), (h_b, .inl (cI, Nb, .inl vb)), (h_y, .inr (0, [.int y_hits, .int y_runOuts, .int y_bitsRead, .int y_fewestBits])), (h_c, .inr (2, [.ref h_w, .ref h_r, .ref c_tape, .ref h_t, .ref h_y, .int c_latestSpent])), (h_w, .inl (cI, 8, .inl vw))] := hD
  refine lv_if_ne (tgt := 14) hx hb d_C_fails_9 (by decide) (fun c9 => ?_) (fun c9 => ?_)
  · have hw := hw.1 c9
    refine lv_aload_n hx hb d_C_fails_14 rfl (lv_at hl 0 rfl) ?_
    refine lv_iload_n hx hb d_C_fails_15 rfl (lv_at hl 1 rfl) ?_
    refine lv_iload_n hx hb d_C_fails_16 rfl (lv_at hl 2 rfl) ?_
    refine lv_iload_n hx hb d_C_fails_17 rfl (lv_at hl 3 rfl) ?_
    refine lv_iload hx hb d_C_fails_18 (lv_at hl 4 rfl) ?_
    refine lv_iconst (v := (-1)) hx hb d_C_fails_20 (by decide) ?_
    refine g_cVv (wr := []) fx (c_C_tryAllTapes l D cI h_c h_w h_r h_t h_b h_y c_tape Nb c_latestSpent vw vr t_size t_at vb y_hits y_runOuts y_bitsRead y_fewestBits x1 x2 x3 x4 (-1) _ hw) mf_C_tryAllTapes w_187 ⟨rfl, rfl⟩ ⟨Nat.le_of_ble_eq_true rfl, Nat.le_of_ble_eq_true rfl⟩ hN hK hA hP hD hS [4, 5, 0, 1, 2, 3] [] rfl rfl rfl rfl (by decide) 0 rfl rfl rfl rfl hl.1 (Nat.le_of_ble_eq_true rfl) d_C_fails_21 ⟨Nat.zero_le _, Nat.zero_le _⟩ (fun u H locs hw hP hD hS => ?_)
    obtain ⟨vr_2, tsize_3, tat_4, vb_5, yhits_6, yrunOuts_7, ybitsRead_8, yfewestBits_9⟩ := u
    try dsimp only at hw
    have hP : va_P D gCl [(h_c, .inr (2, [.ref h_w, .ref h_r, .ref c_tape, .ref h_t, .ref h_y, .int c_latestSpent])), (h_w, .inl (cI, 8, .inl vw)), (h_r, .inl (cI, 4, .inl vr_2)), (h_t, .inr (1, [.ref h_b, .int tsize_3, .int tat_4])), (h_b, .inl (cI, Nb, .inl vb_5)), (h_y, .inr (0, [.int yhits_6, .int yrunOuts_7, .int ybitsRead_8, .int yfewestBits_9]))] H := hP
    have hD : va_D A [(h_c, .inr (2, [.ref h_w, .ref h_r, .ref c_tape, .ref h_t, .ref h_y, .int c_latestSpent])), (h_w, .inl (cI, 8, .inl vw)), (h_r, .inl (cI, 4, .inl vr_2)), (h_t, .inr (1, [.ref h_b, .int tsize_3, .int tat_4])), (h_b, .inl (cI, Nb, .inl vb_5)), (h_y, .inr (0, [.int yhits_6, .int yrunOuts_7, .int ybitsRead_8, .int yfewestBits_9]))] := hD
    refine lv_aload_n hx hb d_C_fails_24 rfl (lv_at hl 0 rfl) ?_
    refine gGet fx hK hP 0 rfl inC rfl (k := 4) (by decide) w_59 rfl d_C_fails_25 ?_
    refine gGetN fx hN hK hP 5 rfl inY rfl (k := 1) (by decide) gN_2 rfl d_C_fails_28 ?_
    exact hret _ _ _ (vr_2, tsize_3, tat_4, vb_5, yhits_6, yrunOuts_7, ybitsRead_8, yfewestBits_9) _ _ hw rfl hP hD hS d_C_fails_31
  · have hw := hw.2 c9
    refine lv_iconst (v := (-1)) hx hb d_C_fails_12 (by decide) ?_
    exact hret _ _ _ (vr, t_size, t_at, vb, y_hits, y_runOuts, y_bitsRead, y_fewestBits) _ _ hw rfl (gSubP hP [4, 5, 0, 1, 2, 3] rfl) (hD.sub [4, 5, 0, 1, 2, 3] rfl rfl) hS d_C_fails_13
def wp_C_work (post : Int32 → (Nat → Int32) → Int32 → Int32 → (Nat → Int32) → Int32 → Int32 → Int32 → Int32 → Prop) (Nb : Nat) (c_latestSpent : Int32) (vw : Nat → Int32) (vr : Nat → Int32) (t_size : Int32) (t_at : Int32) (vb : Nat → Int32) (y_hits : Int32) (y_runOuts : Int32) (y_bitsRead : Int32) (y_fewestBits : Int32) (x1 : Int32) (x2 : Int32) (x3 : Int32) (x4 : Int32) : Prop :=
  wp_C_isCountable (fun r_1 => ((¬ r_1 = 0 → wp_C_tryAllTapes (fun vr_2 tsize_3 tat_4 vb_5 yhits_6 yrunOuts_7 ybitsRead_8 yfewestBits_9 => post ybitsRead_8 vr_2 tsize_3 tat_4 vb_5 yhits_6 yrunOuts_7 ybitsRead_8 yfewestBits_9) Nb c_latestSpent vw vr t_size t_at vb y_hits y_runOuts y_bitsRead y_fewestBits x1 x2 x3 x4 (-1)) ∧ (r_1 = 0 → post (-1) vr t_size t_at vb y_hits y_runOuts y_bitsRead y_fewestBits))) c_latestSpent vw x1 x2 x3 x4
abbrev rm_C_work : Room := { frames := 6, cells := 0, slots := 0, locals := 147 }
theorem mf_C_work : gFV y_C_work b_C_work 5 (some .int) 4 := ⟨w_213, w_1, ⟨by decide, by decide, by decide +kernel⟩, w_211, w_212⟩
set_option maxHeartbeats 4000000 in
set_option maxRecDepth 100000 in
theorem c_C_work (l : Launch) (D : va_G) (cI : ClassId) (h_c : Nat) (h_w : Nat) (h_r : Nat) (h_t : Nat) (h_b : Nat) (h_y : Nat) (c_tape : Nat) (Nb : Nat) (c_latestSpent : Int32) (vw : Nat → Int32) (vr : Nat → Int32) (t_size : Int32) (t_at : Int32) (vb : Nat → Int32) (y_hits : Int32) (y_runOuts : Int32) (y_bitsRead : Int32) (y_fewestBits : Int32) (x1 : Int32) (x2 : Int32) (x3 : Int32) (x4 : Int32) (post : Int32 → (Nat → Int32) → Int32 → Int32 → (Nat → Int32) → Int32 → Int32 → Int32 → Int32 → Prop) (hw : wp_C_work post Nb c_latestSpent vw vr t_size t_at vb y_hits y_runOuts y_bitsRead y_fewestBits x1 x2 x3 x4) :
    gMi l D [(cI, .int)] y_C_work b_C_work 5 .int rm_C_work [.ref h_c, .int x1, .int x2, .int x3, .int x4] [(h_c, .inr (2, [.ref h_w, .ref h_r, .ref c_tape, .ref h_t, .ref h_y, .int c_latestSpent])), (h_w, .inl (cI, 8, .inl vw)), (h_r, .inl (cI, 4, .inl vr)), (h_t, .inr (1, [.ref h_b, .int t_size, .int t_at])), (h_b, .inl (cI, Nb, .inl vb)), (h_y, .inr (0, [.int y_hits, .int y_runOuts, .int y_bitsRead, .int y_fewestBits]))] (S := (Nat → Int32) × Int32 × Int32 × (Nat → Int32) × Int32 × Int32 × Int32 × Int32) (fun u => [(h_c, .inr (2, [.ref h_w, .ref h_r, .ref c_tape, .ref h_t, .ref h_y, .int c_latestSpent])), (h_w, .inl (cI, 8, .inl vw)), (h_r, .inl (cI, 4, .inl u.1)), (h_t, .inr (1, [.ref h_b, .int u.2.1, .int u.2.2.1])), (h_b, .inl (cI, Nb, .inl u.2.2.2.1)), (h_y, .inr (0, [.int u.2.2.2.2.1, .int u.2.2.2.2.2.1, .int u.2.2.2.2.2.2.1, .int u.2.2.2.2.2.2.2]))]) (fun r u => post r u.1 u.2.1 u.2.2.1 u.2.2.2.1 u.2.2.2.2.1 u.2.2.2.2.2.1 u.2.2.2.2.2.2.1 u.2.2.2.2.2.2.2) := by
  rw [wp_C_work] at hw
  refine gMi.of (by decide) (Nat.le_of_ble_eq_true rfl) (fun p e s m args below meth c A Q ls hx hb hml hown hts hN hK hA hP hD hret hl => ?_)
  have fx : CallFix p m c b_C_work 5 s args gG "TapeCounter" := ⟨hx, hb, hml, hown, hts⟩
  have hl : lv_has ls 5 [(0, .ref h_c), (1, .int x1), (2, .int x2), (3, .int x3), (4, .int x4)] := hl
  have hS : va_S A s.heap s.heap [] := va_S.rf
  refine lv_aload_n hx hb d_C_work_0 rfl (lv_at hl 0 rfl) ?_
  refine lv_iload_n hx hb d_C_work_1 rfl (lv_at hl 1 rfl) ?_
  refine lv_iload_n hx hb d_C_work_2 rfl (lv_at hl 2 rfl) ?_
  refine lv_iload_n hx hb d_C_work_3 rfl (lv_at hl 3 rfl) ?_
  refine lv_iload hx hb d_C_work_4 (lv_at hl 4 rfl) ?_
  refine g_cVi (wr := [(h_r, .inl (cI, 4, .inl vr)), (h_t, .inr (1, [.ref h_b, .int t_size, .int t_at])), (h_b, .inl (cI, Nb, .inl vb)), (h_y, .inr (0, [.int y_hits, .int y_runOuts, .int y_bitsRead, .int y_fewestBits]))]) fx (c_C_isCountable l D cI h_c h_w h_r c_tape h_t h_y c_latestSpent vw x1 x2 x3 x4 _ hw) mf_C_isCountable w_183 ⟨rfl, rfl⟩ ⟨Nat.le_of_ble_eq_true rfl, Nat.le_of_ble_eq_true rfl⟩ hN hK hA hP hD hS [0, 1] [2, 3, 4, 5] rfl rfl rfl rfl (by decide) 0 rfl rfl rfl rfl hl.1 (Nat.le_of_ble_eq_true rfl) d_C_work_6 ⟨Nat.zero_le _, Nat.zero_le _⟩ (fun r_1 u H locs hw hP hD hS => ?_)
  try dsimp only at hw
  have hP : va_P D gCl [(h_r, .inl (cI, 4, .inl vr)), (h_t, .inr (1, [.ref h_b, .int t_size, .int t_at])), (h_b, .inl (cI, Nb, .inl vb)), (h_y, .inr (0, [.int y_hits, .int y_runOuts, .int y_bitsRead, .int y_fewestBits])), (h_c, .inr (2, [.ref h_w, .ref h_r, .ref c_tape, .ref h_t, .ref h_y, .int c_latestSpent])), (h_w, .inl (cI, 8, .inl vw))] H := hP
  have hD : va_D A [(h_r, .inl (cI, 4, .inl vr)), (h_t, .inr (1, [.ref h_b, .int t_size, .int t_at])), (h_b, .inl (cI, Nb, .inl vb)), (h_y, .inr (0, [.int y_hits, .int y_runOuts, .int y_bitsRead, .int y_fewestBits])), (h_c, .inr (2, [.ref h_w, .ref h_r, .ref c_tape, .ref h_t, .ref h_y, .int c_latestSpent])), (h_w, .inl (cI, 8, .inl vw))] := hD
  refine lv_if_ne (tgt := 14) hx hb d_C_work_9 (by decide) (fun c9 => ?_) (fun c9 => ?_)
  · have hw := hw.1 c9
    refine lv_aload_n hx hb d_C_work_14 rfl (lv_at hl 0 rfl) ?_
    refine lv_iload_n hx hb d_C_work_15 rfl (lv_at hl 1 rfl) ?_
    refine lv_iload_n hx hb d_C_work_16 rfl (lv_at hl 2 rfl) ?_
    refine lv_iload_n hx hb d_C_work_17 rfl (lv_at hl 3 rfl) ?_
    refine lv_iload hx hb d_C_work_18 (lv_at hl 4 rfl) ?_
    refine lv_iconst (v := (-1)) hx hb d_C_work_20 (by decide) ?_
    refine g_cVv (wr := []) fx (c_C_tryAllTapes l D cI h_c h_w h_r h_t h_b h_y c_tape Nb c_latestSpent vw vr t_size t_at vb y_hits y_runOuts y_bitsRead y_fewestBits x1 x2 x3 x4 (-1) _ hw) mf_C_tryAllTapes w_187 ⟨rfl, rfl⟩ ⟨Nat.le_of_ble_eq_true rfl, Nat.le_of_ble_eq_true rfl⟩ hN hK hA hP hD hS [4, 5, 0, 1, 2, 3] [] rfl rfl rfl rfl (by decide) 0 rfl rfl rfl rfl hl.1 (Nat.le_of_ble_eq_true rfl) d_C_work_21 ⟨Nat.zero_le _, Nat.zero_le _⟩ (fun u H locs hw hP hD hS => ?_)
    obtain ⟨vr_2, tsize_3, tat_4, vb_5, yhits_6, yrunOuts_7, ybitsRead_8, yfewestBits_9⟩ := u
    try dsimp only at hw
    have hP : va_P D gCl [(h_c, .inr (2, [.ref h_w, .ref h_r, .ref c_tape, .ref h_t, .ref h_y, .int c_latestSpent])), (h_w, .inl (cI, 8, .inl vw)), (h_r, .inl (cI, 4, .inl vr_2)), (h_t, .inr (1, [.ref h_b, .int tsize_3, .int tat_4])), (h_b, .inl (cI, Nb, .inl vb_5)), (h_y, .inr (0, [.int yhits_6, .int yrunOuts_7, .int ybitsRead_8, .int yfewestBits_9]))] H := hP
    have hD : va_D A [(h_c, .inr (2, [.ref h_w, .ref h_r, .ref c_tape, .ref h_t, .ref h_y, .int c_latestSpent])), (h_w, .inl (cI, 8, .inl vw)), (h_r, .inl (cI, 4, .inl vr_2)), (h_t, .inr (1, [.ref h_b, .int tsize_3, .int tat_4])), (h_b, .inl (cI, Nb, .inl vb_5)), (h_y, .inr (0, [.int yhits_6, .int yrunOuts_7, .int ybitsRead_8, .int yfewestBits_9]))] := hD
    refine lv_aload_n hx hb d_C_work_24 rfl (lv_at hl 0 rfl) ?_
    refine gGet fx hK hP 0 rfl inC rfl (k := 4) (by decide) w_59 rfl d_C_work_25 ?_
    refine gGetN fx hN hK hP 5 rfl inY rfl (k := 2) (by decide) gN_3 rfl d_C_work_28 ?_
    exact hret _ _ _ (vr_2, tsize_3, tat_4, vb_5, yhits_6, yrunOuts_7, ybitsRead_8, yfewestBits_9) _ _ hw rfl hP hD hS d_C_work_31
  · have hw := hw.2 c9
    refine lv_iconst (v := (-1)) hx hb d_C_work_12 (by decide) ?_
    exact hret _ _ _ (vr, t_size, t_at, vb, y_hits, y_runOuts, y_bitsRead, y_fewestBits) _ _ hw rfl (gSubP hP [4, 5, 0, 1, 2, 3] rfl) (hD.sub [4, 5, 0, 1, 2, 3] rfl rfl) hS d_C_work_13
def wp_C_first (post : Int32 → (Nat → Int32) → Int32 → Int32 → (Nat → Int32) → Int32 → Int32 → Int32 → Int32 → Prop) (Nb : Nat) (c_latestSpent : Int32) (vw : Nat → Int32) (vr : Nat → Int32) (t_size : Int32) (t_at : Int32) (vb : Nat → Int32) (y_hits : Int32) (y_runOuts : Int32) (y_bitsRead : Int32) (y_fewestBits : Int32) (x1 : Int32) (x2 : Int32) (x3 : Int32) (x4 : Int32) : Prop :=
  wp_C_isOne (fun r_1 => ((¬ r_1 = 0 → wp_C_tryAllTapes (fun vr_2 tsize_3 tat_4 vb_5 yhits_6 yrunOuts_7 ybitsRead_8 yfewestBits_9 => post yfewestBits_9 vr_2 tsize_3 tat_4 vb_5 yhits_6 yrunOuts_7 ybitsRead_8 yfewestBits_9) Nb c_latestSpent vw vr t_size t_at vb y_hits y_runOuts y_bitsRead y_fewestBits x1 x2 x3 (nI 12) x4) ∧ (r_1 = 0 → post (-1) vr t_size t_at vb y_hits y_runOuts y_bitsRead y_fewestBits))) c_latestSpent vw x1 x2 x3
abbrev rm_C_first : Room := { frames := 6, cells := 0, slots := 0, locals := 147 }
theorem mf_C_first : gFV y_C_first b_C_first 5 (some .int) 4 := ⟨w_217, w_1, ⟨by decide, by decide, by decide +kernel⟩, w_215, w_216⟩
set_option maxHeartbeats 4000000 in
set_option maxRecDepth 100000 in
theorem c_C_first (l : Launch) (D : va_G) (cI : ClassId) (h_c : Nat) (h_w : Nat) (h_r : Nat) (h_t : Nat) (h_b : Nat) (h_y : Nat) (c_tape : Nat) (Nb : Nat) (c_latestSpent : Int32) (vw : Nat → Int32) (vr : Nat → Int32) (t_size : Int32) (t_at : Int32) (vb : Nat → Int32) (y_hits : Int32) (y_runOuts : Int32) (y_bitsRead : Int32) (y_fewestBits : Int32) (x1 : Int32) (x2 : Int32) (x3 : Int32) (x4 : Int32) (post : Int32 → (Nat → Int32) → Int32 → Int32 → (Nat → Int32) → Int32 → Int32 → Int32 → Int32 → Prop) (hw : wp_C_first post Nb c_latestSpent vw vr t_size t_at vb y_hits y_runOuts y_bitsRead y_fewestBits x1 x2 x3 x4) :
    gMi l D [(cI, .int)] y_C_first b_C_first 5 .int rm_C_first [.ref h_c, .int x1, .int x2, .int x3, .int x4] [(h_c, .inr (2, [.ref h_w, .ref h_r, .ref c_tape, .ref h_t, .ref h_y, .int c_latestSpent])), (h_w, .inl (cI, 8, .inl vw)), (h_r, .inl (cI, 4, .inl vr)), (h_t, .inr (1, [.ref h_b, .int t_size, .int t_at])), (h_b, .inl (cI, Nb, .inl vb)), (h_y, .inr (0, [.int y_hits, .int y_runOuts, .int y_bitsRead, .int y_fewestBits]))] (S := (Nat → Int32) × Int32 × Int32 × (Nat → Int32) × Int32 × Int32 × Int32 × Int32) (fun u => [(h_c, .inr (2, [.ref h_w, .ref h_r, .ref c_tape, .ref h_t, .ref h_y, .int c_latestSpent])), (h_w, .inl (cI, 8, .inl vw)), (h_r, .inl (cI, 4, .inl u.1)), (h_t, .inr (1, [.ref h_b, .int u.2.1, .int u.2.2.1])), (h_b, .inl (cI, Nb, .inl u.2.2.2.1)), (h_y, .inr (0, [.int u.2.2.2.2.1, .int u.2.2.2.2.2.1, .int u.2.2.2.2.2.2.1, .int u.2.2.2.2.2.2.2]))]) (fun r u => post r u.1 u.2.1 u.2.2.1 u.2.2.2.1 u.2.2.2.2.1 u.2.2.2.2.2.1 u.2.2.2.2.2.2.1 u.2.2.2.2.2.2.2) := by
  rw [wp_C_first] at hw
  refine gMi.of (by decide) (Nat.le_of_ble_eq_true rfl) (fun p e s m args below meth c A Q ls hx hb hml hown hts hN hK hA hP hD hret hl => ?_)
  have fx : CallFix p m c b_C_first 5 s args gG "TapeCounter" := ⟨hx, hb, hml, hown, hts⟩
  have hl : lv_has ls 5 [(0, .ref h_c), (1, .int x1), (2, .int x2), (3, .int x3), (4, .int x4)] := hl
  have hS : va_S A s.heap s.heap [] := va_S.rf
  refine lv_aload_n hx hb d_C_first_0 rfl (lv_at hl 0 rfl) ?_
  refine lv_iload_n hx hb d_C_first_1 rfl (lv_at hl 1 rfl) ?_
  refine lv_iload_n hx hb d_C_first_2 rfl (lv_at hl 2 rfl) ?_
  refine lv_iload_n hx hb d_C_first_3 rfl (lv_at hl 3 rfl) ?_
  refine g_cVi (wr := [(h_r, .inl (cI, 4, .inl vr)), (h_t, .inr (1, [.ref h_b, .int t_size, .int t_at])), (h_b, .inl (cI, Nb, .inl vb)), (h_y, .inr (0, [.int y_hits, .int y_runOuts, .int y_bitsRead, .int y_fewestBits]))]) fx (c_C_isOne l D cI h_c h_w h_r c_tape h_t h_y c_latestSpent vw x1 x2 x3 _ hw) mf_C_isOne w_113 ⟨rfl, rfl⟩ ⟨Nat.le_of_ble_eq_true rfl, Nat.le_of_ble_eq_true rfl⟩ hN hK hA hP hD hS [0, 1] [2, 3, 4, 5] rfl rfl rfl rfl (by decide) 0 rfl rfl rfl rfl hl.1 (Nat.le_of_ble_eq_true rfl) d_C_first_4 ⟨Nat.zero_le _, Nat.zero_le _⟩ (fun r_1 u H locs hw hP hD hS => ?_)
  try dsimp only at hw
  have hP : va_P D gCl [(h_r, .inl (cI, 4, .inl vr)), (h_t, .inr (1, [.ref h_b, .int t_size, .int t_at])), (h_b, .inl (cI, Nb, .inl vb)), (h_y, .inr (0, [.int y_hits, .int y_runOuts, .int y_bitsRead, .int y_fewestBits])), (h_c, .inr (2, [.ref h_w, .ref h_r, .ref c_tape, .ref h_t, .ref h_y, .int c_latestSpent])), (h_w, .inl (cI, 8, .inl vw))] H := hP
  have hD : va_D A [(h_r, .inl (cI, 4, .inl vr)), (h_t, .inr (1, [.ref h_b, .int t_size, .int t_at])), (h_b, .inl (cI, Nb, .inl vb)), (h_y, .inr (0, [.int y_hits, .int y_runOuts, .int y_bitsRead, .int y_fewestBits])), (h_c, .inr (2, [.ref h_w, .ref h_r, .ref c_tape, .ref h_t, .ref h_y, .int c_latestSpent])), (h_w, .inl (cI, 8, .inl vw))] := hD
  refine lv_if_ne (tgt := 12) hx hb d_C_first_7 (by decide) (fun c7 => ?_) (fun c7 => ?_)
  · have hw := hw.1 c7
    refine lv_aload_n hx hb d_C_first_12 rfl (lv_at hl 0 rfl) ?_
    refine lv_iload_n hx hb d_C_first_13 rfl (lv_at hl 1 rfl) ?_
    refine lv_iload_n hx hb d_C_first_14 rfl (lv_at hl 2 rfl) ?_
    refine lv_iload_n hx hb d_C_first_15 rfl (lv_at hl 3 rfl) ?_
    refine lv_bipush (v := (nI 12)) hx hb d_C_first_16 (by decide) ?_
    refine lv_iload hx hb d_C_first_18 (lv_at hl 4 rfl) ?_
    refine g_cVv (wr := []) fx (c_C_tryAllTapes l D cI h_c h_w h_r h_t h_b h_y c_tape Nb c_latestSpent vw vr t_size t_at vb y_hits y_runOuts y_bitsRead y_fewestBits x1 x2 x3 (nI 12) x4 _ hw) mf_C_tryAllTapes w_187 ⟨rfl, rfl⟩ ⟨Nat.le_of_ble_eq_true rfl, Nat.le_of_ble_eq_true rfl⟩ hN hK hA hP hD hS [4, 5, 0, 1, 2, 3] [] rfl rfl rfl rfl (by decide) 0 rfl rfl rfl rfl hl.1 (Nat.le_of_ble_eq_true rfl) d_C_first_20 ⟨Nat.zero_le _, Nat.zero_le _⟩ (fun u H locs hw hP hD hS => ?_)
    obtain ⟨vr_2, tsize_3, tat_4, vb_5, yhits_6, yrunOuts_7, ybitsRead_8, yfewestBits_9⟩ := u
    try dsimp only at hw
    have hP : va_P D gCl [(h_c, .inr (2, [.ref h_w, .ref h_r, .ref c_tape, .ref h_t, .ref h_y, .int c_latestSpent])), (h_w, .inl (cI, 8, .inl vw)), (h_r, .inl (cI, 4, .inl vr_2)), (h_t, .inr (1, [.ref h_b, .int tsize_3, .int tat_4])), (h_b, .inl (cI, Nb, .inl vb_5)), (h_y, .inr (0, [.int yhits_6, .int yrunOuts_7, .int ybitsRead_8, .int yfewestBits_9]))] H := hP
    have hD : va_D A [(h_c, .inr (2, [.ref h_w, .ref h_r, .ref c_tape, .ref h_t, .ref h_y, .int c_latestSpent])), (h_w, .inl (cI, 8, .inl vw)), (h_r, .inl (cI, 4, .inl vr_2)), (h_t, .inr (1, [.ref h_b, .int tsize_3, .int tat_4])), (h_b, .inl (cI, Nb, .inl vb_5)), (h_y, .inr (0, [.int yhits_6, .int yrunOuts_7, .int ybitsRead_8, .int yfewestBits_9]))] := hD
    refine lv_aload_n hx hb d_C_first_23 rfl (lv_at hl 0 rfl) ?_
    refine gGet fx hK hP 0 rfl inC rfl (k := 4) (by decide) w_59 rfl d_C_first_24 ?_
    refine gGetN fx hN hK hP 5 rfl inY rfl (k := 3) (by decide) gN_4 rfl d_C_first_27 ?_
    exact hret _ _ _ (vr_2, tsize_3, tat_4, vb_5, yhits_6, yrunOuts_7, ybitsRead_8, yfewestBits_9) _ _ hw rfl hP hD hS d_C_first_30
  · have hw := hw.2 c7
    refine lv_iconst (v := (-1)) hx hb d_C_first_10 (by decide) ?_
    exact hret _ _ _ (vr, t_size, t_at, vb, y_hits, y_runOuts, y_bitsRead, y_fewestBits) _ _ hw rfl (gSubP hP [4, 5, 0, 1, 2, 3] rfl) (hD.sub [4, 5, 0, 1, 2, 3] rfl rfl) hS d_C_first_11
end
section
def wp_M_weigh (post : Int32 → (Nat → Int32) → Prop) (o_length : Int32) (o_spent : Int32) (o_many : Int32) (o_at : Int32) (o_isOut : Int32) (o_values : Int32) (o_failures : Int32) (o_works : Int32) (vw : Nat → Int32) (x1 : Int32) (x2 : Int32) : Prop :=
  ((x1 < 0 → post (nI 0) vw) ∧ (¬ x1 < 0 → (((nI 7) < x1 → post (nI 0) vw) ∧ (¬ (nI 7) < x1 → ((x2 < 0 → post (nI 0) vw) ∧ (¬ x2 < 0 → ((x2 ≤ (nI 15) → (vp_in x1 8 ∧ post (nI 1) (upd vw (x1).toNatClampNeg x2))) ∧ (¬ x2 ≤ (nI 15) → post (nI 0) vw))))))))
abbrev rm_M_weigh : Room := { frames := 0, cells := 0, slots := 0, locals := 0 }
theorem mf_M_weigh : gFV y_M_weigh b_M_weigh 3 (some .boolean) 2 := ⟨w_264, w_4, ⟨by decide, by decide, by decide +kernel⟩, w_262, w_263⟩
set_option maxHeartbeats 4000000 in
set_option maxRecDepth 100000 in
theorem c_M_weigh (l : Launch) (D : va_G) (cI : ClassId) (h_o : Nat) (h_w : Nat) (o_tape : Nat) (o_bits : Nat) (o_row : Nat) (o_length : Int32) (o_spent : Int32) (o_many : Int32) (o_at : Int32) (o_isOut : Int32) (o_values : Int32) (o_failures : Int32) (o_works : Int32) (vw : Nat → Int32) (x1 : Int32) (x2 : Int32) (post : Int32 → (Nat → Int32) → Prop) (hw : wp_M_weigh post o_length o_spent o_many o_at o_isOut o_values o_failures o_works vw x1 x2) :
    gMi l D [(cI, .int)] y_M_weigh b_M_weigh 3 .boolean rm_M_weigh [.ref h_o, .int x1, .int x2] [(h_o, .inr (3, [.ref h_w, .ref o_tape, .int o_length, .int o_spent, .ref o_bits, .int o_many, .int o_at, .int o_isOut, .ref o_row, .int o_values, .int o_failures, .int o_works])), (h_w, .inl (cI, 8, .inl vw))] (S := (Nat → Int32)) (fun u => [(h_o, .inr (3, [.ref h_w, .ref o_tape, .int o_length, .int o_spent, .ref o_bits, .int o_many, .int o_at, .int o_isOut, .ref o_row, .int o_values, .int o_failures, .int o_works])), (h_w, .inl (cI, 8, .inl u))]) (fun r u => post r u) := by
  rw [wp_M_weigh] at hw
  refine gMi.of (by decide) (Nat.le_of_ble_eq_true rfl) (fun p e s m args below meth c A Q ls hx hb hml hown hts hN hK hA hP hD hret hl => ?_)
  have fx : CallFix p m c b_M_weigh 3 s args gG "TapeCounterModel" := ⟨hx, hb, hml, hown, hts⟩
  have hl : lv_has ls 3 [(0, .ref h_o), (1, .int x1), (2, .int x2)] := hl
  have hS : va_S A s.heap s.heap [] := va_S.rf
  refine lv_iload_n hx hb d_M_weigh_0 rfl (lv_at hl 1 rfl) ?_
  refine lv_if_lt (tgt := 20) hx hb d_M_weigh_1 (by decide) (fun c1 => ?_) (fun c1 => ?_)
  · have hw := hw.1 c1
    refine lv_iconst (v := (nI 0)) hx hb d_M_weigh_20 (by decide) ?_
    exact hret _ _ _ vw _ _ hw rfl hP hD hS d_M_weigh_21
  · have hw := hw.2 c1
    refine lv_iload_n hx hb d_M_weigh_4 rfl (lv_at hl 1 rfl) ?_
    refine lv_bipush (v := (nI 7)) hx hb d_M_weigh_5 (by decide) ?_
    refine lv_icmp_gt (tgt := 20) hx hb d_M_weigh_7 (by decide) (fun c7 => ?_) (fun c7 => ?_)
    · have hw := hw.1 c7
      refine lv_iconst (v := (nI 0)) hx hb d_M_weigh_20 (by decide) ?_
      exact hret _ _ _ vw _ _ hw rfl hP hD hS d_M_weigh_21
    · have hw := hw.2 c7
      refine lv_iload_n hx hb d_M_weigh_10 rfl (lv_at hl 2 rfl) ?_
      refine lv_if_lt (tgt := 20) hx hb d_M_weigh_11 (by decide) (fun c11 => ?_) (fun c11 => ?_)
      · have hw := hw.1 c11
        refine lv_iconst (v := (nI 0)) hx hb d_M_weigh_20 (by decide) ?_
        exact hret _ _ _ vw _ _ hw rfl hP hD hS d_M_weigh_21
      · have hw := hw.2 c11
        refine lv_iload_n hx hb d_M_weigh_14 rfl (lv_at hl 2 rfl) ?_
        refine lv_bipush (v := (nI 15)) hx hb d_M_weigh_15 (by decide) ?_
        refine lv_icmp_le (tgt := 22) hx hb d_M_weigh_17 (by decide) (fun c17 => ?_) (fun c17 => ?_)
        · have hw := hw.1 c17
          refine lv_aload_n hx hb d_M_weigh_22 rfl (lv_at hl 0 rfl) ?_
          refine gGet fx hK hP 0 rfl inM rfl (k := 0) (by decide) w_224 rfl d_M_weigh_23 ?_
          refine lv_iload_n hx hb d_M_weigh_26 rfl (lv_at hl 1 rfl) ?_
          refine lv_iload_n hx hb d_M_weigh_27 rfl (lv_at hl 2 rfl) ?_
          refine va_iast hx hb hK hP hD hS 1 0 rfl rfl hw.1 d_M_weigh_28 (fun H locs hP hD hS => ?_)
          have hw := hw.2
          have hP : va_P D gCl [(h_o, .inr (3, [.ref h_w, .ref o_tape, .int o_length, .int o_spent, .ref o_bits, .int o_many, .int o_at, .int o_isOut, .ref o_row, .int o_values, .int o_failures, .int o_works])), (h_w, .inl (cI, 8, .inl (upd vw (x1).toNatClampNeg x2)))] H := hP
          have hD : va_D A [(h_o, .inr (3, [.ref h_w, .ref o_tape, .int o_length, .int o_spent, .ref o_bits, .int o_many, .int o_at, .int o_isOut, .ref o_row, .int o_values, .int o_failures, .int o_works])), (h_w, .inl (cI, 8, .inl (upd vw (x1).toNatClampNeg x2)))] := hD
          refine lv_iconst (v := (nI 1)) hx hb d_M_weigh_29 (by decide) ?_
          exact hret _ _ _ (upd vw (x1).toNatClampNeg x2) _ _ hw rfl hP hD hS d_M_weigh_30
        · have hw := hw.2 c17
          refine lv_iconst (v := (nI 0)) hx hb d_M_weigh_20 (by decide) ?_
          exact hret _ _ _ vw _ _ hw rfl hP hD hS d_M_weigh_21
def wp_M_weight (post : Int32 → Prop) (o_length : Int32) (o_spent : Int32) (o_many : Int32) (o_at : Int32) (o_isOut : Int32) (o_values : Int32) (o_failures : Int32) (o_works : Int32) (vw : Nat → Int32) (x1 : Int32) : Prop :=
  ((x1 < 0 → post (-1)) ∧ (¬ x1 < 0 → ((x1 ≤ (nI 7) → (vp_in x1 8 ∧ post (vw (x1).toNatClampNeg))) ∧ (¬ x1 ≤ (nI 7) → post (-1)))))
abbrev rm_M_weight : Room := { frames := 0, cells := 0, slots := 0, locals := 0 }
theorem mf_M_weight : gFV y_M_weight b_M_weight 2 (some .int) 1 := ⟨w_268, w_4, ⟨by decide, by decide, by decide +kernel⟩, w_266, w_267⟩
set_option maxHeartbeats 4000000 in
set_option maxRecDepth 100000 in
theorem c_M_weight (l : Launch) (D : va_G) (cI : ClassId) (h_o : Nat) (h_w : Nat) (o_tape : Nat) (o_bits : Nat) (o_row : Nat) (o_length : Int32) (o_spent : Int32) (o_many : Int32) (o_at : Int32) (o_isOut : Int32) (o_values : Int32) (o_failures : Int32) (o_works : Int32) (vw : Nat → Int32) (x1 : Int32) (post : Int32 → Prop) (hw : wp_M_weight post o_length o_spent o_many o_at o_isOut o_values o_failures o_works vw x1) :
    gMi l D [(cI, .int)] y_M_weight b_M_weight 2 .int rm_M_weight [.ref h_o, .int x1] [(h_o, .inr (3, [.ref h_w, .ref o_tape, .int o_length, .int o_spent, .ref o_bits, .int o_many, .int o_at, .int o_isOut, .ref o_row, .int o_values, .int o_failures, .int o_works])), (h_w, .inl (cI, 8, .inl vw))] (S := Unit) (fun u => [(h_o, .inr (3, [.ref h_w, .ref o_tape, .int o_length, .int o_spent, .ref o_bits, .int o_many, .int o_at, .int o_isOut, .ref o_row, .int o_values, .int o_failures, .int o_works])), (h_w, .inl (cI, 8, .inl vw))]) (fun r u => post r) := by
  rw [wp_M_weight] at hw
  refine gMi.of (by decide) (Nat.le_of_ble_eq_true rfl) (fun p e s m args below meth c A Q ls hx hb hml hown hts hN hK hA hP hD hret hl => ?_)
  have fx : CallFix p m c b_M_weight 2 s args gG "TapeCounterModel" := ⟨hx, hb, hml, hown, hts⟩
  have hl : lv_has ls 2 [(0, .ref h_o), (1, .int x1)] := hl
  have hS : va_S A s.heap s.heap [] := va_S.rf
  refine lv_iload_n hx hb d_M_weight_0 rfl (lv_at hl 1 rfl) ?_
  refine lv_if_lt (tgt := 10) hx hb d_M_weight_1 (by decide) (fun c1 => ?_) (fun c1 => ?_)
  · have hw := hw.1 c1
    refine lv_iconst (v := (-1)) hx hb d_M_weight_10 (by decide) ?_
    refine lv_goto (tgt := 20) hx hb d_M_weight_11 (by decide) ?_
    exact hret _ _ _ () _ _ hw rfl hP hD hS d_M_weight_20
  · have hw := hw.2 c1
    refine lv_iload_n hx hb d_M_weight_4 rfl (lv_at hl 1 rfl) ?_
    refine lv_bipush (v := (nI 7)) hx hb d_M_weight_5 (by decide) ?_
    refine lv_icmp_le (tgt := 14) hx hb d_M_weight_7 (by decide) (fun c7 => ?_) (fun c7 => ?_)
    · have hw := hw.1 c7
      refine lv_aload_n hx hb d_M_weight_14 rfl (lv_at hl 0 rfl) ?_
      refine gGet fx hK hP 0 rfl inM rfl (k := 0) (by decide) w_224 rfl d_M_weight_15 ?_
      refine lv_iload_n hx hb d_M_weight_18 rfl (lv_at hl 1 rfl) ?_
      refine va_iald hx hb hK hP 1 0 rfl rfl hw.1 d_M_weight_19 ?_
      have hw := hw.2
      exact hret _ _ _ () _ _ hw rfl hP hD hS d_M_weight_20
    · have hw := hw.2 c7
      refine lv_iconst (v := (-1)) hx hb d_M_weight_10 (by decide) ?_
      refine lv_goto (tgt := 20) hx hb d_M_weight_11 (by decide) ?_
      exact hret _ _ _ () _ _ hw rfl hP hD hS d_M_weight_20
def wpF_M_feed_28 (post : Int32 → Int32 → (Nat → Int32) → Prop) (x1 : Int32) (K_28 : Int32 → (Nat → Int32) → Int32 → Prop) (o_length : Int32) (vq : Nat → Int32) (x3 : Int32) : Prop :=
  ((x3 < 0 → post o_length o_length vq) ∧ (¬ x3 < 0 → (vp_in o_length 256 ∧ K_28 (o_length + (nI 1)) (upd vq (o_length).toNatClampNeg ((x1 >>> (x3 &&& 31)) &&& (nI 1))) (x3 + (-1)))))
def wp_M_feed (post : Int32 → Int32 → (Nat → Int32) → Prop) (o_length : Int32) (o_spent : Int32) (o_many : Int32) (o_at : Int32) (o_isOut : Int32) (o_values : Int32) (o_failures : Int32) (o_works : Int32) (vq : Nat → Int32) (x1 : Int32) (x2 : Int32) : Prop :=
  ((x2 < 0 → post (-1) o_length vq) ∧ (¬ x2 < 0 → (((nI 32) < x2 → post (-1) o_length vq) ∧ (¬ (nI 32) < x2 → (((o_length + x2) ≤ (nI 256) → (∃ n, gL3 (wpF_M_feed_28 post x1) n o_length vq (x2 - (nI 1)))) ∧ (¬ (o_length + x2) ≤ (nI 256) → post (-1) o_length vq))))))
abbrev rm_M_feed : Room := { frames := 0, cells := 0, slots := 0, locals := 0 }
theorem mf_M_feed : gFV y_M_feed b_M_feed 4 (some .int) 2 := ⟨w_272, w_4, ⟨by decide, by decide, by decide +kernel⟩, w_270, w_271⟩
set_option maxHeartbeats 4000000 in
set_option maxRecDepth 100000 in
theorem c_M_feed (l : Launch) (D : va_G) (cI : ClassId) (h_o : Nat) (h_q : Nat) (o_weights : Nat) (o_bits : Nat) (o_row : Nat) (o_length : Int32) (o_spent : Int32) (o_many : Int32) (o_at : Int32) (o_isOut : Int32) (o_values : Int32) (o_failures : Int32) (o_works : Int32) (vq : Nat → Int32) (x1 : Int32) (x2 : Int32) (post : Int32 → Int32 → (Nat → Int32) → Prop) (hw : wp_M_feed post o_length o_spent o_many o_at o_isOut o_values o_failures o_works vq x1 x2) :
    gMi l D [(cI, .int)] y_M_feed b_M_feed 4 .int rm_M_feed [.ref h_o, .int x1, .int x2] [(h_o, .inr (3, [.ref o_weights, .ref h_q, .int o_length, .int o_spent, .ref o_bits, .int o_many, .int o_at, .int o_isOut, .ref o_row, .int o_values, .int o_failures, .int o_works])), (h_q, .inl (cI, 256, .inl vq))] (S := Int32 × (Nat → Int32)) (fun u => [(h_o, .inr (3, [.ref o_weights, .ref h_q, .int u.1, .int o_spent, .ref o_bits, .int o_many, .int o_at, .int o_isOut, .ref o_row, .int o_values, .int o_failures, .int o_works])), (h_q, .inl (cI, 256, .inl u.2))]) (fun r u => post r u.1 u.2) := by
  rw [wp_M_feed] at hw
  refine gMi.of (by decide) (Nat.le_of_ble_eq_true rfl) (fun p e s m args below meth c A Q ls hx hb hml hown hts hN hK hA hP hD hret hl => ?_)
  have fx : CallFix p m c b_M_feed 4 s args gG "TapeCounterModel" := ⟨hx, hb, hml, hown, hts⟩
  have hl : lv_has ls 4 [(0, .ref h_o), (1, .int x1), (2, .int x2)] := hl
  have hS : va_S A s.heap s.heap [] := va_S.rf
  refine lv_iload_n hx hb d_M_feed_0 rfl (lv_at hl 2 rfl) ?_
  refine lv_if_lt (tgt := 22) hx hb d_M_feed_1 (by decide) (fun c1 => ?_) (fun c1 => ?_)
  · have hw := hw.1 c1
    refine lv_iconst (v := (-1)) hx hb d_M_feed_22 (by decide) ?_
    exact hret _ _ _ (o_length, vq) _ _ hw rfl hP hD hS d_M_feed_23
  · have hw := hw.2 c1
    refine lv_iload_n hx hb d_M_feed_4 rfl (lv_at hl 2 rfl) ?_
    refine lv_bipush (v := (nI 32)) hx hb d_M_feed_5 (by decide) ?_
    refine lv_icmp_gt (tgt := 22) hx hb d_M_feed_7 (by decide) (fun c7 => ?_) (fun c7 => ?_)
    · have hw := hw.1 c7
      refine lv_iconst (v := (-1)) hx hb d_M_feed_22 (by decide) ?_
      exact hret _ _ _ (o_length, vq) _ _ hw rfl hP hD hS d_M_feed_23
    · have hw := hw.2 c7
      refine lv_aload_n hx hb d_M_feed_10 rfl (lv_at hl 0 rfl) ?_
      refine gGet fx hK hP 0 rfl inM rfl (k := 2) (by decide) w_226 rfl d_M_feed_11 ?_
      refine lv_iload_n hx hb d_M_feed_14 rfl (lv_at hl 2 rfl) ?_
      refine lv_iadd hx hb d_M_feed_15 ?_
      refine lv_sipush (v := (nI 256)) hx hb d_M_feed_16 (by decide) ?_
      refine lv_icmp_le (tgt := 24) hx hb d_M_feed_19 (by decide) (fun c19 => ?_) (fun c19 => ?_)
      · have hw := hw.1 c19
        refine lv_iload_n hx hb d_M_feed_24 rfl (lv_at hl 2 rfl) ?_
        refine lv_iconst (v := (nI 1)) hx hb d_M_feed_25 (by decide) ?_
        refine lv_isub hx hb d_M_feed_26 ?_
        refine lv_istore_n (lv' := [(3, .int (x2 - (nI 1))), (0, .ref h_o), (1, .int x1), (2, .int x2)]) hx hb d_M_feed_27 rfl hl (by decide) rfl (fun ls hl => ?_)
        obtain ⟨n_28, hw⟩ := hw
        have k_28 : ∀ (n_28 : Nat) (o_length : Int32) (vq : Nat → Int32) (x3 : Int32), gL3 (wpF_M_feed_28 post x1) n_28 o_length vq x3 → ∀ (H : Heap) (locs : List Loc) (ls : Array Slot), va_P D gCl [(h_o, .inr (3, [.ref o_weights, .ref h_q, .int o_length, .int o_spent, .ref o_bits, .int o_many, .int o_at, .int o_isOut, .ref o_row, .int o_values, .int o_failures, .int o_works])), (h_q, .inl (cI, 256, .inl vq))] H → va_D A [(h_o, .inr (3, [.ref o_weights, .ref h_q, .int o_length, .int o_spent, .ref o_bits, .int o_many, .int o_at, .int o_isOut, .ref o_row, .int o_values, .int o_failures, .int o_works])), (h_q, .inl (cI, 256, .inl vq))] → va_S A s.heap H locs → lv_has ls 4 [(3, .int x3), (0, .ref h_o), (1, .int x1)] → W p l e rm_M_feed s m args below meth c H locs 0 0 Q (F0 m 28 ls []) := by
          clear hw hP hD hS hl
          intro n_28
          induction n_28 with
          | zero => exact fun _ _ _ h => h.elim
          | succ n_28 ih_28 =>
            intro o_length vq x3 hw H locs ls hP hD hS hl
            have hw : wpF_M_feed_28 post x1 (gL3 (wpF_M_feed_28 post x1) n_28) o_length vq x3 := hw
            rw [wpF_M_feed_28] at hw
            refine lv_iload_n hx hb d_M_feed_28 rfl (lv_at hl 0 rfl) ?_
            refine lv_if_lt (tgt := 62) hx hb d_M_feed_29 (by decide) (fun c29 => ?_) (fun c29 => ?_)
            · have hw := hw.1 c29
              refine lv_aload_n hx hb d_M_feed_62 rfl (lv_at hl 1 rfl) ?_
              refine gGet fx hK hP 0 rfl inM rfl (k := 2) (by decide) w_226 rfl d_M_feed_63 ?_
              exact hret _ _ _ (o_length, vq) _ _ hw rfl hP hD hS d_M_feed_66
            · have hw := hw.2 c29
              refine lv_aload_n hx hb d_M_feed_32 rfl (lv_at hl 1 rfl) ?_
              refine gGet fx hK hP 0 rfl inM rfl (k := 1) (by decide) w_225 rfl d_M_feed_33 ?_
              refine lv_aload_n hx hb d_M_feed_36 rfl (lv_at hl 1 rfl) ?_
              refine gGet fx hK hP 0 rfl inM rfl (k := 2) (by decide) w_226 rfl d_M_feed_37 ?_
              refine lv_iload_n hx hb d_M_feed_40 rfl (lv_at hl 2 rfl) ?_
              refine lv_iload_n hx hb d_M_feed_41 rfl (lv_at hl 0 rfl) ?_
              refine lv_ishr hx hb d_M_feed_42 ?_
              refine lv_iconst (v := (nI 1)) hx hb d_M_feed_43 (by decide) ?_
              refine lv_iand hx hb d_M_feed_44 ?_
              refine va_iast hx hb hK hP hD hS 1 0 rfl rfl hw.1 d_M_feed_45 (fun H locs hP hD hS => ?_)
              have hw := hw.2
              have hP : va_P D gCl [(h_o, .inr (3, [.ref o_weights, .ref h_q, .int o_length, .int o_spent, .ref o_bits, .int o_many, .int o_at, .int o_isOut, .ref o_row, .int o_values, .int o_failures, .int o_works])), (h_q, .inl (cI, 256, .inl (upd vq (o_length).toNatClampNeg ((x1 >>> (x3 &&& 31)) &&& (nI 1)))))] H := hP
              have hD : va_D A [(h_o, .inr (3, [.ref o_weights, .ref h_q, .int o_length, .int o_spent, .ref o_bits, .int o_many, .int o_at, .int o_isOut, .ref o_row, .int o_values, .int o_failures, .int o_works])), (h_q, .inl (cI, 256, .inl (upd vq (o_length).toNatClampNeg ((x1 >>> (x3 &&& 31)) &&& (nI 1)))))] := hD
              refine lv_aload_n hx hb d_M_feed_46 rfl (lv_at hl 1 rfl) ?_
              refine lv_dup hx hb d_M_feed_47 rfl ?_
              refine gGet fx hK hP 0 rfl inM rfl (k := 2) (by decide) w_226 rfl d_M_feed_48 ?_
              refine lv_iconst (v := (nI 1)) hx hb d_M_feed_51 (by decide) ?_
              refine lv_iadd hx hb d_M_feed_52 ?_
              refine gPut fx hK hP hD hS 0 rfl inM tyM nmM rfl (k := 2) (by decide) w_226 rfl rfl rfl (Nat.le_of_ble_eq_true rfl) d_M_feed_53 (fun H locs hP hD hS => ?_)
              have hP : va_P D gCl [(h_o, .inr (3, [.ref o_weights, .ref h_q, .int (o_length + (nI 1)), .int o_spent, .ref o_bits, .int o_many, .int o_at, .int o_isOut, .ref o_row, .int o_values, .int o_failures, .int o_works])), (h_q, .inl (cI, 256, .inl (upd vq (o_length).toNatClampNeg ((x1 >>> (x3 &&& 31)) &&& (nI 1)))))] H := hP
              have hD : va_D A [(h_o, .inr (3, [.ref o_weights, .ref h_q, .int (o_length + (nI 1)), .int o_spent, .ref o_bits, .int o_many, .int o_at, .int o_isOut, .ref o_row, .int o_values, .int o_failures, .int o_works])), (h_q, .inl (cI, 256, .inl (upd vq (o_length).toNatClampNeg ((x1 >>> (x3 &&& 31)) &&& (nI 1)))))] := hD
              refine lv_iinc (v := (x3 + (-1))) (lv' := [(3, .int (x3 + (-1))), (0, .ref h_o), (1, .int x1)]) hx hb d_M_feed_56 hl (k := 0) rfl (by rw [i32_m1]) (by decide) rfl (fun ls hl => ?_)
              refine lv_goto (tgt := 28) hx hb d_M_feed_59 (by decide) ?_
              exact ih_28 _ _ _ hw _ _ _ hP hD hS (lv_sub hl [0, 1, 2] rfl)
        exact k_28 n_28 _ _ _ hw _ _ _ hP hD hS (lv_sub hl [0, 1, 2] rfl)
      · have hw := hw.2 c19
        refine lv_iconst (v := (-1)) hx hb d_M_feed_22 (by decide) ?_
        exact hret _ _ _ (o_length, vq) _ _ hw rfl hP hD hS d_M_feed_23
def wp_M_left (post : Int32 → Prop) (o_length : Int32) (o_spent : Int32) (o_many : Int32) (o_at : Int32) (o_isOut : Int32) (o_values : Int32) (o_failures : Int32) (o_works : Int32) : Prop :=
  post o_length
abbrev rm_M_left : Room := { frames := 0, cells := 0, slots := 0, locals := 0 }
theorem mf_M_left : gFV y_M_left b_M_left 1 (some .int) 0 := ⟨w_276, w_4, ⟨by decide, by decide, by decide +kernel⟩, w_274, w_275⟩
set_option maxHeartbeats 4000000 in
set_option maxRecDepth 100000 in
theorem c_M_left (l : Launch) (D : va_G) (cI : ClassId) (h_o : Nat) (o_weights : Nat) (o_tape : Nat) (o_bits : Nat) (o_row : Nat) (o_length : Int32) (o_spent : Int32) (o_many : Int32) (o_at : Int32) (o_isOut : Int32) (o_values : Int32) (o_failures : Int32) (o_works : Int32) (post : Int32 → Prop) (hw : wp_M_left post o_length o_spent o_many o_at o_isOut o_values o_failures o_works) :
    gMi l D [(cI, .int)] y_M_left b_M_left 1 .int rm_M_left [.ref h_o] [(h_o, .inr (3, [.ref o_weights, .ref o_tape, .int o_length, .int o_spent, .ref o_bits, .int o_many, .int o_at, .int o_isOut, .ref o_row, .int o_values, .int o_failures, .int o_works]))] (S := Unit) (fun u => [(h_o, .inr (3, [.ref o_weights, .ref o_tape, .int o_length, .int o_spent, .ref o_bits, .int o_many, .int o_at, .int o_isOut, .ref o_row, .int o_values, .int o_failures, .int o_works]))]) (fun r u => post r) := by
  rw [wp_M_left] at hw
  refine gMi.of (by decide) (Nat.le_of_ble_eq_true rfl) (fun p e s m args below meth c A Q ls hx hb hml hown hts hN hK hA hP hD hret hl => ?_)
  have fx : CallFix p m c b_M_left 1 s args gG "TapeCounterModel" := ⟨hx, hb, hml, hown, hts⟩
  have hl : lv_has ls 1 [(0, .ref h_o)] := hl
  have hS : va_S A s.heap s.heap [] := va_S.rf
  refine lv_aload_n hx hb d_M_left_0 rfl (lv_at hl 0 rfl) ?_
  refine gGet fx hK hP 0 rfl inM rfl (k := 2) (by decide) w_226 rfl d_M_left_1 ?_
  exact hret _ _ _ () _ _ hw rfl hP hD hS d_M_left_4
def wp_M_spent (post : Int32 → Prop) (o_length : Int32) (o_spent : Int32) (o_many : Int32) (o_at : Int32) (o_isOut : Int32) (o_values : Int32) (o_failures : Int32) (o_works : Int32) : Prop :=
  post o_spent
abbrev rm_M_spent : Room := { frames := 0, cells := 0, slots := 0, locals := 0 }
theorem mf_M_spent : gFV y_M_spent b_M_spent 1 (some .int) 0 := ⟨w_325, w_4, ⟨by decide, by decide, by decide +kernel⟩, w_323, w_324⟩
set_option maxHeartbeats 4000000 in
set_option maxRecDepth 100000 in
theorem c_M_spent (l : Launch) (D : va_G) (cI : ClassId) (h_o : Nat) (o_weights : Nat) (o_tape : Nat) (o_bits : Nat) (o_row : Nat) (o_length : Int32) (o_spent : Int32) (o_many : Int32) (o_at : Int32) (o_isOut : Int32) (o_values : Int32) (o_failures : Int32) (o_works : Int32) (post : Int32 → Prop) (hw : wp_M_spent post o_length o_spent o_many o_at o_isOut o_values o_failures o_works) :
    gMi l D [(cI, .int)] y_M_spent b_M_spent 1 .int rm_M_spent [.ref h_o] [(h_o, .inr (3, [.ref o_weights, .ref o_tape, .int o_length, .int o_spent, .ref o_bits, .int o_many, .int o_at, .int o_isOut, .ref o_row, .int o_values, .int o_failures, .int o_works]))] (S := Unit) (fun u => [(h_o, .inr (3, [.ref o_weights, .ref o_tape, .int o_length, .int o_spent, .ref o_bits, .int o_many, .int o_at, .int o_isOut, .ref o_row, .int o_values, .int o_failures, .int o_works]))]) (fun r u => post r) := by
  rw [wp_M_spent] at hw
  refine gMi.of (by decide) (Nat.le_of_ble_eq_true rfl) (fun p e s m args below meth c A Q ls hx hb hml hown hts hN hK hA hP hD hret hl => ?_)
  have fx : CallFix p m c b_M_spent 1 s args gG "TapeCounterModel" := ⟨hx, hb, hml, hown, hts⟩
  have hl : lv_has ls 1 [(0, .ref h_o)] := hl
  have hS : va_S A s.heap s.heap [] := va_S.rf
  refine lv_aload_n hx hb d_M_spent_0 rfl (lv_at hl 0 rfl) ?_
  refine gGet fx hK hP 0 rfl inM rfl (k := 3) (by decide) w_227 rfl d_M_spent_1 ?_
  exact hret _ _ _ () _ _ hw rfl hP hD hS d_M_spent_4
def wpF_M_sum_4 (post : Int32 → Prop) (vw : Nat → Int32) (K_4 : Int32 → Int32 → Prop) (x1 : Int32) (x2 : Int32) : Prop :=
  (((nI 8) ≤ x2 → post x1) ∧ (¬ (nI 8) ≤ x2 → (vp_in x2 8 ∧ K_4 (x1 + (vw (x2).toNatClampNeg)) (x2 + (nI 1)))))
def wp_M_sum (post : Int32 → Prop) (o_length : Int32) (o_spent : Int32) (o_many : Int32) (o_at : Int32) (o_isOut : Int32) (o_values : Int32) (o_failures : Int32) (o_works : Int32) (vw : Nat → Int32) : Prop :=
  (∃ n, gL2 (wpF_M_sum_4 post vw) n (nI 0) (nI 0))
abbrev rm_M_sum : Room := { frames := 0, cells := 0, slots := 0, locals := 0 }
theorem mf_M_sum : gFV y_M_sum b_M_sum 3 (some .int) 0 := ⟨w_284, w_4, ⟨by decide, by decide, by decide +kernel⟩, w_283, ws_1_7⟩
set_option maxHeartbeats 4000000 in
set_option maxRecDepth 100000 in
theorem c_M_sum (l : Launch) (D : va_G) (cI : ClassId) (h_o : Nat) (h_w : Nat) (o_tape : Nat) (o_bits : Nat) (o_row : Nat) (o_length : Int32) (o_spent : Int32) (o_many : Int32) (o_at : Int32) (o_isOut : Int32) (o_values : Int32) (o_failures : Int32) (o_works : Int32) (vw : Nat → Int32) (post : Int32 → Prop) (hw : wp_M_sum post o_length o_spent o_many o_at o_isOut o_values o_failures o_works vw) :
    gMi l D [(cI, .int)] y_M_sum b_M_sum 3 .int rm_M_sum [.ref h_o] [(h_o, .inr (3, [.ref h_w, .ref o_tape, .int o_length, .int o_spent, .ref o_bits, .int o_many, .int o_at, .int o_isOut, .ref o_row, .int o_values, .int o_failures, .int o_works])), (h_w, .inl (cI, 8, .inl vw))] (S := Unit) (fun u => [(h_o, .inr (3, [.ref h_w, .ref o_tape, .int o_length, .int o_spent, .ref o_bits, .int o_many, .int o_at, .int o_isOut, .ref o_row, .int o_values, .int o_failures, .int o_works])), (h_w, .inl (cI, 8, .inl vw))]) (fun r u => post r) := by
  rw [wp_M_sum] at hw
  refine gMi.of (by decide) (Nat.le_of_ble_eq_true rfl) (fun p e s m args below meth c A Q ls hx hb hml hown hts hN hK hA hP hD hret hl => ?_)
  have fx : CallFix p m c b_M_sum 3 s args gG "TapeCounterModel" := ⟨hx, hb, hml, hown, hts⟩
  have hl : lv_has ls 3 [(0, .ref h_o)] := hl
  have hS : va_S A s.heap s.heap [] := va_S.rf
  refine lv_iconst (v := (nI 0)) hx hb d_M_sum_0 (by decide) ?_
  refine lv_istore_n (lv' := [(1, .int (nI 0)), (0, .ref h_o)]) hx hb d_M_sum_1 rfl hl (by decide) rfl (fun ls hl => ?_)
  refine lv_iconst (v := (nI 0)) hx hb d_M_sum_2 (by decide) ?_
  refine lv_istore_n (lv' := [(2, .int (nI 0)), (1, .int (nI 0)), (0, .ref h_o)]) hx hb d_M_sum_3 rfl hl (by decide) rfl (fun ls hl => ?_)
  obtain ⟨n_4, hw⟩ := hw
  have k_4 : ∀ (n_4 : Nat) (x1 : Int32) (x2 : Int32), gL2 (wpF_M_sum_4 post vw) n_4 x1 x2 → ∀ (H : Heap) (locs : List Loc) (ls : Array Slot), va_P D gCl [(h_o, .inr (3, [.ref h_w, .ref o_tape, .int o_length, .int o_spent, .ref o_bits, .int o_many, .int o_at, .int o_isOut, .ref o_row, .int o_values, .int o_failures, .int o_works])), (h_w, .inl (cI, 8, .inl vw))] H → va_D A [(h_o, .inr (3, [.ref h_w, .ref o_tape, .int o_length, .int o_spent, .ref o_bits, .int o_many, .int o_at, .int o_isOut, .ref o_row, .int o_values, .int o_failures, .int o_works])), (h_w, .inl (cI, 8, .inl vw))] → va_S A s.heap H locs → lv_has ls 3 [(2, .int x2), (1, .int x1), (0, .ref h_o)] → W p l e rm_M_sum s m args below meth c H locs 0 0 Q (F0 m 4 ls []) := by
    clear hw hP hD hS hl
    intro n_4
    induction n_4 with
    | zero => exact fun _ _ h => h.elim
    | succ n_4 ih_4 =>
      intro x1 x2 hw H locs ls hP hD hS hl
      have hw : wpF_M_sum_4 post vw (gL2 (wpF_M_sum_4 post vw) n_4) x1 x2 := hw
      rw [wpF_M_sum_4] at hw
      refine lv_iload_n hx hb d_M_sum_4 rfl (lv_at hl 0 rfl) ?_
      refine lv_bipush (v := (nI 8)) hx hb d_M_sum_5 (by decide) ?_
      refine lv_icmp_ge (tgt := 25) hx hb d_M_sum_7 (by decide) (fun c7 => ?_) (fun c7 => ?_)
      · have hw := hw.1 c7
        refine lv_iload_n hx hb d_M_sum_25 rfl (lv_at hl 1 rfl) ?_
        exact hret _ _ _ () _ _ hw rfl hP hD hS d_M_sum_26
      · have hw := hw.2 c7
        refine lv_iload_n hx hb d_M_sum_10 rfl (lv_at hl 1 rfl) ?_
        refine lv_aload_n hx hb d_M_sum_11 rfl (lv_at hl 2 rfl) ?_
        refine gGet fx hK hP 0 rfl inM rfl (k := 0) (by decide) w_224 rfl d_M_sum_12 ?_
        refine lv_iload_n hx hb d_M_sum_15 rfl (lv_at hl 0 rfl) ?_
        refine va_iald hx hb hK hP 1 0 rfl rfl hw.1 d_M_sum_16 ?_
        have hw := hw.2
        refine lv_iadd hx hb d_M_sum_17 ?_
        refine lv_istore_n (lv' := [(1, .int (x1 + (vw (x2).toNatClampNeg))), (2, .int x2), (0, .ref h_o)]) hx hb d_M_sum_18 rfl hl (by decide) rfl (fun ls hl => ?_)
        refine lv_iinc (v := (x2 + (nI 1))) (lv' := [(2, .int (x2 + (nI 1))), (1, .int (x1 + (vw (x2).toNatClampNeg))), (0, .ref h_o)]) hx hb d_M_sum_19 hl (k := 1) rfl rfl (by decide) rfl (fun ls hl => ?_)
        refine lv_goto (tgt := 4) hx hb d_M_sum_22 (by decide) ?_
        exact ih_4 _ _ hw _ _ _ hP hD hS (lv_sub hl [0, 1, 2] rfl)
  exact k_4 n_4 _ _ hw _ _ _ hP hD hS (lv_sub hl [0, 1, 2] rfl)
def wp_M_isOne (post : Int32 → Prop) (o_length : Int32) (o_spent : Int32) (o_many : Int32) (o_at : Int32) (o_isOut : Int32) (o_values : Int32) (o_failures : Int32) (o_works : Int32) (vw : Nat → Int32) (x1 : Int32) (x2 : Int32) (x3 : Int32) : Prop :=
  ((x1 = nI 0 → ((x2 < (nI 1) → post (nI 0)) ∧ (¬ x2 < (nI 1) → (((nI 64) < x2 → post (nI 0)) ∧ (¬ (nI 64) < x2 → post (nI 1)))))) ∧ (¬ x1 = nI 0 → ((x1 = nI 1 → ((x2 < (nI 1) → post (nI 0)) ∧ (¬ x2 < (nI 1) → (((nI 64) < x2 → post (nI 0)) ∧ (¬ (nI 64) < x2 → post (nI 1)))))) ∧ (¬ x1 = nI 1 → ((x1 = nI 2 → ((x3 < (nI 1) → post (nI 0)) ∧ (¬ x3 < (nI 1) → (((nI 64) < x3 → post (nI 0)) ∧ (¬ (nI 64) < x3 → ((x2 < 0 → post (nI 0)) ∧ (¬ x2 < 0 → ((x3 < x2 → post (nI 0)) ∧ (¬ x3 < x2 → post (nI 1)))))))))) ∧ (¬ x1 = nI 2 → ((x1 = nI 3 → ((x2 < 0 → post (nI 0)) ∧ (¬ x2 < 0 → (((nI 12) < x2 → post (nI 0)) ∧ (¬ (nI 12) < x2 → post (nI 1)))))) ∧ (¬ x1 = nI 3 → ((x1 = nI 4 → ((x2 < 0 → post (nI 0)) ∧ (¬ x2 < 0 → (((nI 12) < x2 → post (nI 0)) ∧ (¬ (nI 12) < x2 → post (nI 1)))))) ∧ (¬ x1 = nI 4 → ((x1 = nI 5 → ((x2 < (nI 1) → post (nI 0)) ∧ (¬ x2 < (nI 1) → (((nI 4) < x2 → post (nI 0)) ∧ (¬ (nI 4) < x2 → post (nI 1)))))) ∧ (¬ x1 = nI 5 → ((x1 = nI 6 → ((x2 < (nI 1) → post (nI 0)) ∧ (¬ x2 < (nI 1) → (((nI 6) < x2 → post (nI 0)) ∧ (¬ (nI 6) < x2 → ((x3 < 0 → post (nI 0)) ∧ (¬ x3 < 0 → ((x2 < x3 → post (nI 0)) ∧ (¬ x2 < x3 → post (nI 1)))))))))) ∧ (¬ x1 = nI 6 → ((x1 = nI 7 → wp_M_sum (fun r_1 => ((r_1 < (nI 1) → post (nI 0)) ∧ (¬ r_1 < (nI 1) → wp_M_sum (fun r_2 => (((nI 64) < r_2 → post (nI 0)) ∧ (¬ (nI 64) < r_2 → post (nI 1)))) o_length o_spent o_many o_at o_isOut o_values o_failures o_works vw))) o_length o_spent o_many o_at o_isOut o_values o_failures o_works vw) ∧ (¬ x1 = nI 7 → post (nI 0)))))))))))))))))
abbrev rm_M_isOne : Room := { frames := 1, cells := 0, slots := 0, locals := 22 }
theorem mf_M_isOne : gFV y_M_isOne b_M_isOne 4 (some .boolean) 3 := ⟨w_280, w_4, ⟨by decide, by decide, by decide +kernel⟩, w_278, w_279⟩
set_option maxHeartbeats 4000000 in
set_option maxRecDepth 100000 in
theorem c_M_isOne (l : Launch) (D : va_G) (cI : ClassId) (h_o : Nat) (h_w : Nat) (o_tape : Nat) (o_bits : Nat) (o_row : Nat) (o_length : Int32) (o_spent : Int32) (o_many : Int32) (o_at : Int32) (o_isOut : Int32) (o_values : Int32) (o_failures : Int32) (o_works : Int32) (vw : Nat → Int32) (x1 : Int32) (x2 : Int32) (x3 : Int32) (post : Int32 → Prop) (hw : wp_M_isOne post o_length o_spent o_many o_at o_isOut o_values o_failures o_works vw x1 x2 x3) :
    gMi l D [(cI, .int)] y_M_isOne b_M_isOne 4 .boolean rm_M_isOne [.ref h_o, .int x1, .int x2, .int x3] [(h_o, .inr (3, [.ref h_w, .ref o_tape, .int o_length, .int o_spent, .ref o_bits, .int o_many, .int o_at, .int o_isOut, .ref o_row, .int o_values, .int o_failures, .int o_works])), (h_w, .inl (cI, 8, .inl vw))] (S := Unit) (fun u => [(h_o, .inr (3, [.ref h_w, .ref o_tape, .int o_length, .int o_spent, .ref o_bits, .int o_many, .int o_at, .int o_isOut, .ref o_row, .int o_values, .int o_failures, .int o_works])), (h_w, .inl (cI, 8, .inl vw))]) (fun r u => post r) := by
  rw [wp_M_isOne] at hw
  refine gMi.of (by decide) (Nat.le_of_ble_eq_true rfl) (fun p e s m args below meth c A Q ls hx hb hml hown hts hN hK hA hP hD hret hl => ?_)
  have fx : CallFix p m c b_M_isOne 4 s args gG "TapeCounterModel" := ⟨hx, hb, hml, hown, hts⟩
  have hl : lv_has ls 4 [(0, .ref h_o), (1, .int x1), (2, .int x2), (3, .int x3)] := hl
  have hS : va_S A s.heap s.heap [] := va_S.rf
  refine lv_iload_n hx hb d_M_isOne_0 rfl (lv_at hl 1 rfl) ?_
  rcases Classical.em (x1 = nI 0) with c1_0 | c1_0
  · have hw := hw.1 c1_0
    refine g_sw (nI 0) (tgt := 48) hx hb d_M_isOne_1 c1_0 (by decide) (by decide) rfl (by decide) ?_
    refine lv_iload_n hx hb d_M_isOne_48 rfl (lv_at hl 2 rfl) ?_
    refine lv_iconst (v := (nI 1)) hx hb d_M_isOne_49 (by decide) ?_
    refine lv_icmp_lt (tgt := 63) hx hb d_M_isOne_50 (by decide) (fun c50 => ?_) (fun c50 => ?_)
    · have hw := hw.1 c50
      refine lv_iconst (v := (nI 0)) hx hb d_M_isOne_63 (by decide) ?_
      exact hret _ _ _ () _ _ hw rfl hP hD hS d_M_isOne_64
    · have hw := hw.2 c50
      refine lv_iload_n hx hb d_M_isOne_53 rfl (lv_at hl 2 rfl) ?_
      refine lv_bipush (v := (nI 64)) hx hb d_M_isOne_54 (by decide) ?_
      refine lv_icmp_gt (tgt := 63) hx hb d_M_isOne_56 (by decide) (fun c56 => ?_) (fun c56 => ?_)
      · have hw := hw.1 c56
        refine lv_iconst (v := (nI 0)) hx hb d_M_isOne_63 (by decide) ?_
        exact hret _ _ _ () _ _ hw rfl hP hD hS d_M_isOne_64
      · have hw := hw.2 c56
        refine lv_iconst (v := (nI 1)) hx hb d_M_isOne_59 (by decide) ?_
        refine lv_goto (tgt := 64) hx hb d_M_isOne_60 (by decide) ?_
        exact hret _ _ _ () _ _ hw rfl hP hD hS d_M_isOne_64
  · have hw := hw.2 c1_0
    rcases Classical.em (x1 = nI 1) with c1_1 | c1_1
    · have hw := hw.1 c1_1
      refine g_sw (nI 1) (tgt := 48) hx hb d_M_isOne_1 c1_1 (by decide) (by decide) rfl (by decide) ?_
      refine lv_iload_n hx hb d_M_isOne_48 rfl (lv_at hl 2 rfl) ?_
      refine lv_iconst (v := (nI 1)) hx hb d_M_isOne_49 (by decide) ?_
      refine lv_icmp_lt (tgt := 63) hx hb d_M_isOne_50 (by decide) (fun c50 => ?_) (fun c50 => ?_)
      · have hw := hw.1 c50
        refine lv_iconst (v := (nI 0)) hx hb d_M_isOne_63 (by decide) ?_
        exact hret _ _ _ () _ _ hw rfl hP hD hS d_M_isOne_64
      · have hw := hw.2 c50
        refine lv_iload_n hx hb d_M_isOne_53 rfl (lv_at hl 2 rfl) ?_
        refine lv_bipush (v := (nI 64)) hx hb d_M_isOne_54 (by decide) ?_
        refine lv_icmp_gt (tgt := 63) hx hb d_M_isOne_56 (by decide) (fun c56 => ?_) (fun c56 => ?_)
        · have hw := hw.1 c56
          refine lv_iconst (v := (nI 0)) hx hb d_M_isOne_63 (by decide) ?_
          exact hret _ _ _ () _ _ hw rfl hP hD hS d_M_isOne_64
        · have hw := hw.2 c56
          refine lv_iconst (v := (nI 1)) hx hb d_M_isOne_59 (by decide) ?_
          refine lv_goto (tgt := 64) hx hb d_M_isOne_60 (by decide) ?_
          exact hret _ _ _ () _ _ hw rfl hP hD hS d_M_isOne_64
    · have hw := hw.2 c1_1
      rcases Classical.em (x1 = nI 2) with c1_2 | c1_2
      · have hw := hw.1 c1_2
        refine g_sw (nI 2) (tgt := 65) hx hb d_M_isOne_1 c1_2 (by decide) (by decide) rfl (by decide) ?_
        refine lv_iload_n hx hb d_M_isOne_65 rfl (lv_at hl 3 rfl) ?_
        refine lv_iconst (v := (nI 1)) hx hb d_M_isOne_66 (by decide) ?_
        refine lv_icmp_lt (tgt := 89) hx hb d_M_isOne_67 (by decide) (fun c67 => ?_) (fun c67 => ?_)
        · have hw := hw.1 c67
          refine lv_iconst (v := (nI 0)) hx hb d_M_isOne_89 (by decide) ?_
          exact hret _ _ _ () _ _ hw rfl hP hD hS d_M_isOne_90
        · have hw := hw.2 c67
          refine lv_iload_n hx hb d_M_isOne_70 rfl (lv_at hl 3 rfl) ?_
          refine lv_bipush (v := (nI 64)) hx hb d_M_isOne_71 (by decide) ?_
          refine lv_icmp_gt (tgt := 89) hx hb d_M_isOne_73 (by decide) (fun c73 => ?_) (fun c73 => ?_)
          · have hw := hw.1 c73
            refine lv_iconst (v := (nI 0)) hx hb d_M_isOne_89 (by decide) ?_
            exact hret _ _ _ () _ _ hw rfl hP hD hS d_M_isOne_90
          · have hw := hw.2 c73
            refine lv_iload_n hx hb d_M_isOne_76 rfl (lv_at hl 2 rfl) ?_
            refine lv_if_lt (tgt := 89) hx hb d_M_isOne_77 (by decide) (fun c77 => ?_) (fun c77 => ?_)
            · have hw := hw.1 c77
              refine lv_iconst (v := (nI 0)) hx hb d_M_isOne_89 (by decide) ?_
              exact hret _ _ _ () _ _ hw rfl hP hD hS d_M_isOne_90
            · have hw := hw.2 c77
              refine lv_iload_n hx hb d_M_isOne_80 rfl (lv_at hl 2 rfl) ?_
              refine lv_iload_n hx hb d_M_isOne_81 rfl (lv_at hl 3 rfl) ?_
              refine lv_icmp_gt (tgt := 89) hx hb d_M_isOne_82 (by decide) (fun c82 => ?_) (fun c82 => ?_)
              · have hw := hw.1 c82
                refine lv_iconst (v := (nI 0)) hx hb d_M_isOne_89 (by decide) ?_
                exact hret _ _ _ () _ _ hw rfl hP hD hS d_M_isOne_90
              · have hw := hw.2 c82
                refine lv_iconst (v := (nI 1)) hx hb d_M_isOne_85 (by decide) ?_
                refine lv_goto (tgt := 90) hx hb d_M_isOne_86 (by decide) ?_
                exact hret _ _ _ () _ _ hw rfl hP hD hS d_M_isOne_90
      · have hw := hw.2 c1_2
        rcases Classical.em (x1 = nI 3) with c1_3 | c1_3
        · have hw := hw.1 c1_3
          refine g_sw (nI 3) (tgt := 91) hx hb d_M_isOne_1 c1_3 (by decide) (by decide) rfl (by decide) ?_
          refine lv_iload_n hx hb d_M_isOne_91 rfl (lv_at hl 2 rfl) ?_
          refine lv_if_lt (tgt := 105) hx hb d_M_isOne_92 (by decide) (fun c92 => ?_) (fun c92 => ?_)
          · have hw := hw.1 c92
            refine lv_iconst (v := (nI 0)) hx hb d_M_isOne_105 (by decide) ?_
            exact hret _ _ _ () _ _ hw rfl hP hD hS d_M_isOne_106
          · have hw := hw.2 c92
            refine lv_iload_n hx hb d_M_isOne_95 rfl (lv_at hl 2 rfl) ?_
            refine lv_bipush (v := (nI 12)) hx hb d_M_isOne_96 (by decide) ?_
            refine lv_icmp_gt (tgt := 105) hx hb d_M_isOne_98 (by decide) (fun c98 => ?_) (fun c98 => ?_)
            · have hw := hw.1 c98
              refine lv_iconst (v := (nI 0)) hx hb d_M_isOne_105 (by decide) ?_
              exact hret _ _ _ () _ _ hw rfl hP hD hS d_M_isOne_106
            · have hw := hw.2 c98
              refine lv_iconst (v := (nI 1)) hx hb d_M_isOne_101 (by decide) ?_
              refine lv_goto (tgt := 106) hx hb d_M_isOne_102 (by decide) ?_
              exact hret _ _ _ () _ _ hw rfl hP hD hS d_M_isOne_106
        · have hw := hw.2 c1_3
          rcases Classical.em (x1 = nI 4) with c1_4 | c1_4
          · have hw := hw.1 c1_4
            refine g_sw (nI 4) (tgt := 91) hx hb d_M_isOne_1 c1_4 (by decide) (by decide) rfl (by decide) ?_
            refine lv_iload_n hx hb d_M_isOne_91 rfl (lv_at hl 2 rfl) ?_
            refine lv_if_lt (tgt := 105) hx hb d_M_isOne_92 (by decide) (fun c92 => ?_) (fun c92 => ?_)
            · have hw := hw.1 c92
              refine lv_iconst (v := (nI 0)) hx hb d_M_isOne_105 (by decide) ?_
              exact hret _ _ _ () _ _ hw rfl hP hD hS d_M_isOne_106
            · have hw := hw.2 c92
              refine lv_iload_n hx hb d_M_isOne_95 rfl (lv_at hl 2 rfl) ?_
              refine lv_bipush (v := (nI 12)) hx hb d_M_isOne_96 (by decide) ?_
              refine lv_icmp_gt (tgt := 105) hx hb d_M_isOne_98 (by decide) (fun c98 => ?_) (fun c98 => ?_)
              · have hw := hw.1 c98
                refine lv_iconst (v := (nI 0)) hx hb d_M_isOne_105 (by decide) ?_
                exact hret _ _ _ () _ _ hw rfl hP hD hS d_M_isOne_106
              · have hw := hw.2 c98
                refine lv_iconst (v := (nI 1)) hx hb d_M_isOne_101 (by decide) ?_
                refine lv_goto (tgt := 106) hx hb d_M_isOne_102 (by decide) ?_
                exact hret _ _ _ () _ _ hw rfl hP hD hS d_M_isOne_106
          · have hw := hw.2 c1_4
            rcases Classical.em (x1 = nI 5) with c1_5 | c1_5
            · have hw := hw.1 c1_5
              refine g_sw (nI 5) (tgt := 107) hx hb d_M_isOne_1 c1_5 (by decide) (by decide) rfl (by decide) ?_
              refine lv_iload_n hx hb d_M_isOne_107 rfl (lv_at hl 2 rfl) ?_
              refine lv_iconst (v := (nI 1)) hx hb d_M_isOne_108 (by decide) ?_
              refine lv_icmp_lt (tgt := 121) hx hb d_M_isOne_109 (by decide) (fun c109 => ?_) (fun c109 => ?_)
              · have hw := hw.1 c109
                refine lv_iconst (v := (nI 0)) hx hb d_M_isOne_121 (by decide) ?_
                exact hret _ _ _ () _ _ hw rfl hP hD hS d_M_isOne_122
              · have hw := hw.2 c109
                refine lv_iload_n hx hb d_M_isOne_112 rfl (lv_at hl 2 rfl) ?_
                refine lv_iconst (v := (nI 4)) hx hb d_M_isOne_113 (by decide) ?_
                refine lv_icmp_gt (tgt := 121) hx hb d_M_isOne_114 (by decide) (fun c114 => ?_) (fun c114 => ?_)
                · have hw := hw.1 c114
                  refine lv_iconst (v := (nI 0)) hx hb d_M_isOne_121 (by decide) ?_
                  exact hret _ _ _ () _ _ hw rfl hP hD hS d_M_isOne_122
                · have hw := hw.2 c114
                  refine lv_iconst (v := (nI 1)) hx hb d_M_isOne_117 (by decide) ?_
                  refine lv_goto (tgt := 122) hx hb d_M_isOne_118 (by decide) ?_
                  exact hret _ _ _ () _ _ hw rfl hP hD hS d_M_isOne_122
            · have hw := hw.2 c1_5
              rcases Classical.em (x1 = nI 6) with c1_6 | c1_6
              · have hw := hw.1 c1_6
                refine g_sw (nI 6) (tgt := 123) hx hb d_M_isOne_1 c1_6 (by decide) (by decide) rfl (by decide) ?_
                refine lv_iload_n hx hb d_M_isOne_123 rfl (lv_at hl 2 rfl) ?_
                refine lv_iconst (v := (nI 1)) hx hb d_M_isOne_124 (by decide) ?_
                refine lv_icmp_lt (tgt := 147) hx hb d_M_isOne_125 (by decide) (fun c125 => ?_) (fun c125 => ?_)
                · have hw := hw.1 c125
                  refine lv_iconst (v := (nI 0)) hx hb d_M_isOne_147 (by decide) ?_
                  exact hret _ _ _ () _ _ hw rfl hP hD hS d_M_isOne_148
                · have hw := hw.2 c125
                  refine lv_iload_n hx hb d_M_isOne_128 rfl (lv_at hl 2 rfl) ?_
                  refine lv_bipush (v := (nI 6)) hx hb d_M_isOne_129 (by decide) ?_
                  refine lv_icmp_gt (tgt := 147) hx hb d_M_isOne_131 (by decide) (fun c131 => ?_) (fun c131 => ?_)
                  · have hw := hw.1 c131
                    refine lv_iconst (v := (nI 0)) hx hb d_M_isOne_147 (by decide) ?_
                    exact hret _ _ _ () _ _ hw rfl hP hD hS d_M_isOne_148
                  · have hw := hw.2 c131
                    refine lv_iload_n hx hb d_M_isOne_134 rfl (lv_at hl 3 rfl) ?_
                    refine lv_if_lt (tgt := 147) hx hb d_M_isOne_135 (by decide) (fun c135 => ?_) (fun c135 => ?_)
                    · have hw := hw.1 c135
                      refine lv_iconst (v := (nI 0)) hx hb d_M_isOne_147 (by decide) ?_
                      exact hret _ _ _ () _ _ hw rfl hP hD hS d_M_isOne_148
                    · have hw := hw.2 c135
                      refine lv_iload_n hx hb d_M_isOne_138 rfl (lv_at hl 3 rfl) ?_
                      refine lv_iload_n hx hb d_M_isOne_139 rfl (lv_at hl 2 rfl) ?_
                      refine lv_icmp_gt (tgt := 147) hx hb d_M_isOne_140 (by decide) (fun c140 => ?_) (fun c140 => ?_)
                      · have hw := hw.1 c140
                        refine lv_iconst (v := (nI 0)) hx hb d_M_isOne_147 (by decide) ?_
                        exact hret _ _ _ () _ _ hw rfl hP hD hS d_M_isOne_148
                      · have hw := hw.2 c140
                        refine lv_iconst (v := (nI 1)) hx hb d_M_isOne_143 (by decide) ?_
                        refine lv_goto (tgt := 148) hx hb d_M_isOne_144 (by decide) ?_
                        exact hret _ _ _ () _ _ hw rfl hP hD hS d_M_isOne_148
              · have hw := hw.2 c1_6
                rcases Classical.em (x1 = nI 7) with c1_7 | c1_7
                · have hw := hw.1 c1_7
                  refine g_sw (nI 7) (tgt := 149) hx hb d_M_isOne_1 c1_7 (by decide) (by decide) rfl (by decide) ?_
                  refine lv_aload_n hx hb d_M_isOne_149 rfl (lv_at hl 0 rfl) ?_
                  refine g_cVi (wr := []) fx (c_M_sum l D cI h_o h_w o_tape o_bits o_row o_length o_spent o_many o_at o_isOut o_values o_failures o_works vw _ hw) mf_M_sum w_281 ⟨rfl, rfl⟩ ⟨Nat.le_of_ble_eq_true rfl, Nat.le_of_ble_eq_true rfl⟩ hN hK hA hP hD hS [0, 1] [] rfl rfl rfl rfl (by decide) 0 rfl rfl rfl rfl hl.1 (Nat.le_of_ble_eq_true rfl) d_M_isOne_150 ⟨Nat.zero_le _, Nat.zero_le _⟩ (fun r_1 u H locs hw hP hD hS => ?_)
                  try dsimp only at hw
                  have hP : va_P D gCl [(h_o, .inr (3, [.ref h_w, .ref o_tape, .int o_length, .int o_spent, .ref o_bits, .int o_many, .int o_at, .int o_isOut, .ref o_row, .int o_values, .int o_failures, .int o_works])), (h_w, .inl (cI, 8, .inl vw))] H := hP
                  have hD : va_D A [(h_o, .inr (3, [.ref h_w, .ref o_tape, .int o_length, .int o_spent, .ref o_bits, .int o_many, .int o_at, .int o_isOut, .ref o_row, .int o_values, .int o_failures, .int o_works])), (h_w, .inl (cI, 8, .inl vw))] := hD
                  refine lv_iconst (v := (nI 1)) hx hb d_M_isOne_153 (by decide) ?_
                  refine lv_icmp_lt (tgt := 170) hx hb d_M_isOne_154 (by decide) (fun c154 => ?_) (fun c154 => ?_)
                  · have hw := hw.1 c154
                    refine lv_iconst (v := (nI 0)) hx hb d_M_isOne_170 (by decide) ?_
                    exact hret _ _ _ () _ _ hw rfl hP hD hS d_M_isOne_171
                  · have hw := hw.2 c154
                    refine lv_aload_n hx hb d_M_isOne_157 rfl (lv_at hl 0 rfl) ?_
                    refine g_cVi (wr := []) fx (c_M_sum l D cI h_o h_w o_tape o_bits o_row o_length o_spent o_many o_at o_isOut o_values o_failures o_works vw _ hw) mf_M_sum w_281 ⟨rfl, rfl⟩ ⟨Nat.le_of_ble_eq_true rfl, Nat.le_of_ble_eq_true rfl⟩ hN hK hA hP hD hS [0, 1] [] rfl rfl rfl rfl (by decide) 0 rfl rfl rfl rfl hl.1 (Nat.le_of_ble_eq_true rfl) d_M_isOne_158 ⟨Nat.zero_le _, Nat.zero_le _⟩ (fun r_2 u H locs hw hP hD hS => ?_)
                    try dsimp only at hw
                    have hP : va_P D gCl [(h_o, .inr (3, [.ref h_w, .ref o_tape, .int o_length, .int o_spent, .ref o_bits, .int o_many, .int o_at, .int o_isOut, .ref o_row, .int o_values, .int o_failures, .int o_works])), (h_w, .inl (cI, 8, .inl vw))] H := hP
                    have hD : va_D A [(h_o, .inr (3, [.ref h_w, .ref o_tape, .int o_length, .int o_spent, .ref o_bits, .int o_many, .int o_at, .int o_isOut, .ref o_row, .int o_values, .int o_failures, .int o_works])), (h_w, .inl (cI, 8, .inl vw))] := hD
                    refine lv_bipush (v := (nI 64)) hx hb d_M_isOne_161 (by decide) ?_
                    refine lv_icmp_gt (tgt := 170) hx hb d_M_isOne_163 (by decide) (fun c163 => ?_) (fun c163 => ?_)
                    · have hw := hw.1 c163
                      refine lv_iconst (v := (nI 0)) hx hb d_M_isOne_170 (by decide) ?_
                      exact hret _ _ _ () _ _ hw rfl hP hD hS d_M_isOne_171
                    · have hw := hw.2 c163
                      refine lv_iconst (v := (nI 1)) hx hb d_M_isOne_166 (by decide) ?_
                      refine lv_goto (tgt := 171) hx hb d_M_isOne_167 (by decide) ?_
                      exact hret _ _ _ () _ _ hw rfl hP hD hS d_M_isOne_171
                · have hw := hw.2 c1_7
                  refine lv_tableOut (tgt := 172) hx hb d_M_isOne_1 (by have h := g_out (x := x1) (n := 8) (by decide) (fun j hj => by rcases (show j = 0 ∨ j = 1 ∨ j = 2 ∨ j = 3 ∨ j = 4 ∨ j = 5 ∨ j = 6 ∨ j = 7 by omega) with rfl | rfl | rfl | rfl | rfl | rfl | rfl | rfl <;> assumption); omega) (by decide) ?_
                  refine lv_iconst (v := (nI 0)) hx hb d_M_isOne_172 (by decide) ?_
                  exact hret _ _ _ () _ _ hw rfl hP hD hS d_M_isOne_173
def wp_M_isAll (post : Int32 → Prop) (o_length : Int32) (o_spent : Int32) (o_many : Int32) (o_at : Int32) (o_isOut : Int32) (o_values : Int32) (o_failures : Int32) (o_works : Int32) (vw : Nat → Int32) (x1 : Int32) (x2 : Int32) (x3 : Int32) (x4 : Int32) : Prop :=
  wp_M_isOne (fun r_1 => ((r_1 = 0 → post (nI 0)) ∧ (¬ r_1 = 0 → ((x4 < 0 → post (nI 0)) ∧ (¬ x4 < 0 → (((nI 12) < x4 → post (nI 0)) ∧ (¬ (nI 12) < x4 → post (nI 1)))))))) o_length o_spent o_many o_at o_isOut o_values o_failures o_works vw x1 x2 x3
abbrev rm_M_isAll : Room := { frames := 2, cells := 0, slots := 0, locals := 45 }
theorem mf_M_isAll : gFV y_M_isAll b_M_isAll 5 (some .boolean) 4 := ⟨w_333, w_4, ⟨by decide, by decide, by decide +kernel⟩, w_332, ws_2_0⟩
set_option maxHeartbeats 4000000 in
set_option maxRecDepth 100000 in
theorem c_M_isAll (l : Launch) (D : va_G) (cI : ClassId) (h_o : Nat) (h_w : Nat) (o_tape : Nat) (o_bits : Nat) (o_row : Nat) (o_length : Int32) (o_spent : Int32) (o_many : Int32) (o_at : Int32) (o_isOut : Int32) (o_values : Int32) (o_failures : Int32) (o_works : Int32) (vw : Nat → Int32) (x1 : Int32) (x2 : Int32) (x3 : Int32) (x4 : Int32) (post : Int32 → Prop) (hw : wp_M_isAll post o_length o_spent o_many o_at o_isOut o_values o_failures o_works vw x1 x2 x3 x4) :
    gMi l D [(cI, .int)] y_M_isAll b_M_isAll 5 .boolean rm_M_isAll [.ref h_o, .int x1, .int x2, .int x3, .int x4] [(h_o, .inr (3, [.ref h_w, .ref o_tape, .int o_length, .int o_spent, .ref o_bits, .int o_many, .int o_at, .int o_isOut, .ref o_row, .int o_values, .int o_failures, .int o_works])), (h_w, .inl (cI, 8, .inl vw))] (S := Unit) (fun u => [(h_o, .inr (3, [.ref h_w, .ref o_tape, .int o_length, .int o_spent, .ref o_bits, .int o_many, .int o_at, .int o_isOut, .ref o_row, .int o_values, .int o_failures, .int o_works])), (h_w, .inl (cI, 8, .inl vw))]) (fun r u => post r) := by
  rw [wp_M_isAll] at hw
  refine gMi.of (by decide) (Nat.le_of_ble_eq_true rfl) (fun p e s m args below meth c A Q ls hx hb hml hown hts hN hK hA hP hD hret hl => ?_)
  have fx : CallFix p m c b_M_isAll 5 s args gG "TapeCounterModel" := ⟨hx, hb, hml, hown, hts⟩
  have hl : lv_has ls 5 [(0, .ref h_o), (1, .int x1), (2, .int x2), (3, .int x3), (4, .int x4)] := hl
  have hS : va_S A s.heap s.heap [] := va_S.rf
  refine lv_aload_n hx hb d_M_isAll_0 rfl (lv_at hl 0 rfl) ?_
  refine lv_iload_n hx hb d_M_isAll_1 rfl (lv_at hl 1 rfl) ?_
  refine lv_iload_n hx hb d_M_isAll_2 rfl (lv_at hl 2 rfl) ?_
  refine lv_iload_n hx hb d_M_isAll_3 rfl (lv_at hl 3 rfl) ?_
  refine g_cVi (wr := []) fx (c_M_isOne l D cI h_o h_w o_tape o_bits o_row o_length o_spent o_many o_at o_isOut o_values o_failures o_works vw x1 x2 x3 _ hw) mf_M_isOne w_289 ⟨rfl, rfl⟩ ⟨Nat.le_of_ble_eq_true rfl, Nat.le_of_ble_eq_true rfl⟩ hN hK hA hP hD hS [0, 1] [] rfl rfl rfl rfl (by decide) 0 rfl rfl rfl rfl hl.1 (Nat.le_of_ble_eq_true rfl) d_M_isAll_4 ⟨Nat.zero_le _, Nat.zero_le _⟩ (fun r_1 u H locs hw hP hD hS => ?_)
  try dsimp only at hw
  have hP : va_P D gCl [(h_o, .inr (3, [.ref h_w, .ref o_tape, .int o_length, .int o_spent, .ref o_bits, .int o_many, .int o_at, .int o_isOut, .ref o_row, .int o_values, .int o_failures, .int o_works])), (h_w, .inl (cI, 8, .inl vw))] H := hP
  have hD : va_D A [(h_o, .inr (3, [.ref h_w, .ref o_tape, .int o_length, .int o_spent, .ref o_bits, .int o_many, .int o_at, .int o_isOut, .ref o_row, .int o_values, .int o_failures, .int o_works])), (h_w, .inl (cI, 8, .inl vw))] := hD
  refine lv_if_eq (tgt := 26) hx hb d_M_isAll_7 (by decide) (fun c7 => ?_) (fun c7 => ?_)
  · have hw := hw.1 c7
    refine lv_iconst (v := (nI 0)) hx hb d_M_isAll_26 (by decide) ?_
    exact hret _ _ _ () _ _ hw rfl hP hD hS d_M_isAll_27
  · have hw := hw.2 c7
    refine lv_iload hx hb d_M_isAll_10 (lv_at hl 4 rfl) ?_
    refine lv_if_lt (tgt := 26) hx hb d_M_isAll_12 (by decide) (fun c12 => ?_) (fun c12 => ?_)
    · have hw := hw.1 c12
      refine lv_iconst (v := (nI 0)) hx hb d_M_isAll_26 (by decide) ?_
      exact hret _ _ _ () _ _ hw rfl hP hD hS d_M_isAll_27
    · have hw := hw.2 c12
      refine lv_iload hx hb d_M_isAll_15 (lv_at hl 4 rfl) ?_
      refine lv_bipush (v := (nI 12)) hx hb d_M_isAll_17 (by decide) ?_
      refine lv_icmp_gt (tgt := 26) hx hb d_M_isAll_19 (by decide) (fun c19 => ?_) (fun c19 => ?_)
      · have hw := hw.1 c19
        refine lv_iconst (v := (nI 0)) hx hb d_M_isAll_26 (by decide) ?_
        exact hret _ _ _ () _ _ hw rfl hP hD hS d_M_isAll_27
      · have hw := hw.2 c19
        refine lv_iconst (v := (nI 1)) hx hb d_M_isAll_22 (by decide) ?_
        refine lv_goto (tgt := 27) hx hb d_M_isAll_23 (by decide) ?_
        exact hret _ _ _ () _ _ hw rfl hP hD hS d_M_isAll_27
def wp_M_bit (post : Int32 → Int32 → Int32 → Prop) (o_length : Int32) (o_spent : Int32) (o_many : Int32) (o_at : Int32) (o_isOut : Int32) (o_values : Int32) (o_failures : Int32) (o_works : Int32) (vb : Nat → Int32) : Prop :=
  ((¬ o_at = o_many → (vp_in ((o_at + (nI 1)) - (nI 1)) 256 ∧ post (vb (((o_at + (nI 1)) - (nI 1))).toNatClampNeg) (o_at + (nI 1)) o_isOut)) ∧ (o_at = o_many → post (nI 0) o_at (nI 1)))
abbrev rm_M_bit : Room := { frames := 0, cells := 0, slots := 0, locals := 0 }
theorem mf_M_bit : gFV y_M_bit b_M_bit 1 (some .int) 0 := ⟨w_301, w_4, ⟨by decide, by decide, by decide +kernel⟩, w_300, ws_1_10⟩
set_option maxHeartbeats 4000000 in
set_option maxRecDepth 100000 in
theorem c_M_bit (l : Launch) (D : va_G) (cI : ClassId) (h_o : Nat) (h_b : Nat) (o_weights : Nat) (o_tape : Nat) (o_row : Nat) (o_length : Int32) (o_spent : Int32) (o_many : Int32) (o_at : Int32) (o_isOut : Int32) (o_values : Int32) (o_failures : Int32) (o_works : Int32) (vb : Nat → Int32) (post : Int32 → Int32 → Int32 → Prop) (hw : wp_M_bit post o_length o_spent o_many o_at o_isOut o_values o_failures o_works vb) :
    gMi l D [(cI, .int)] y_M_bit b_M_bit 1 .int rm_M_bit [.ref h_o] [(h_o, .inr (3, [.ref o_weights, .ref o_tape, .int o_length, .int o_spent, .ref h_b, .int o_many, .int o_at, .int o_isOut, .ref o_row, .int o_values, .int o_failures, .int o_works])), (h_b, .inl (cI, 256, .inl vb))] (S := Int32 × Int32) (fun u => [(h_o, .inr (3, [.ref o_weights, .ref o_tape, .int o_length, .int o_spent, .ref h_b, .int o_many, .int u.1, .int u.2, .ref o_row, .int o_values, .int o_failures, .int o_works])), (h_b, .inl (cI, 256, .inl vb))]) (fun r u => post r u.1 u.2) := by
  rw [wp_M_bit] at hw
  refine gMi.of (by decide) (Nat.le_of_ble_eq_true rfl) (fun p e s m args below meth c A Q ls hx hb hml hown hts hN hK hA hP hD hret hl => ?_)
  have fx : CallFix p m c b_M_bit 1 s args gG "TapeCounterModel" := ⟨hx, hb, hml, hown, hts⟩
  have hl : lv_has ls 1 [(0, .ref h_o)] := hl
  have hS : va_S A s.heap s.heap [] := va_S.rf
  refine lv_aload_n hx hb d_M_bit_0 rfl (lv_at hl 0 rfl) ?_
  refine gGet fx hK hP 0 rfl inM rfl (k := 6) (by decide) w_230 rfl d_M_bit_1 ?_
  refine lv_aload_n hx hb d_M_bit_4 rfl (lv_at hl 0 rfl) ?_
  refine gGet fx hK hP 0 rfl inM rfl (k := 5) (by decide) w_229 rfl d_M_bit_5 ?_
  refine lv_icmp_ne (tgt := 18) hx hb d_M_bit_8 (by decide) (fun c8 => ?_) (fun c8 => ?_)
  · have hw := hw.1 c8
    refine lv_aload_n hx hb d_M_bit_18 rfl (lv_at hl 0 rfl) ?_
    refine lv_dup hx hb d_M_bit_19 rfl ?_
    refine gGet fx hK hP 0 rfl inM rfl (k := 6) (by decide) w_230 rfl d_M_bit_20 ?_
    refine lv_iconst (v := (nI 1)) hx hb d_M_bit_23 (by decide) ?_
    refine lv_iadd hx hb d_M_bit_24 ?_
    refine gPut fx hK hP hD hS 0 rfl inM tyM nmM rfl (k := 6) (by decide) w_230 rfl rfl rfl (Nat.le_of_ble_eq_true rfl) d_M_bit_25 (fun H locs hP hD hS => ?_)
    have hP : va_P D gCl [(h_o, .inr (3, [.ref o_weights, .ref o_tape, .int o_length, .int o_spent, .ref h_b, .int o_many, .int (o_at + (nI 1)), .int o_isOut, .ref o_row, .int o_values, .int o_failures, .int o_works])), (h_b, .inl (cI, 256, .inl vb))] H := hP
    have hD : va_D A [(h_o, .inr (3, [.ref o_weights, .ref o_tape, .int o_length, .int o_spent, .ref h_b, .int o_many, .int (o_at + (nI 1)), .int o_isOut, .ref o_row, .int o_values, .int o_failures, .int o_works])), (h_b, .inl (cI, 256, .inl vb))] := hD
    refine lv_aload_n hx hb d_M_bit_28 rfl (lv_at hl 0 rfl) ?_
    refine gGet fx hK hP 0 rfl inM rfl (k := 4) (by decide) w_228 rfl d_M_bit_29 ?_
    refine lv_aload_n hx hb d_M_bit_32 rfl (lv_at hl 0 rfl) ?_
    refine gGet fx hK hP 0 rfl inM rfl (k := 6) (by decide) w_230 rfl d_M_bit_33 ?_
    refine lv_iconst (v := (nI 1)) hx hb d_M_bit_36 (by decide) ?_
    refine lv_isub hx hb d_M_bit_37 ?_
    refine va_iald hx hb hK hP 1 0 rfl rfl hw.1 d_M_bit_38 ?_
    have hw := hw.2
    exact hret _ _ _ ((o_at + (nI 1)), o_isOut) _ _ hw rfl hP hD hS d_M_bit_39
  · have hw := hw.2 c8
    refine lv_aload_n hx hb d_M_bit_11 rfl (lv_at hl 0 rfl) ?_
    refine lv_iconst (v := (nI 1)) hx hb d_M_bit_12 (by decide) ?_
    refine gPut fx hK hP hD hS 0 rfl inM tyM nmM rfl (k := 7) (by decide) w_231 rfl rfl rfl (Nat.le_of_ble_eq_true rfl) d_M_bit_13 (fun H locs hP hD hS => ?_)
    have hP : va_P D gCl [(h_o, .inr (3, [.ref o_weights, .ref o_tape, .int o_length, .int o_spent, .ref h_b, .int o_many, .int o_at, .int (nI 1), .ref o_row, .int o_values, .int o_failures, .int o_works])), (h_b, .inl (cI, 256, .inl vb))] H := hP
    have hD : va_D A [(h_o, .inr (3, [.ref o_weights, .ref o_tape, .int o_length, .int o_spent, .ref h_b, .int o_many, .int o_at, .int (nI 1), .ref o_row, .int o_values, .int o_failures, .int o_works])), (h_b, .inl (cI, 256, .inl vb))] := hD
    refine lv_iconst (v := (nI 0)) hx hb d_M_bit_16 (by decide) ?_
    exact hret _ _ _ (o_at, (nI 1)) _ _ hw rfl hP hD hS d_M_bit_17
def wpF_M_plain_18 (K_2 : Int32 → Int32 → Int32 → Prop) (o_length : Int32) (o_spent : Int32) (o_many : Int32) (o_values : Int32) (o_failures : Int32) (o_works : Int32) (vb : Nat → Int32) (x1 : Int32) (K_18 : Int32 → Int32 → Int32 → Int32 → Prop) (o_at : Int32) (o_isOut : Int32) (x2 : Int32) (x3 : Int32) : Prop :=
  ((x1 ≤ x3 → K_2 o_at o_isOut x2) ∧ (¬ x1 ≤ x3 → ((¬ o_isOut = 0 → K_2 o_at o_isOut x2) ∧ (o_isOut = 0 → wp_M_bit (fun r_1 oat_2 oisOut_3 => K_18 oat_2 oisOut_3 (((nI 2) * x2) + r_1) ((nI 2) * x3)) o_length o_spent o_many o_at o_isOut o_values o_failures o_works vb))))
def wpF_M_plain_2 (post : Int32 → Int32 → Int32 → Prop) (o_length : Int32) (o_spent : Int32) (o_many : Int32) (o_values : Int32) (o_failures : Int32) (o_works : Int32) (vb : Nat → Int32) (x1 : Int32) (K_2 : Int32 → Int32 → Int32 → Prop) (o_at : Int32) (o_isOut : Int32) (x2 : Int32) : Prop :=
  ((x2 < x1 → post x2 o_at o_isOut) ∧ (¬ x2 < x1 → ((¬ o_isOut = 0 → post x2 o_at o_isOut) ∧ (o_isOut = 0 → (∃ n, gL4 (wpF_M_plain_18 K_2 o_length o_spent o_many o_values o_failures o_works vb x1) n o_at o_isOut (nI 0) (nI 1))))))
def wp_M_plain (post : Int32 → Int32 → Int32 → Prop) (o_length : Int32) (o_spent : Int32) (o_many : Int32) (o_at : Int32) (o_isOut : Int32) (o_values : Int32) (o_failures : Int32) (o_works : Int32) (vb : Nat → Int32) (x1 : Int32) : Prop :=
  (∃ n, gL3 (wpF_M_plain_2 post o_length o_spent o_many o_values o_failures o_works vb x1) n o_at o_isOut x1)
abbrev rm_M_plain : Room := { frames := 1, cells := 0, slots := 0, locals := 20 }
theorem mf_M_plain : gFV y_M_plain b_M_plain 4 (some .int) 1 := ⟨w_297, w_4, ⟨by decide, by decide, by decide +kernel⟩, w_296, ws_1_9⟩
set_option maxHeartbeats 4000000 in
set_option maxRecDepth 100000 in
theorem c_M_plain (l : Launch) (D : va_G) (cI : ClassId) (h_o : Nat) (h_b : Nat) (o_weights : Nat) (o_tape : Nat) (o_row : Nat) (o_length : Int32) (o_spent : Int32) (o_many : Int32) (o_at : Int32) (o_isOut : Int32) (o_values : Int32) (o_failures : Int32) (o_works : Int32) (vb : Nat → Int32) (x1 : Int32) (post : Int32 → Int32 → Int32 → Prop) (hw : wp_M_plain post o_length o_spent o_many o_at o_isOut o_values o_failures o_works vb x1) :
    gMi l D [(cI, .int)] y_M_plain b_M_plain 4 .int rm_M_plain [.ref h_o, .int x1] [(h_o, .inr (3, [.ref o_weights, .ref o_tape, .int o_length, .int o_spent, .ref h_b, .int o_many, .int o_at, .int o_isOut, .ref o_row, .int o_values, .int o_failures, .int o_works])), (h_b, .inl (cI, 256, .inl vb))] (S := Int32 × Int32) (fun u => [(h_o, .inr (3, [.ref o_weights, .ref o_tape, .int o_length, .int o_spent, .ref h_b, .int o_many, .int u.1, .int u.2, .ref o_row, .int o_values, .int o_failures, .int o_works])), (h_b, .inl (cI, 256, .inl vb))]) (fun r u => post r u.1 u.2) := by
  rw [wp_M_plain] at hw
  refine gMi.of (by decide) (Nat.le_of_ble_eq_true rfl) (fun p e s m args below meth c A Q ls hx hb hml hown hts hN hK hA hP hD hret hl => ?_)
  have fx : CallFix p m c b_M_plain 4 s args gG "TapeCounterModel" := ⟨hx, hb, hml, hown, hts⟩
  have hl : lv_has ls 4 [(0, .ref h_o), (1, .int x1)] := hl
  have hS : va_S A s.heap s.heap [] := va_S.rf
  refine lv_iload_n hx hb d_M_plain_0 rfl (lv_at hl 1 rfl) ?_
  refine lv_istore_n (lv' := [(2, .int x1), (0, .ref h_o), (1, .int x1)]) hx hb d_M_plain_1 rfl hl (by decide) rfl (fun ls hl => ?_)
  obtain ⟨n_2, hw⟩ := hw
  have k_2 : ∀ (n_2 : Nat) (o_at : Int32) (o_isOut : Int32) (x2 : Int32), gL3 (wpF_M_plain_2 post o_length o_spent o_many o_values o_failures o_works vb x1) n_2 o_at o_isOut x2 → ∀ (H : Heap) (locs : List Loc) (ls : Array Slot), va_P D gCl [(h_o, .inr (3, [.ref o_weights, .ref o_tape, .int o_length, .int o_spent, .ref h_b, .int o_many, .int o_at, .int o_isOut, .ref o_row, .int o_values, .int o_failures, .int o_works])), (h_b, .inl (cI, 256, .inl vb))] H → va_D A [(h_o, .inr (3, [.ref o_weights, .ref o_tape, .int o_length, .int o_spent, .ref h_b, .int o_many, .int o_at, .int o_isOut, .ref o_row, .int o_values, .int o_failures, .int o_works])), (h_b, .inl (cI, 256, .inl vb))] → va_S A s.heap H locs → lv_has ls 4 [(2, .int x2), (0, .ref h_o), (1, .int x1)] → W p l e rm_M_plain s m args below meth c H locs 0 0 Q (F0 m 2 ls []) := by
    clear hw hP hD hS hl
    intro n_2
    induction n_2 with
    | zero => exact fun _ _ _ h => h.elim
    | succ n_2 ih_2 =>
      intro o_at o_isOut x2 hw H locs ls hP hD hS hl
      have hw : wpF_M_plain_2 post o_length o_spent o_many o_values o_failures o_works vb x1 (gL3 (wpF_M_plain_2 post o_length o_spent o_many o_values o_failures o_works vb x1) n_2) o_at o_isOut x2 := hw
      rw [wpF_M_plain_2] at hw
      refine lv_iload_n hx hb d_M_plain_2 rfl (lv_at hl 0 rfl) ?_
      refine lv_iload_n hx hb d_M_plain_3 rfl (lv_at hl 2 rfl) ?_
      refine lv_icmp_lt (tgt := 49) hx hb d_M_plain_4 (by decide) (fun c4 => ?_) (fun c4 => ?_)
      · have hw := hw.1 c4
        refine lv_iload_n hx hb d_M_plain_49 rfl (lv_at hl 0 rfl) ?_
        exact hret _ _ _ (o_at, o_isOut) _ _ hw rfl hP hD hS d_M_plain_50
      · have hw := hw.2 c4
        refine lv_aload_n hx hb d_M_plain_7 rfl (lv_at hl 1 rfl) ?_
        refine gGet fx hK hP 0 rfl inM rfl (k := 7) (by decide) w_231 rfl d_M_plain_8 ?_
        refine lv_if_ne (tgt := 49) hx hb d_M_plain_11 (by decide) (fun c11 => ?_) (fun c11 => ?_)
        · have hw := hw.1 c11
          refine lv_iload_n hx hb d_M_plain_49 rfl (lv_at hl 0 rfl) ?_
          exact hret _ _ _ (o_at, o_isOut) _ _ hw rfl hP hD hS d_M_plain_50
        · have hw := hw.2 c11
          refine lv_iconst (v := (nI 0)) hx hb d_M_plain_14 (by decide) ?_
          refine lv_istore_n (lv' := [(2, .int (nI 0)), (0, .ref h_o), (1, .int x1)]) hx hb d_M_plain_15 rfl hl (by decide) rfl (fun ls hl => ?_)
          refine lv_iconst (v := (nI 1)) hx hb d_M_plain_16 (by decide) ?_
          refine lv_istore_n (lv' := [(3, .int (nI 1)), (2, .int (nI 0)), (0, .ref h_o), (1, .int x1)]) hx hb d_M_plain_17 rfl hl (by decide) rfl (fun ls hl => ?_)
          obtain ⟨n_18, hw⟩ := hw
          have k_18 : ∀ (n_18 : Nat) (o_at : Int32) (o_isOut : Int32) (x2 : Int32) (x3 : Int32), gL4 (wpF_M_plain_18 (gL3 (wpF_M_plain_2 post o_length o_spent o_many o_values o_failures o_works vb x1) n_2) o_length o_spent o_many o_values o_failures o_works vb x1) n_18 o_at o_isOut x2 x3 → ∀ (H : Heap) (locs : List Loc) (ls : Array Slot), va_P D gCl [(h_o, .inr (3, [.ref o_weights, .ref o_tape, .int o_length, .int o_spent, .ref h_b, .int o_many, .int o_at, .int o_isOut, .ref o_row, .int o_values, .int o_failures, .int o_works])), (h_b, .inl (cI, 256, .inl vb))] H → va_D A [(h_o, .inr (3, [.ref o_weights, .ref o_tape, .int o_length, .int o_spent, .ref h_b, .int o_many, .int o_at, .int o_isOut, .ref o_row, .int o_values, .int o_failures, .int o_works])), (h_b, .inl (cI, 256, .inl vb))] → va_S A s.heap H locs → lv_has ls 4 [(3, .int x3), (2, .int x2), (0, .ref h_o), (1, .int x1)] → W p l e rm_M_plain s m args below meth c H locs 0 0 Q (F0 m 18 ls []) := by
            clear hw hP hD hS hl
            intro n_18
            induction n_18 with
            | zero => exact fun _ _ _ _ h => h.elim
            | succ n_18 ih_18 =>
              intro o_at o_isOut x2 x3 hw H locs ls hP hD hS hl
              have hw : wpF_M_plain_18 (gL3 (wpF_M_plain_2 post o_length o_spent o_many o_values o_failures o_works vb x1) n_2) o_length o_spent o_many o_values o_failures o_works vb x1 (gL4 (wpF_M_plain_18 (gL3 (wpF_M_plain_2 post o_length o_spent o_many o_values o_failures o_works vb x1) n_2) o_length o_spent o_many o_values o_failures o_works vb x1) n_18) o_at o_isOut x2 x3 := hw
              rw [wpF_M_plain_18] at hw
              refine lv_iload_n hx hb d_M_plain_18 rfl (lv_at hl 0 rfl) ?_
              refine lv_iload_n hx hb d_M_plain_19 rfl (lv_at hl 3 rfl) ?_
              refine lv_icmp_ge (tgt := 46) hx hb d_M_plain_20 (by decide) (fun c20 => ?_) (fun c20 => ?_)
              · have hw := hw.1 c20
                refine lv_goto (tgt := 2) hx hb d_M_plain_46 (by decide) ?_
                exact ih_2 _ _ _ hw _ _ _ hP hD hS (lv_sub hl [1, 2, 3] rfl)
              · have hw := hw.2 c20
                refine lv_aload_n hx hb d_M_plain_23 rfl (lv_at hl 2 rfl) ?_
                refine gGet fx hK hP 0 rfl inM rfl (k := 7) (by decide) w_231 rfl d_M_plain_24 ?_
                refine lv_if_ne (tgt := 46) hx hb d_M_plain_27 (by decide) (fun c27 => ?_) (fun c27 => ?_)
                · have hw := hw.1 c27
                  refine lv_goto (tgt := 2) hx hb d_M_plain_46 (by decide) ?_
                  exact ih_2 _ _ _ hw _ _ _ hP hD hS (lv_sub hl [1, 2, 3] rfl)
                · have hw := hw.2 c27
                  refine lv_iconst (v := (nI 2)) hx hb d_M_plain_30 (by decide) ?_
                  refine lv_iload_n hx hb d_M_plain_31 rfl (lv_at hl 1 rfl) ?_
                  refine lv_imul hx hb d_M_plain_32 ?_
                  refine lv_aload_n hx hb d_M_plain_33 rfl (lv_at hl 2 rfl) ?_
                  refine g_cVi (wr := []) fx (c_M_bit l D cI h_o h_b o_weights o_tape o_row o_length o_spent o_many o_at o_isOut o_values o_failures o_works vb _ hw) mf_M_bit w_298 ⟨rfl, rfl⟩ ⟨Nat.le_of_ble_eq_true rfl, Nat.le_of_ble_eq_true rfl⟩ hN hK hA hP hD hS [0, 1] [] rfl rfl rfl rfl (by decide) 0 rfl rfl rfl rfl hl.1 (Nat.le_of_ble_eq_true rfl) d_M_plain_34 ⟨Nat.zero_le _, Nat.zero_le _⟩ (fun r_1 u H locs hw hP hD hS => ?_)
                  obtain ⟨oat_2, oisOut_3⟩ := u
                  try dsimp only at hw
                  have hP : va_P D gCl [(h_o, .inr (3, [.ref o_weights, .ref o_tape, .int o_length, .int o_spent, .ref h_b, .int o_many, .int oat_2, .int oisOut_3, .ref o_row, .int o_values, .int o_failures, .int o_works])), (h_b, .inl (cI, 256, .inl vb))] H := hP
                  have hD : va_D A [(h_o, .inr (3, [.ref o_weights, .ref o_tape, .int o_length, .int o_spent, .ref h_b, .int o_many, .int oat_2, .int oisOut_3, .ref o_row, .int o_values, .int o_failures, .int o_works])), (h_b, .inl (cI, 256, .inl vb))] := hD
                  refine lv_iadd hx hb d_M_plain_37 ?_
                  refine lv_istore_n (lv' := [(2, .int (((nI 2) * x2) + r_1)), (3, .int x3), (0, .ref h_o), (1, .int x1)]) hx hb d_M_plain_38 rfl hl (by decide) rfl (fun ls hl => ?_)
                  refine lv_iconst (v := (nI 2)) hx hb d_M_plain_39 (by decide) ?_
                  refine lv_iload_n hx hb d_M_plain_40 rfl (lv_at hl 1 rfl) ?_
                  refine lv_imul hx hb d_M_plain_41 ?_
                  refine lv_istore_n (lv' := [(3, .int ((nI 2) * x3)), (2, .int (((nI 2) * x2) + r_1)), (0, .ref h_o), (1, .int x1)]) hx hb d_M_plain_42 rfl hl (by decide) rfl (fun ls hl => ?_)
                  refine lv_goto (tgt := 18) hx hb d_M_plain_43 (by decide) ?_
                  exact ih_18 _ _ _ _ hw _ _ _ hP hD hS (lv_sub hl [0, 1, 2, 3] rfl)
          exact k_18 n_18 _ _ _ _ hw _ _ _ hP hD hS (lv_sub hl [0, 1, 2, 3] rfl)
  exact k_2 n_2 _ _ _ hw _ _ _ hP hD hS (lv_sub hl [0, 1, 2] rfl)
def wpF_M_thrifty_11 (post : Int32 → Int32 → Int32 → Prop) (K_4 : Int32 → Int32 → Int32 → Int32 → Prop) (o_length : Int32) (o_spent : Int32) (o_many : Int32) (o_values : Int32) (o_failures : Int32) (o_works : Int32) (vb : Nat → Int32) (x1 : Int32) (K_11 : Int32 → Int32 → Int32 → Int32 → Prop) (o_at : Int32) (o_isOut : Int32) (x2 : Int32) (x3 : Int32) : Prop :=
  ((x1 ≤ x2 → ((x1 ≤ x3 → K_4 o_at o_isOut (x2 - x1) (x3 - x1)) ∧ (¬ x1 ≤ x3 → post x3 o_at o_isOut))) ∧ (¬ x1 ≤ x2 → ((¬ o_isOut = 0 → ((x1 ≤ x3 → K_4 o_at o_isOut (x2 - x1) (x3 - x1)) ∧ (¬ x1 ≤ x3 → post x3 o_at o_isOut))) ∧ (o_isOut = 0 → wp_M_bit (fun r_1 oat_2 oisOut_3 => K_11 oat_2 oisOut_3 ((nI 2) * x2) (((nI 2) * x3) + r_1)) o_length o_spent o_many o_at o_isOut o_values o_failures o_works vb))))
def wpF_M_thrifty_4 (post : Int32 → Int32 → Int32 → Prop) (o_length : Int32) (o_spent : Int32) (o_many : Int32) (o_values : Int32) (o_failures : Int32) (o_works : Int32) (vb : Nat → Int32) (x1 : Int32) (K_4 : Int32 → Int32 → Int32 → Int32 → Prop) (o_at : Int32) (o_isOut : Int32) (x2 : Int32) (x3 : Int32) : Prop :=
  ((¬ o_isOut = 0 → post x3 o_at o_isOut) ∧ (o_isOut = 0 → (∃ n, gL4 (wpF_M_thrifty_11 post K_4 o_length o_spent o_many o_values o_failures o_works vb x1) n o_at o_isOut x2 x3)))
def wp_M_thrifty (post : Int32 → Int32 → Int32 → Prop) (o_length : Int32) (o_spent : Int32) (o_many : Int32) (o_at : Int32) (o_isOut : Int32) (o_values : Int32) (o_failures : Int32) (o_works : Int32) (vb : Nat → Int32) (x1 : Int32) : Prop :=
  (∃ n, gL4 (wpF_M_thrifty_4 post o_length o_spent o_many o_values o_failures o_works vb x1) n o_at o_isOut (nI 1) (nI 0))
abbrev rm_M_thrifty : Room := { frames := 1, cells := 0, slots := 0, locals := 20 }
theorem mf_M_thrifty : gFV y_M_thrifty b_M_thrifty 4 (some .int) 1 := ⟨w_305, w_4, ⟨by decide, by decide, by decide +kernel⟩, w_304, ws_1_11⟩
set_option maxHeartbeats 4000000 in
set_option maxRecDepth 100000 in
theorem c_M_thrifty (l : Launch) (D : va_G) (cI : ClassId) (h_o : Nat) (h_b : Nat) (o_weights : Nat) (o_tape : Nat) (o_row : Nat) (o_length : Int32) (o_spent : Int32) (o_many : Int32) (o_at : Int32) (o_isOut : Int32) (o_values : Int32) (o_failures : Int32) (o_works : Int32) (vb : Nat → Int32) (x1 : Int32) (post : Int32 → Int32 → Int32 → Prop) (hw : wp_M_thrifty post o_length o_spent o_many o_at o_isOut o_values o_failures o_works vb x1) :
    gMi l D [(cI, .int)] y_M_thrifty b_M_thrifty 4 .int rm_M_thrifty [.ref h_o, .int x1] [(h_o, .inr (3, [.ref o_weights, .ref o_tape, .int o_length, .int o_spent, .ref h_b, .int o_many, .int o_at, .int o_isOut, .ref o_row, .int o_values, .int o_failures, .int o_works])), (h_b, .inl (cI, 256, .inl vb))] (S := Int32 × Int32) (fun u => [(h_o, .inr (3, [.ref o_weights, .ref o_tape, .int o_length, .int o_spent, .ref h_b, .int o_many, .int u.1, .int u.2, .ref o_row, .int o_values, .int o_failures, .int o_works])), (h_b, .inl (cI, 256, .inl vb))]) (fun r u => post r u.1 u.2) := by
  rw [wp_M_thrifty] at hw
  refine gMi.of (by decide) (Nat.le_of_ble_eq_true rfl) (fun p e s m args below meth c A Q ls hx hb hml hown hts hN hK hA hP hD hret hl => ?_)
  have fx : CallFix p m c b_M_thrifty 4 s args gG "TapeCounterModel" := ⟨hx, hb, hml, hown, hts⟩
  have hl : lv_has ls 4 [(0, .ref h_o), (1, .int x1)] := hl
  have hS : va_S A s.heap s.heap [] := va_S.rf
  refine lv_iconst (v := (nI 1)) hx hb d_M_thrifty_0 (by decide) ?_
  refine lv_istore_n (lv' := [(2, .int (nI 1)), (0, .ref h_o), (1, .int x1)]) hx hb d_M_thrifty_1 rfl hl (by decide) rfl (fun ls hl => ?_)
  refine lv_iconst (v := (nI 0)) hx hb d_M_thrifty_2 (by decide) ?_
  refine lv_istore_n (lv' := [(3, .int (nI 0)), (2, .int (nI 1)), (0, .ref h_o), (1, .int x1)]) hx hb d_M_thrifty_3 rfl hl (by decide) rfl (fun ls hl => ?_)
  obtain ⟨n_4, hw⟩ := hw
  have k_4 : ∀ (n_4 : Nat) (o_at : Int32) (o_isOut : Int32) (x2 : Int32) (x3 : Int32), gL4 (wpF_M_thrifty_4 post o_length o_spent o_many o_values o_failures o_works vb x1) n_4 o_at o_isOut x2 x3 → ∀ (H : Heap) (locs : List Loc) (ls : Array Slot), va_P D gCl [(h_o, .inr (3, [.ref o_weights, .ref o_tape, .int o_length, .int o_spent, .ref h_b, .int o_many, .int o_at, .int o_isOut, .ref o_row, .int o_values, .int o_failures, .int o_works])), (h_b, .inl (cI, 256, .inl vb))] H → va_D A [(h_o, .inr (3, [.ref o_weights, .ref o_tape, .int o_length, .int o_spent, .ref h_b, .int o_many, .int o_at, .int o_isOut, .ref o_row, .int o_values, .int o_failures, .int o_works])), (h_b, .inl (cI, 256, .inl vb))] → va_S A s.heap H locs → lv_has ls 4 [(3, .int x3), (2, .int x2), (0, .ref h_o), (1, .int x1)] → W p l e rm_M_thrifty s m args below meth c H locs 0 0 Q (F0 m 4 ls []) := by
    clear hw hP hD hS hl
    intro n_4
    induction n_4 with
    | zero => exact fun _ _ _ _ h => h.elim
    | succ n_4 ih_4 =>
      intro o_at o_isOut x2 x3 hw H locs ls hP hD hS hl
      have hw : wpF_M_thrifty_4 post o_length o_spent o_many o_values o_failures o_works vb x1 (gL4 (wpF_M_thrifty_4 post o_length o_spent o_many o_values o_failures o_works vb x1) n_4) o_at o_isOut x2 x3 := hw
      rw [wpF_M_thrifty_4] at hw
      refine lv_aload_n hx hb d_M_thrifty_4 rfl (lv_at hl 2 rfl) ?_
      refine gGet fx hK hP 0 rfl inM rfl (k := 7) (by decide) w_231 rfl d_M_thrifty_5 ?_
      refine lv_if_ne (tgt := 57) hx hb d_M_thrifty_8 (by decide) (fun c8 => ?_) (fun c8 => ?_)
      · have hw := hw.1 c8
        refine lv_iload_n hx hb d_M_thrifty_57 rfl (lv_at hl 0 rfl) ?_
        exact hret _ _ _ (o_at, o_isOut) _ _ hw rfl hP hD hS d_M_thrifty_58
      · have hw := hw.2 c8
        obtain ⟨n_11, hw⟩ := hw
        have k_11 : ∀ (n_11 : Nat) (o_at : Int32) (o_isOut : Int32) (x2 : Int32) (x3 : Int32), gL4 (wpF_M_thrifty_11 post (gL4 (wpF_M_thrifty_4 post o_length o_spent o_many o_values o_failures o_works vb x1) n_4) o_length o_spent o_many o_values o_failures o_works vb x1) n_11 o_at o_isOut x2 x3 → ∀ (H : Heap) (locs : List Loc) (ls : Array Slot), va_P D gCl [(h_o, .inr (3, [.ref o_weights, .ref o_tape, .int o_length, .int o_spent, .ref h_b, .int o_many, .int o_at, .int o_isOut, .ref o_row, .int o_values, .int o_failures, .int o_works])), (h_b, .inl (cI, 256, .inl vb))] H → va_D A [(h_o, .inr (3, [.ref o_weights, .ref o_tape, .int o_length, .int o_spent, .ref h_b, .int o_many, .int o_at, .int o_isOut, .ref o_row, .int o_values, .int o_failures, .int o_works])), (h_b, .inl (cI, 256, .inl vb))] → va_S A s.heap H locs → lv_has ls 4 [(3, .int x3), (2, .int x2), (0, .ref h_o), (1, .int x1)] → W p l e rm_M_thrifty s m args below meth c H locs 0 0 Q (F0 m 11 ls []) := by
          clear hw hP hD hS hl
          intro n_11
          induction n_11 with
          | zero => exact fun _ _ _ _ h => h.elim
          | succ n_11 ih_11 =>
            intro o_at o_isOut x2 x3 hw H locs ls hP hD hS hl
            have hw : wpF_M_thrifty_11 post (gL4 (wpF_M_thrifty_4 post o_length o_spent o_many o_values o_failures o_works vb x1) n_4) o_length o_spent o_many o_values o_failures o_works vb x1 (gL4 (wpF_M_thrifty_11 post (gL4 (wpF_M_thrifty_4 post o_length o_spent o_many o_values o_failures o_works vb x1) n_4) o_length o_spent o_many o_values o_failures o_works vb x1) n_11) o_at o_isOut x2 x3 := hw
            rw [wpF_M_thrifty_11] at hw
            refine lv_iload_n hx hb d_M_thrifty_11 rfl (lv_at hl 1 rfl) ?_
            refine lv_iload_n hx hb d_M_thrifty_12 rfl (lv_at hl 3 rfl) ?_
            refine lv_icmp_ge (tgt := 39) hx hb d_M_thrifty_13 (by decide) (fun c13 => ?_) (fun c13 => ?_)
            · have hw := hw.1 c13
              refine lv_iload_n hx hb d_M_thrifty_39 rfl (lv_at hl 0 rfl) ?_
              refine lv_iload_n hx hb d_M_thrifty_40 rfl (lv_at hl 3 rfl) ?_
              refine lv_icmp_ge (tgt := 46) hx hb d_M_thrifty_41 (by decide) (fun c41 => ?_) (fun c41 => ?_)
              · have hw := hw.1 c41
                refine lv_iload_n hx hb d_M_thrifty_46 rfl (lv_at hl 1 rfl) ?_
                refine lv_iload_n hx hb d_M_thrifty_47 rfl (lv_at hl 3 rfl) ?_
                refine lv_isub hx hb d_M_thrifty_48 ?_
                refine lv_istore_n (lv' := [(2, .int (x2 - x1)), (3, .int x3), (0, .ref h_o), (1, .int x1)]) hx hb d_M_thrifty_49 rfl hl (by decide) rfl (fun ls hl => ?_)
                refine lv_iload_n hx hb d_M_thrifty_50 rfl (lv_at hl 1 rfl) ?_
                refine lv_iload_n hx hb d_M_thrifty_51 rfl (lv_at hl 3 rfl) ?_
                refine lv_isub hx hb d_M_thrifty_52 ?_
                refine lv_istore_n (lv' := [(3, .int (x3 - x1)), (2, .int (x2 - x1)), (0, .ref h_o), (1, .int x1)]) hx hb d_M_thrifty_53 rfl hl (by decide) rfl (fun ls hl => ?_)
                refine lv_goto (tgt := 4) hx hb d_M_thrifty_54 (by decide) ?_
                exact ih_4 _ _ _ _ hw _ _ _ hP hD hS (lv_sub hl [0, 1, 2, 3] rfl)
              · have hw := hw.2 c41
                refine lv_iload_n hx hb d_M_thrifty_44 rfl (lv_at hl 0 rfl) ?_
                exact hret _ _ _ (o_at, o_isOut) _ _ hw rfl hP hD hS d_M_thrifty_45
            · have hw := hw.2 c13
              refine lv_aload_n hx hb d_M_thrifty_16 rfl (lv_at hl 2 rfl) ?_
              refine gGet fx hK hP 0 rfl inM rfl (k := 7) (by decide) w_231 rfl d_M_thrifty_17 ?_
              refine lv_if_ne (tgt := 39) hx hb d_M_thrifty_20 (by decide) (fun c20 => ?_) (fun c20 => ?_)
              · have hw := hw.1 c20
                refine lv_iload_n hx hb d_M_thrifty_39 rfl (lv_at hl 0 rfl) ?_
                refine lv_iload_n hx hb d_M_thrifty_40 rfl (lv_at hl 3 rfl) ?_
                refine lv_icmp_ge (tgt := 46) hx hb d_M_thrifty_41 (by decide) (fun c41 => ?_) (fun c41 => ?_)
                · have hw := hw.1 c41
                  refine lv_iload_n hx hb d_M_thrifty_46 rfl (lv_at hl 1 rfl) ?_
                  refine lv_iload_n hx hb d_M_thrifty_47 rfl (lv_at hl 3 rfl) ?_
                  refine lv_isub hx hb d_M_thrifty_48 ?_
                  refine lv_istore_n (lv' := [(2, .int (x2 - x1)), (3, .int x3), (0, .ref h_o), (1, .int x1)]) hx hb d_M_thrifty_49 rfl hl (by decide) rfl (fun ls hl => ?_)
                  refine lv_iload_n hx hb d_M_thrifty_50 rfl (lv_at hl 1 rfl) ?_
                  refine lv_iload_n hx hb d_M_thrifty_51 rfl (lv_at hl 3 rfl) ?_
                  refine lv_isub hx hb d_M_thrifty_52 ?_
                  refine lv_istore_n (lv' := [(3, .int (x3 - x1)), (2, .int (x2 - x1)), (0, .ref h_o), (1, .int x1)]) hx hb d_M_thrifty_53 rfl hl (by decide) rfl (fun ls hl => ?_)
                  refine lv_goto (tgt := 4) hx hb d_M_thrifty_54 (by decide) ?_
                  exact ih_4 _ _ _ _ hw _ _ _ hP hD hS (lv_sub hl [0, 1, 2, 3] rfl)
                · have hw := hw.2 c41
                  refine lv_iload_n hx hb d_M_thrifty_44 rfl (lv_at hl 0 rfl) ?_
                  exact hret _ _ _ (o_at, o_isOut) _ _ hw rfl hP hD hS d_M_thrifty_45
              · have hw := hw.2 c20
                refine lv_iconst (v := (nI 2)) hx hb d_M_thrifty_23 (by decide) ?_
                refine lv_iload_n hx hb d_M_thrifty_24 rfl (lv_at hl 1 rfl) ?_
                refine lv_imul hx hb d_M_thrifty_25 ?_
                refine lv_istore_n (lv' := [(2, .int ((nI 2) * x2)), (3, .int x3), (0, .ref h_o), (1, .int x1)]) hx hb d_M_thrifty_26 rfl hl (by decide) rfl (fun ls hl => ?_)
                refine lv_iconst (v := (nI 2)) hx hb d_M_thrifty_27 (by decide) ?_
                refine lv_iload_n hx hb d_M_thrifty_28 rfl (lv_at hl 1 rfl) ?_
                refine lv_imul hx hb d_M_thrifty_29 ?_
                refine lv_aload_n hx hb d_M_thrifty_30 rfl (lv_at hl 2 rfl) ?_
                refine g_cVi (wr := []) fx (c_M_bit l D cI h_o h_b o_weights o_tape o_row o_length o_spent o_many o_at o_isOut o_values o_failures o_works vb _ hw) mf_M_bit w_298 ⟨rfl, rfl⟩ ⟨Nat.le_of_ble_eq_true rfl, Nat.le_of_ble_eq_true rfl⟩ hN hK hA hP hD hS [0, 1] [] rfl rfl rfl rfl (by decide) 0 rfl rfl rfl rfl hl.1 (Nat.le_of_ble_eq_true rfl) d_M_thrifty_31 ⟨Nat.zero_le _, Nat.zero_le _⟩ (fun r_1 u H locs hw hP hD hS => ?_)
                obtain ⟨oat_2, oisOut_3⟩ := u
                try dsimp only at hw
                have hP : va_P D gCl [(h_o, .inr (3, [.ref o_weights, .ref o_tape, .int o_length, .int o_spent, .ref h_b, .int o_many, .int oat_2, .int oisOut_3, .ref o_row, .int o_values, .int o_failures, .int o_works])), (h_b, .inl (cI, 256, .inl vb))] H := hP
                have hD : va_D A [(h_o, .inr (3, [.ref o_weights, .ref o_tape, .int o_length, .int o_spent, .ref h_b, .int o_many, .int oat_2, .int oisOut_3, .ref o_row, .int o_values, .int o_failures, .int o_works])), (h_b, .inl (cI, 256, .inl vb))] := hD
                refine lv_iadd hx hb d_M_thrifty_34 ?_
                refine lv_istore_n (lv' := [(3, .int (((nI 2) * x3) + r_1)), (2, .int ((nI 2) * x2)), (0, .ref h_o), (1, .int x1)]) hx hb d_M_thrifty_35 rfl hl (by decide) rfl (fun ls hl => ?_)
                refine lv_goto (tgt := 11) hx hb d_M_thrifty_36 (by decide) ?_
                exact ih_11 _ _ _ _ hw _ _ _ hP hD hS (lv_sub hl [0, 1, 2, 3] rfl)
        exact k_11 n_11 _ _ _ _ hw _ _ _ hP hD hS (lv_sub hl [0, 1, 2, 3] rfl)
  exact k_4 n_4 _ _ _ _ hw _ _ _ hP hD hS (lv_sub hl [0, 1, 2, 3] rfl)
def wpF_M_coin_2 (post : Int32 → Int32 → Int32 → Prop) (o_length : Int32) (o_spent : Int32) (o_many : Int32) (o_values : Int32) (o_failures : Int32) (o_works : Int32) (vb : Nat → Int32) (x2 : Int32) (K_2 : Int32 → Int32 → Int32 → Prop) (o_at : Int32) (o_isOut : Int32) (x3 : Int32) : Prop :=
  ((x3 ≤ 0 → ((¬ x3 = 0 → post (nI 1) o_at o_isOut) ∧ (x3 = 0 → post (nI 0) o_at o_isOut))) ∧ (¬ x3 ≤ 0 → ((x2 ≤ x3 → ((¬ x3 = 0 → post (nI 1) o_at o_isOut) ∧ (x3 = 0 → post (nI 0) o_at o_isOut))) ∧ (¬ x2 ≤ x3 → ((¬ o_isOut = 0 → ((¬ x3 = 0 → post (nI 1) o_at o_isOut) ∧ (x3 = 0 → post (nI 0) o_at o_isOut))) ∧ (o_isOut = 0 → wp_M_bit (fun r_1 oat_2 oisOut_3 => ((((nI 2) * x3) < x2 → ((((nI 2) * x3) < x2 → ((r_1 = (nI 0) → K_2 oat_2 oisOut_3 ((nI 2) * x3)) ∧ (¬ r_1 = (nI 0) → (((nI 0) ≤ r_1 → post (nI 0) oat_2 oisOut_3) ∧ (¬ (nI 0) ≤ r_1 → post (nI 1) oat_2 oisOut_3))))) ∧ (¬ ((nI 2) * x3) < x2 → ((r_1 = (nI 0) → K_2 oat_2 oisOut_3 (((nI 2) * x3) - x2)) ∧ (¬ r_1 = (nI 0) → (((nI 0) ≤ r_1 → post (nI 0) oat_2 oisOut_3) ∧ (¬ (nI 0) ≤ r_1 → post (nI 1) oat_2 oisOut_3))))))) ∧ (¬ ((nI 2) * x3) < x2 → ((((nI 2) * x3) < x2 → ((r_1 = (nI 1) → K_2 oat_2 oisOut_3 ((nI 2) * x3)) ∧ (¬ r_1 = (nI 1) → (((nI 1) ≤ r_1 → post (nI 0) oat_2 oisOut_3) ∧ (¬ (nI 1) ≤ r_1 → post (nI 1) oat_2 oisOut_3))))) ∧ (¬ ((nI 2) * x3) < x2 → ((r_1 = (nI 1) → K_2 oat_2 oisOut_3 (((nI 2) * x3) - x2)) ∧ (¬ r_1 = (nI 1) → (((nI 1) ≤ r_1 → post (nI 0) oat_2 oisOut_3) ∧ (¬ (nI 1) ≤ r_1 → post (nI 1) oat_2 oisOut_3))))))))) o_length o_spent o_many o_at o_isOut o_values o_failures o_works vb))))))
def wp_M_coin (post : Int32 → Int32 → Int32 → Prop) (o_length : Int32) (o_spent : Int32) (o_many : Int32) (o_at : Int32) (o_isOut : Int32) (o_values : Int32) (o_failures : Int32) (o_works : Int32) (vb : Nat → Int32) (x1 : Int32) (x2 : Int32) : Prop :=
  (∃ n, gL3 (wpF_M_coin_2 post o_length o_spent o_many o_values o_failures o_works vb x2) n o_at o_isOut x1)
abbrev rm_M_coin : Room := { frames := 1, cells := 0, slots := 0, locals := 20 }
theorem mf_M_coin : gFV y_M_coin b_M_coin 6 (some .int) 2 := ⟨w_309, w_4, ⟨by decide, by decide, by decide +kernel⟩, w_308, ws_1_12⟩
set_option maxHeartbeats 4000000 in
set_option maxRecDepth 100000 in
theorem c_M_coin (l : Launch) (D : va_G) (cI : ClassId) (h_o : Nat) (h_b : Nat) (o_weights : Nat) (o_tape : Nat) (o_row : Nat) (o_length : Int32) (o_spent : Int32) (o_many : Int32) (o_at : Int32) (o_isOut : Int32) (o_values : Int32) (o_failures : Int32) (o_works : Int32) (vb : Nat → Int32) (x1 : Int32) (x2 : Int32) (post : Int32 → Int32 → Int32 → Prop) (hw : wp_M_coin post o_length o_spent o_many o_at o_isOut o_values o_failures o_works vb x1 x2) :
    gMi l D [(cI, .int)] y_M_coin b_M_coin 6 .int rm_M_coin [.ref h_o, .int x1, .int x2] [(h_o, .inr (3, [.ref o_weights, .ref o_tape, .int o_length, .int o_spent, .ref h_b, .int o_many, .int o_at, .int o_isOut, .ref o_row, .int o_values, .int o_failures, .int o_works])), (h_b, .inl (cI, 256, .inl vb))] (S := Int32 × Int32) (fun u => [(h_o, .inr (3, [.ref o_weights, .ref o_tape, .int o_length, .int o_spent, .ref h_b, .int o_many, .int u.1, .int u.2, .ref o_row, .int o_values, .int o_failures, .int o_works])), (h_b, .inl (cI, 256, .inl vb))]) (fun r u => post r u.1 u.2) := by
  rw [wp_M_coin] at hw
  refine gMi.of (by decide) (Nat.le_of_ble_eq_true rfl) (fun p e s m args below meth c A Q ls hx hb hml hown hts hN hK hA hP hD hret hl => ?_)
  have fx : CallFix p m c b_M_coin 6 s args gG "TapeCounterModel" := ⟨hx, hb, hml, hown, hts⟩
  have hl : lv_has ls 6 [(0, .ref h_o), (1, .int x1), (2, .int x2)] := hl
  have hS : va_S A s.heap s.heap [] := va_S.rf
  refine lv_iload_n hx hb d_M_coin_0 rfl (lv_at hl 1 rfl) ?_
  refine lv_istore_n (lv' := [(3, .int x1), (0, .ref h_o), (1, .int x1), (2, .int x2)]) hx hb d_M_coin_1 rfl hl (by decide) rfl (fun ls hl => ?_)
  obtain ⟨n_2, hw⟩ := hw
  have k_2 : ∀ (n_2 : Nat) (o_at : Int32) (o_isOut : Int32) (x3 : Int32), gL3 (wpF_M_coin_2 post o_length o_spent o_many o_values o_failures o_works vb x2) n_2 o_at o_isOut x3 → ∀ (H : Heap) (locs : List Loc) (ls : Array Slot), va_P D gCl [(h_o, .inr (3, [.ref o_weights, .ref o_tape, .int o_length, .int o_spent, .ref h_b, .int o_many, .int o_at, .int o_isOut, .ref o_row, .int o_values, .int o_failures, .int o_works])), (h_b, .inl (cI, 256, .inl vb))] H → va_D A [(h_o, .inr (3, [.ref o_weights, .ref o_tape, .int o_length, .int o_spent, .ref h_b, .int o_many, .int o_at, .int o_isOut, .ref o_row, .int o_values, .int o_failures, .int o_works])), (h_b, .inl (cI, 256, .inl vb))] → va_S A s.heap H locs → lv_has ls 6 [(3, .int x3), (0, .ref h_o), (2, .int x2)] → W p l e rm_M_coin s m args below meth c H locs 0 0 Q (F0 m 2 ls []) := by
    clear hw hP hD hS hl
    intro n_2
    induction n_2 with
    | zero => exact fun _ _ _ h => h.elim
    | succ n_2 ih_2 =>
      intro o_at o_isOut x3 hw H locs ls hP hD hS hl
      have hw : wpF_M_coin_2 post o_length o_spent o_many o_values o_failures o_works vb x2 (gL3 (wpF_M_coin_2 post o_length o_spent o_many o_values o_failures o_works vb x2) n_2) o_at o_isOut x3 := hw
      rw [wpF_M_coin_2] at hw
      refine lv_iload_n hx hb d_M_coin_2 rfl (lv_at hl 0 rfl) ?_
      refine lv_if_le (tgt := 76) hx hb d_M_coin_3 (by decide) (fun c3 => ?_) (fun c3 => ?_)
      · have hw := hw.1 c3
        refine lv_iload_n hx hb d_M_coin_76 rfl (lv_at hl 0 rfl) ?_
        refine lv_if_ne (tgt := 84) hx hb d_M_coin_77 (by decide) (fun c77 => ?_) (fun c77 => ?_)
        · have hw := hw.1 c77
          refine lv_iconst (v := (nI 1)) hx hb d_M_coin_84 (by decide) ?_
          exact hret _ _ _ (o_at, o_isOut) _ _ hw rfl hP hD hS d_M_coin_85
        · have hw := hw.2 c77
          refine lv_iconst (v := (nI 0)) hx hb d_M_coin_80 (by decide) ?_
          refine lv_goto (tgt := 85) hx hb d_M_coin_81 (by decide) ?_
          exact hret _ _ _ (o_at, o_isOut) _ _ hw rfl hP hD hS d_M_coin_85
      · have hw := hw.2 c3
        refine lv_iload_n hx hb d_M_coin_6 rfl (lv_at hl 0 rfl) ?_
        refine lv_iload_n hx hb d_M_coin_7 rfl (lv_at hl 2 rfl) ?_
        refine lv_icmp_ge (tgt := 76) hx hb d_M_coin_8 (by decide) (fun c8 => ?_) (fun c8 => ?_)
        · have hw := hw.1 c8
          refine lv_iload_n hx hb d_M_coin_76 rfl (lv_at hl 0 rfl) ?_
          refine lv_if_ne (tgt := 84) hx hb d_M_coin_77 (by decide) (fun c77 => ?_) (fun c77 => ?_)
          · have hw := hw.1 c77
            refine lv_iconst (v := (nI 1)) hx hb d_M_coin_84 (by decide) ?_
            exact hret _ _ _ (o_at, o_isOut) _ _ hw rfl hP hD hS d_M_coin_85
          · have hw := hw.2 c77
            refine lv_iconst (v := (nI 0)) hx hb d_M_coin_80 (by decide) ?_
            refine lv_goto (tgt := 85) hx hb d_M_coin_81 (by decide) ?_
            exact hret _ _ _ (o_at, o_isOut) _ _ hw rfl hP hD hS d_M_coin_85
        · have hw := hw.2 c8
          refine lv_aload_n hx hb d_M_coin_11 rfl (lv_at hl 1 rfl) ?_
          refine gGet fx hK hP 0 rfl inM rfl (k := 7) (by decide) w_231 rfl d_M_coin_12 ?_
          refine lv_if_ne (tgt := 76) hx hb d_M_coin_15 (by decide) (fun c15 => ?_) (fun c15 => ?_)
          · have hw := hw.1 c15
            refine lv_iload_n hx hb d_M_coin_76 rfl (lv_at hl 0 rfl) ?_
            refine lv_if_ne (tgt := 84) hx hb d_M_coin_77 (by decide) (fun c77 => ?_) (fun c77 => ?_)
            · have hw := hw.1 c77
              refine lv_iconst (v := (nI 1)) hx hb d_M_coin_84 (by decide) ?_
              exact hret _ _ _ (o_at, o_isOut) _ _ hw rfl hP hD hS d_M_coin_85
            · have hw := hw.2 c77
              refine lv_iconst (v := (nI 0)) hx hb d_M_coin_80 (by decide) ?_
              refine lv_goto (tgt := 85) hx hb d_M_coin_81 (by decide) ?_
              exact hret _ _ _ (o_at, o_isOut) _ _ hw rfl hP hD hS d_M_coin_85
          · have hw := hw.2 c15
            refine lv_aload_n hx hb d_M_coin_18 rfl (lv_at hl 1 rfl) ?_
            refine g_cVi (wr := []) fx (c_M_bit l D cI h_o h_b o_weights o_tape o_row o_length o_spent o_many o_at o_isOut o_values o_failures o_works vb _ hw) mf_M_bit w_298 ⟨rfl, rfl⟩ ⟨Nat.le_of_ble_eq_true rfl, Nat.le_of_ble_eq_true rfl⟩ hN hK hA hP hD hS [0, 1] [] rfl rfl rfl rfl (by decide) 0 rfl rfl rfl rfl hl.1 (Nat.le_of_ble_eq_true rfl) d_M_coin_19 ⟨Nat.zero_le _, Nat.zero_le _⟩ (fun r_1 u H locs hw hP hD hS => ?_)
            obtain ⟨oat_2, oisOut_3⟩ := u
            try dsimp only at hw
            have hP : va_P D gCl [(h_o, .inr (3, [.ref o_weights, .ref o_tape, .int o_length, .int o_spent, .ref h_b, .int o_many, .int oat_2, .int oisOut_3, .ref o_row, .int o_values, .int o_failures, .int o_works])), (h_b, .inl (cI, 256, .inl vb))] H := hP
            have hD : va_D A [(h_o, .inr (3, [.ref o_weights, .ref o_tape, .int o_length, .int o_spent, .ref h_b, .int o_many, .int oat_2, .int oisOut_3, .ref o_row, .int o_values, .int o_failures, .int o_works])), (h_b, .inl (cI, 256, .inl vb))] := hD
            refine lv_istore (lv' := [(4, .int r_1), (3, .int x3), (0, .ref h_o), (2, .int x2)]) hx hb d_M_coin_22 hl (by decide) rfl (fun ls hl => ?_)
            refine lv_iconst (v := (nI 2)) hx hb d_M_coin_24 (by decide) ?_
            refine lv_iload_n hx hb d_M_coin_25 rfl (lv_at hl 1 rfl) ?_
            refine lv_imul hx hb d_M_coin_26 ?_
            refine lv_istore_n (lv' := [(3, .int ((nI 2) * x3)), (4, .int r_1), (0, .ref h_o), (2, .int x2)]) hx hb d_M_coin_27 rfl hl (by decide) rfl (fun ls hl => ?_)
            refine lv_iload_n hx hb d_M_coin_28 rfl (lv_at hl 0 rfl) ?_
            refine lv_iload_n hx hb d_M_coin_29 rfl (lv_at hl 3 rfl) ?_
            refine lv_icmp_lt (tgt := 37) hx hb d_M_coin_30 (by decide) (fun c30 => ?_) (fun c30 => ?_)
            · have hw := hw.1 c30
              refine lv_iconst (v := (nI 0)) hx hb d_M_coin_37 (by decide) ?_
              refine lv_istore (lv' := [(5, .int (nI 0)), (3, .int ((nI 2) * x3)), (4, .int r_1), (0, .ref h_o), (2, .int x2)]) hx hb d_M_coin_38 hl (by decide) rfl (fun ls hl => ?_)
              refine lv_iload_n hx hb d_M_coin_40 rfl (lv_at hl 1 rfl) ?_
              refine lv_iload_n hx hb d_M_coin_41 rfl (lv_at hl 4 rfl) ?_
              refine lv_icmp_lt (tgt := 51) hx hb d_M_coin_42 (by decide) (fun c42 => ?_) (fun c42 => ?_)
              · have hw := hw.1 c42
                refine lv_iload_n hx hb d_M_coin_51 rfl (lv_at hl 1 rfl) ?_
                refine lv_istore_n (lv' := [(3, .int ((nI 2) * x3)), (5, .int (nI 0)), (4, .int r_1), (0, .ref h_o), (2, .int x2)]) hx hb d_M_coin_52 rfl hl (by decide) rfl (fun ls hl => ?_)
                refine lv_iload hx hb d_M_coin_53 (lv_at hl 2 rfl) ?_
                refine lv_iload hx hb d_M_coin_55 (lv_at hl 1 rfl) ?_
                refine lv_icmp_eq (tgt := 73) hx hb d_M_coin_57 (by decide) (fun c57 => ?_) (fun c57 => ?_)
                · have hw := hw.1 c57
                  refine lv_goto (tgt := 2) hx hb d_M_coin_73 (by decide) ?_
                  exact ih_2 _ _ _ hw _ _ _ hP hD hS (lv_sub hl [0, 3, 4] rfl)
                · have hw := hw.2 c57
                  refine lv_iload hx hb d_M_coin_60 (lv_at hl 2 rfl) ?_
                  refine lv_iload hx hb d_M_coin_62 (lv_at hl 1 rfl) ?_
                  refine lv_icmp_ge (tgt := 71) hx hb d_M_coin_64 (by decide) (fun c64 => ?_) (fun c64 => ?_)
                  · have hw := hw.1 c64
                    refine lv_iconst (v := (nI 0)) hx hb d_M_coin_71 (by decide) ?_
                    exact hret _ _ _ (oat_2, oisOut_3) _ _ hw rfl hP hD hS d_M_coin_72
                  · have hw := hw.2 c64
                    refine lv_iconst (v := (nI 1)) hx hb d_M_coin_67 (by decide) ?_
                    refine lv_goto (tgt := 72) hx hb d_M_coin_68 (by decide) ?_
                    exact hret _ _ _ (oat_2, oisOut_3) _ _ hw rfl hP hD hS d_M_coin_72
              · have hw := hw.2 c42
                refine lv_iload_n hx hb d_M_coin_45 rfl (lv_at hl 1 rfl) ?_
                refine lv_iload_n hx hb d_M_coin_46 rfl (lv_at hl 4 rfl) ?_
                refine lv_isub hx hb d_M_coin_47 ?_
                refine lv_goto (tgt := 52) hx hb d_M_coin_48 (by decide) ?_
                refine lv_istore_n (lv' := [(3, .int (((nI 2) * x3) - x2)), (5, .int (nI 0)), (4, .int r_1), (0, .ref h_o), (2, .int x2)]) hx hb d_M_coin_52 rfl hl (by decide) rfl (fun ls hl => ?_)
                refine lv_iload hx hb d_M_coin_53 (lv_at hl 2 rfl) ?_
                refine lv_iload hx hb d_M_coin_55 (lv_at hl 1 rfl) ?_
                refine lv_icmp_eq (tgt := 73) hx hb d_M_coin_57 (by decide) (fun c57 => ?_) (fun c57 => ?_)
                · have hw := hw.1 c57
                  refine lv_goto (tgt := 2) hx hb d_M_coin_73 (by decide) ?_
                  exact ih_2 _ _ _ hw _ _ _ hP hD hS (lv_sub hl [0, 3, 4] rfl)
                · have hw := hw.2 c57
                  refine lv_iload hx hb d_M_coin_60 (lv_at hl 2 rfl) ?_
                  refine lv_iload hx hb d_M_coin_62 (lv_at hl 1 rfl) ?_
                  refine lv_icmp_ge (tgt := 71) hx hb d_M_coin_64 (by decide) (fun c64 => ?_) (fun c64 => ?_)
                  · have hw := hw.1 c64
                    refine lv_iconst (v := (nI 0)) hx hb d_M_coin_71 (by decide) ?_
                    exact hret _ _ _ (oat_2, oisOut_3) _ _ hw rfl hP hD hS d_M_coin_72
                  · have hw := hw.2 c64
                    refine lv_iconst (v := (nI 1)) hx hb d_M_coin_67 (by decide) ?_
                    refine lv_goto (tgt := 72) hx hb d_M_coin_68 (by decide) ?_
                    exact hret _ _ _ (oat_2, oisOut_3) _ _ hw rfl hP hD hS d_M_coin_72
            · have hw := hw.2 c30
              refine lv_iconst (v := (nI 1)) hx hb d_M_coin_33 (by decide) ?_
              refine lv_goto (tgt := 38) hx hb d_M_coin_34 (by decide) ?_
              refine lv_istore (lv' := [(5, .int (nI 1)), (3, .int ((nI 2) * x3)), (4, .int r_1), (0, .ref h_o), (2, .int x2)]) hx hb d_M_coin_38 hl (by decide) rfl (fun ls hl => ?_)
              refine lv_iload_n hx hb d_M_coin_40 rfl (lv_at hl 1 rfl) ?_
              refine lv_iload_n hx hb d_M_coin_41 rfl (lv_at hl 4 rfl) ?_
              refine lv_icmp_lt (tgt := 51) hx hb d_M_coin_42 (by decide) (fun c42 => ?_) (fun c42 => ?_)
              · have hw := hw.1 c42
                refine lv_iload_n hx hb d_M_coin_51 rfl (lv_at hl 1 rfl) ?_
                refine lv_istore_n (lv' := [(3, .int ((nI 2) * x3)), (5, .int (nI 1)), (4, .int r_1), (0, .ref h_o), (2, .int x2)]) hx hb d_M_coin_52 rfl hl (by decide) rfl (fun ls hl => ?_)
                refine lv_iload hx hb d_M_coin_53 (lv_at hl 2 rfl) ?_
                refine lv_iload hx hb d_M_coin_55 (lv_at hl 1 rfl) ?_
                refine lv_icmp_eq (tgt := 73) hx hb d_M_coin_57 (by decide) (fun c57 => ?_) (fun c57 => ?_)
                · have hw := hw.1 c57
                  refine lv_goto (tgt := 2) hx hb d_M_coin_73 (by decide) ?_
                  exact ih_2 _ _ _ hw _ _ _ hP hD hS (lv_sub hl [0, 3, 4] rfl)
                · have hw := hw.2 c57
                  refine lv_iload hx hb d_M_coin_60 (lv_at hl 2 rfl) ?_
                  refine lv_iload hx hb d_M_coin_62 (lv_at hl 1 rfl) ?_
                  refine lv_icmp_ge (tgt := 71) hx hb d_M_coin_64 (by decide) (fun c64 => ?_) (fun c64 => ?_)
                  · have hw := hw.1 c64
                    refine lv_iconst (v := (nI 0)) hx hb d_M_coin_71 (by decide) ?_
                    exact hret _ _ _ (oat_2, oisOut_3) _ _ hw rfl hP hD hS d_M_coin_72
                  · have hw := hw.2 c64
                    refine lv_iconst (v := (nI 1)) hx hb d_M_coin_67 (by decide) ?_
                    refine lv_goto (tgt := 72) hx hb d_M_coin_68 (by decide) ?_
                    exact hret _ _ _ (oat_2, oisOut_3) _ _ hw rfl hP hD hS d_M_coin_72
              · have hw := hw.2 c42
                refine lv_iload_n hx hb d_M_coin_45 rfl (lv_at hl 1 rfl) ?_
                refine lv_iload_n hx hb d_M_coin_46 rfl (lv_at hl 4 rfl) ?_
                refine lv_isub hx hb d_M_coin_47 ?_
                refine lv_goto (tgt := 52) hx hb d_M_coin_48 (by decide) ?_
                refine lv_istore_n (lv' := [(3, .int (((nI 2) * x3) - x2)), (5, .int (nI 1)), (4, .int r_1), (0, .ref h_o), (2, .int x2)]) hx hb d_M_coin_52 rfl hl (by decide) rfl (fun ls hl => ?_)
                refine lv_iload hx hb d_M_coin_53 (lv_at hl 2 rfl) ?_
                refine lv_iload hx hb d_M_coin_55 (lv_at hl 1 rfl) ?_
                refine lv_icmp_eq (tgt := 73) hx hb d_M_coin_57 (by decide) (fun c57 => ?_) (fun c57 => ?_)
                · have hw := hw.1 c57
                  refine lv_goto (tgt := 2) hx hb d_M_coin_73 (by decide) ?_
                  exact ih_2 _ _ _ hw _ _ _ hP hD hS (lv_sub hl [0, 3, 4] rfl)
                · have hw := hw.2 c57
                  refine lv_iload hx hb d_M_coin_60 (lv_at hl 2 rfl) ?_
                  refine lv_iload hx hb d_M_coin_62 (lv_at hl 1 rfl) ?_
                  refine lv_icmp_ge (tgt := 71) hx hb d_M_coin_64 (by decide) (fun c64 => ?_) (fun c64 => ?_)
                  · have hw := hw.1 c64
                    refine lv_iconst (v := (nI 0)) hx hb d_M_coin_71 (by decide) ?_
                    exact hret _ _ _ (oat_2, oisOut_3) _ _ hw rfl hP hD hS d_M_coin_72
                  · have hw := hw.2 c64
                    refine lv_iconst (v := (nI 1)) hx hb d_M_coin_67 (by decide) ?_
                    refine lv_goto (tgt := 72) hx hb d_M_coin_68 (by decide) ?_
                    exact hret _ _ _ (oat_2, oisOut_3) _ _ hw rfl hP hD hS d_M_coin_72
  exact k_2 n_2 _ _ _ hw _ _ _ hP hD hS (lv_sub hl [0, 1, 3] rfl)
def wpF_M_choice_8 (post : Int32 → Int32 → Int32 → Prop) (o_length : Int32) (o_spent : Int32) (o_many : Int32) (o_values : Int32) (o_failures : Int32) (o_works : Int32) (vb : Nat → Int32) (x1 : Int32) (x2 : Int32) (K_8 : Int32 → Int32 → Int32 → Int32 → Int32 → Prop) (o_at : Int32) (o_isOut : Int32) (x3 : Int32) (x4 : Int32) (x5 : Int32) : Prop :=
  ((x1 ≤ x5 → post x4 o_at o_isOut) ∧ (¬ x1 ≤ x5 → ((¬ o_isOut = 0 → post x4 o_at o_isOut) ∧ (o_isOut = 0 → wp_M_coin (fun r_1 oat_2 oisOut_3 => ((¬ r_1 = (nI 1) → K_8 oat_2 oisOut_3 x3 x4 (x5 + (nI 1))) ∧ (r_1 = (nI 1) → K_8 oat_2 oisOut_3 (x3 + (nI 1)) (x4 + ((nI 1) <<< (x5 &&& 31))) (x5 + (nI 1))))) o_length o_spent o_many o_at o_isOut o_values o_failures o_works vb (x2 - x3) (x1 - x5)))))
def wp_M_choice (post : Int32 → Int32 → Int32 → Prop) (o_length : Int32) (o_spent : Int32) (o_many : Int32) (o_at : Int32) (o_isOut : Int32) (o_values : Int32) (o_failures : Int32) (o_works : Int32) (vb : Nat → Int32) (x1 : Int32) (x2 : Int32) : Prop :=
  (∃ n, gL5 (wpF_M_choice_8 post o_length o_spent o_many o_values o_failures o_works vb x1 x2) n o_at o_isOut (nI 0) (nI 0) (nI 0))
abbrev rm_M_choice : Room := { frames := 2, cells := 0, slots := 0, locals := 45 }
theorem mf_M_choice : gFV y_M_choice b_M_choice 6 (some .int) 2 := ⟨w_317, w_4, ⟨by decide, by decide, by decide +kernel⟩, w_316, ws_1_14⟩
set_option maxHeartbeats 4000000 in
set_option maxRecDepth 100000 in
theorem c_M_choice (l : Launch) (D : va_G) (cI : ClassId) (h_o : Nat) (h_b : Nat) (o_weights : Nat) (o_tape : Nat) (o_row : Nat) (o_length : Int32) (o_spent : Int32) (o_many : Int32) (o_at : Int32) (o_isOut : Int32) (o_values : Int32) (o_failures : Int32) (o_works : Int32) (vb : Nat → Int32) (x1 : Int32) (x2 : Int32) (post : Int32 → Int32 → Int32 → Prop) (hw : wp_M_choice post o_length o_spent o_many o_at o_isOut o_values o_failures o_works vb x1 x2) :
    gMi l D [(cI, .int)] y_M_choice b_M_choice 6 .int rm_M_choice [.ref h_o, .int x1, .int x2] [(h_o, .inr (3, [.ref o_weights, .ref o_tape, .int o_length, .int o_spent, .ref h_b, .int o_many, .int o_at, .int o_isOut, .ref o_row, .int o_values, .int o_failures, .int o_works])), (h_b, .inl (cI, 256, .inl vb))] (S := Int32 × Int32) (fun u => [(h_o, .inr (3, [.ref o_weights, .ref o_tape, .int o_length, .int o_spent, .ref h_b, .int o_many, .int u.1, .int u.2, .ref o_row, .int o_values, .int o_failures, .int o_works])), (h_b, .inl (cI, 256, .inl vb))]) (fun r u => post r u.1 u.2) := by
  rw [wp_M_choice] at hw
  refine gMi.of (by decide) (Nat.le_of_ble_eq_true rfl) (fun p e s m args below meth c A Q ls hx hb hml hown hts hN hK hA hP hD hret hl => ?_)
  have fx : CallFix p m c b_M_choice 6 s args gG "TapeCounterModel" := ⟨hx, hb, hml, hown, hts⟩
  have hl : lv_has ls 6 [(0, .ref h_o), (1, .int x1), (2, .int x2)] := hl
  have hS : va_S A s.heap s.heap [] := va_S.rf
  refine lv_iconst (v := (nI 0)) hx hb d_M_choice_0 (by decide) ?_
  refine lv_istore_n (lv' := [(3, .int (nI 0)), (0, .ref h_o), (1, .int x1), (2, .int x2)]) hx hb d_M_choice_1 rfl hl (by decide) rfl (fun ls hl => ?_)
  refine lv_iconst (v := (nI 0)) hx hb d_M_choice_2 (by decide) ?_
  refine lv_istore (lv' := [(4, .int (nI 0)), (3, .int (nI 0)), (0, .ref h_o), (1, .int x1), (2, .int x2)]) hx hb d_M_choice_3 hl (by decide) rfl (fun ls hl => ?_)
  refine lv_iconst (v := (nI 0)) hx hb d_M_choice_5 (by decide) ?_
  refine lv_istore (lv' := [(5, .int (nI 0)), (4, .int (nI 0)), (3, .int (nI 0)), (0, .ref h_o), (1, .int x1), (2, .int x2)]) hx hb d_M_choice_6 hl (by decide) rfl (fun ls hl => ?_)
  obtain ⟨n_8, hw⟩ := hw
  have k_8 : ∀ (n_8 : Nat) (o_at : Int32) (o_isOut : Int32) (x3 : Int32) (x4 : Int32) (x5 : Int32), gL5 (wpF_M_choice_8 post o_length o_spent o_many o_values o_failures o_works vb x1 x2) n_8 o_at o_isOut x3 x4 x5 → ∀ (H : Heap) (locs : List Loc) (ls : Array Slot), va_P D gCl [(h_o, .inr (3, [.ref o_weights, .ref o_tape, .int o_length, .int o_spent, .ref h_b, .int o_many, .int o_at, .int o_isOut, .ref o_row, .int o_values, .int o_failures, .int o_works])), (h_b, .inl (cI, 256, .inl vb))] H → va_D A [(h_o, .inr (3, [.ref o_weights, .ref o_tape, .int o_length, .int o_spent, .ref h_b, .int o_many, .int o_at, .int o_isOut, .ref o_row, .int o_values, .int o_failures, .int o_works])), (h_b, .inl (cI, 256, .inl vb))] → va_S A s.heap H locs → lv_has ls 6 [(5, .int x5), (4, .int x4), (3, .int x3), (0, .ref h_o), (1, .int x1), (2, .int x2)] → W p l e rm_M_choice s m args below meth c H locs 0 0 Q (F0 m 8 ls []) := by
    clear hw hP hD hS hl
    intro n_8
    induction n_8 with
    | zero => exact fun _ _ _ _ _ h => h.elim
    | succ n_8 ih_8 =>
      intro o_at o_isOut x3 x4 x5 hw H locs ls hP hD hS hl
      have hw : wpF_M_choice_8 post o_length o_spent o_many o_values o_failures o_works vb x1 x2 (gL5 (wpF_M_choice_8 post o_length o_spent o_many o_values o_failures o_works vb x1 x2) n_8) o_at o_isOut x3 x4 x5 := hw
      rw [wpF_M_choice_8] at hw
      refine lv_iload hx hb d_M_choice_8 (lv_at hl 0 rfl) ?_
      refine lv_iload_n hx hb d_M_choice_10 rfl (lv_at hl 4 rfl) ?_
      refine lv_icmp_ge (tgt := 54) hx hb d_M_choice_11 (by decide) (fun c11 => ?_) (fun c11 => ?_)
      · have hw := hw.1 c11
        refine lv_iload hx hb d_M_choice_54 (lv_at hl 1 rfl) ?_
        exact hret _ _ _ (o_at, o_isOut) _ _ hw rfl hP hD hS d_M_choice_56
      · have hw := hw.2 c11
        refine lv_aload_n hx hb d_M_choice_14 rfl (lv_at hl 3 rfl) ?_
        refine gGet fx hK hP 0 rfl inM rfl (k := 7) (by decide) w_231 rfl d_M_choice_15 ?_
        refine lv_if_ne (tgt := 54) hx hb d_M_choice_18 (by decide) (fun c18 => ?_) (fun c18 => ?_)
        · have hw := hw.1 c18
          refine lv_iload hx hb d_M_choice_54 (lv_at hl 1 rfl) ?_
          exact hret _ _ _ (o_at, o_isOut) _ _ hw rfl hP hD hS d_M_choice_56
        · have hw := hw.2 c18
          refine lv_aload_n hx hb d_M_choice_21 rfl (lv_at hl 3 rfl) ?_
          refine lv_iload_n hx hb d_M_choice_22 rfl (lv_at hl 5 rfl) ?_
          refine lv_iload_n hx hb d_M_choice_23 rfl (lv_at hl 2 rfl) ?_
          refine lv_isub hx hb d_M_choice_24 ?_
          refine lv_iload_n hx hb d_M_choice_25 rfl (lv_at hl 4 rfl) ?_
          refine lv_iload hx hb d_M_choice_26 (lv_at hl 0 rfl) ?_
          refine lv_isub hx hb d_M_choice_28 ?_
          refine g_cVi (wr := []) fx (c_M_coin l D cI h_o h_b o_weights o_tape o_row o_length o_spent o_many o_at o_isOut o_values o_failures o_works vb (x2 - x3) (x1 - x5) _ hw) mf_M_coin w_306 ⟨rfl, rfl⟩ ⟨Nat.le_of_ble_eq_true rfl, Nat.le_of_ble_eq_true rfl⟩ hN hK hA hP hD hS [0, 1] [] rfl rfl rfl rfl (by decide) 0 rfl rfl rfl rfl hl.1 (Nat.le_of_ble_eq_true rfl) d_M_choice_29 ⟨Nat.zero_le _, Nat.zero_le _⟩ (fun r_1 u H locs hw hP hD hS => ?_)
          obtain ⟨oat_2, oisOut_3⟩ := u
          try dsimp only at hw
          have hP : va_P D gCl [(h_o, .inr (3, [.ref o_weights, .ref o_tape, .int o_length, .int o_spent, .ref h_b, .int o_many, .int oat_2, .int oisOut_3, .ref o_row, .int o_values, .int o_failures, .int o_works])), (h_b, .inl (cI, 256, .inl vb))] H := hP
          have hD : va_D A [(h_o, .inr (3, [.ref o_weights, .ref o_tape, .int o_length, .int o_spent, .ref h_b, .int o_many, .int oat_2, .int oisOut_3, .ref o_row, .int o_values, .int o_failures, .int o_works])), (h_b, .inl (cI, 256, .inl vb))] := hD
          refine lv_iconst (v := (nI 1)) hx hb d_M_choice_32 (by decide) ?_
          refine lv_icmp_ne (tgt := 48) hx hb d_M_choice_33 (by decide) (fun c33 => ?_) (fun c33 => ?_)
          · have hw := hw.1 c33
            refine lv_iinc (v := (x5 + (nI 1))) (lv' := [(5, .int (x5 + (nI 1))), (4, .int x4), (3, .int x3), (0, .ref h_o), (1, .int x1), (2, .int x2)]) hx hb d_M_choice_48 hl (k := 0) rfl rfl (by decide) rfl (fun ls hl => ?_)
            refine lv_goto (tgt := 8) hx hb d_M_choice_51 (by decide) ?_
            exact ih_8 _ _ _ _ _ hw _ _ _ hP hD hS (lv_sub hl [0, 1, 2, 3, 4, 5] rfl)
          · have hw := hw.2 c33
            refine lv_iinc (v := (x3 + (nI 1))) (lv' := [(3, .int (x3 + (nI 1))), (5, .int x5), (4, .int x4), (0, .ref h_o), (1, .int x1), (2, .int x2)]) hx hb d_M_choice_36 hl (k := 2) rfl rfl (by decide) rfl (fun ls hl => ?_)
            refine lv_iload hx hb d_M_choice_39 (lv_at hl 2 rfl) ?_
            refine lv_iconst (v := (nI 1)) hx hb d_M_choice_41 (by decide) ?_
            refine lv_iload hx hb d_M_choice_42 (lv_at hl 1 rfl) ?_
            refine lv_ishl hx hb d_M_choice_44 ?_
            refine lv_iadd hx hb d_M_choice_45 ?_
            refine lv_istore (lv' := [(4, .int (x4 + ((nI 1) <<< (x5 &&& 31)))), (3, .int (x3 + (nI 1))), (5, .int x5), (0, .ref h_o), (1, .int x1), (2, .int x2)]) hx hb d_M_choice_46 hl (by decide) rfl (fun ls hl => ?_)
            refine lv_iinc (v := (x5 + (nI 1))) (lv' := [(5, .int (x5 + (nI 1))), (4, .int (x4 + ((nI 1) <<< (x5 &&& 31)))), (3, .int (x3 + (nI 1))), (0, .ref h_o), (1, .int x1), (2, .int x2)]) hx hb d_M_choice_48 hl (k := 2) rfl rfl (by decide) rfl (fun ls hl => ?_)
            refine lv_goto (tgt := 8) hx hb d_M_choice_51 (by decide) ?_
            exact ih_8 _ _ _ _ _ hw _ _ _ hP hD hS (lv_sub hl [0, 1, 2, 3, 4, 5] rfl)
  exact k_8 n_8 _ _ _ _ _ hw _ _ _ hP hD hS (lv_sub hl [0, 1, 2, 3, 4, 5] rfl)
end
section
def wpF_M_order_104 (K_88 : Int32 → Int32 → Prop) (vr : Nat → Int32) (x1 : Int32) (x2 : Int32) (x3 : Int32) (K_104 : Int32 → Int32 → Int32 → Prop) (x4 : Int32) (x5 : Int32) (x6 : Int32) : Prop :=
  ((x1 ≤ x6 → K_88 (x2 + (x4 * x5)) (x3 + (nI 1))) ∧ (¬ x1 ≤ x6 → (vp_in x6 4 ∧ (vp_in x3 4 ∧ (((vr (x3).toNatClampNeg) ≤ (vr (x6).toNatClampNeg) → K_104 (x4 + (nI 0)) (x5 * (x6 - x3)) (x6 + (nI 1))) ∧ (¬ (vr (x3).toNatClampNeg) ≤ (vr (x6).toNatClampNeg) → K_104 (x4 + (nI 1)) (x5 * (x6 - x3)) (x6 + (nI 1))))))))
def wpF_M_order_88 (post : Int32 → Int32 → Int32 → (Nat → Int32) → Prop) (o_at : Int32) (o_isOut : Int32) (vr : Nat → Int32) (x1 : Int32) (K_88 : Int32 → Int32 → Prop) (x2 : Int32) (x3 : Int32) : Prop :=
  ((x1 ≤ x3 → post x2 o_at o_isOut vr) ∧ (¬ x1 ≤ x3 → (∃ n, gL3 (wpF_M_order_104 K_88 vr x1 x2 x3) n (nI 0) (nI 1) (x3 + (nI 1)))))
def wpF_M_order_24 (post : Int32 → Int32 → Int32 → (Nat → Int32) → Prop) (o_length : Int32) (o_spent : Int32) (o_many : Int32) (o_values : Int32) (o_failures : Int32) (o_works : Int32) (vb : Nat → Int32) (x1 : Int32) (K_24 : Int32 → Int32 → (Nat → Int32) → Int32 → Prop) (o_at : Int32) (o_isOut : Int32) (vr : Nat → Int32) (x2 : Int32) : Prop :=
  ((x2 ≤ 0 → (∃ n, gL2 (wpF_M_order_88 post o_at o_isOut vr x1) n (nI 0) (nI 0))) ∧ (¬ x2 ≤ 0 → ((¬ o_isOut = 0 → (∃ n, gL2 (wpF_M_order_88 post o_at o_isOut vr x1) n (nI 0) (nI 0))) ∧ (o_isOut = 0 → wp_M_plain (fun r_1 oat_2 oisOut_3 => ((¬ oisOut_3 = 0 → K_24 oat_2 oisOut_3 vr (x2 + (-1))) ∧ (oisOut_3 = 0 → (vp_in x2 4 ∧ (vp_in r_1 4 ∧ (vp_in x2 4 ∧ (vp_in r_1 4 ∧ K_24 oat_2 oisOut_3 (upd (upd vr (x2).toNatClampNeg (vr (r_1).toNatClampNeg)) (r_1).toNatClampNeg (vr (x2).toNatClampNeg)) (x2 + (-1))))))))) o_length o_spent o_many o_at o_isOut o_values o_failures o_works vb (x2 + (nI 1))))))
def wpF_M_order_2 (post : Int32 → Int32 → Int32 → (Nat → Int32) → Prop) (o_length : Int32) (o_spent : Int32) (o_many : Int32) (o_at : Int32) (o_isOut : Int32) (o_values : Int32) (o_failures : Int32) (o_works : Int32) (vb : Nat → Int32) (x1 : Int32) (K_2 : (Nat → Int32) → Int32 → Prop) (vr : Nat → Int32) (x2 : Int32) : Prop :=
  ((x1 ≤ x2 → (∃ n, gL4 (wpF_M_order_24 post o_length o_spent o_many o_values o_failures o_works vb x1) n o_at o_isOut vr (x1 - (nI 1)))) ∧ (¬ x1 ≤ x2 → (vp_in x2 4 ∧ K_2 (upd vr (x2).toNatClampNeg x2) (x2 + (nI 1)))))
def wp_M_order (post : Int32 → Int32 → Int32 → (Nat → Int32) → Prop) (o_length : Int32) (o_spent : Int32) (o_many : Int32) (o_at : Int32) (o_isOut : Int32) (o_values : Int32) (o_failures : Int32) (o_works : Int32) (vb : Nat → Int32) (vr : Nat → Int32) (x1 : Int32) : Prop :=
  (∃ n, gL2 (wpF_M_order_2 post o_length o_spent o_many o_at o_isOut o_values o_failures o_works vb x1) n vr (nI 0))
abbrev rm_M_order : Room := { frames := 2, cells := 0, slots := 0, locals := 43 }
theorem mf_M_order : gFV y_M_order b_M_order 7 (some .int) 1 := ⟨w_313, w_4, ⟨by decide, by decide, by decide +kernel⟩, w_312, ws_1_13⟩
set_option maxHeartbeats 4000000 in
set_option maxRecDepth 100000 in
theorem c_M_order (l : Launch) (D : va_G) (cI : ClassId) (h_o : Nat) (h_b : Nat) (h_r : Nat) (o_weights : Nat) (o_tape : Nat) (o_length : Int32) (o_spent : Int32) (o_many : Int32) (o_at : Int32) (o_isOut : Int32) (o_values : Int32) (o_failures : Int32) (o_works : Int32) (vb : Nat → Int32) (vr : Nat → Int32) (x1 : Int32) (post : Int32 → Int32 → Int32 → (Nat → Int32) → Prop) (hw : wp_M_order post o_length o_spent o_many o_at o_isOut o_values o_failures o_works vb vr x1) :
    gMi l D [(cI, .int)] y_M_order b_M_order 7 .int rm_M_order [.ref h_o, .int x1] [(h_o, .inr (3, [.ref o_weights, .ref o_tape, .int o_length, .int o_spent, .ref h_b, .int o_many, .int o_at, .int o_isOut, .ref h_r, .int o_values, .int o_failures, .int o_works])), (h_b, .inl (cI, 256, .inl vb)), (h_r, .inl (cI, 4, .inl vr))] (S := Int32 × Int32 × (Nat → Int32)) (fun u => [(h_o, .inr (3, [.ref o_weights, .ref o_tape, .int o_length, .int o_spent, .ref h_b, .int o_many, .int u.1, .int u.2.1, .ref h_r, .int o_values, .int o_failures, .int o_works])), (h_b, .inl (cI, 256, .inl vb)), (h_r, .inl (cI, 4, .inl u.2.2))]) (fun r u => post r u.1 u.2.1 u.2.2) := by
  rw [wp_M_order] at hw
  refine gMi.of (by decide) (Nat.le_of_ble_eq_true rfl) (fun p e s m args below meth c A Q ls hx hb hml hown hts hN hK hA hP hD hret hl => ?_)
  have fx : CallFix p m c b_M_order 7 s args gG "TapeCounterModel" := ⟨hx, hb, hml, hown, hts⟩
  have hl : lv_has ls 7 [(0, .ref h_o), (1, .int x1)] := hl
  have hS : va_S A s.heap s.heap [] := va_S.rf
  refine lv_iconst (v := (nI 0)) hx hb d_M_order_0 (by decide) ?_
  refine lv_istore_n (lv' := [(2, .int (nI 0)), (0, .ref h_o), (1, .int x1)]) hx hb d_M_order_1 rfl hl (by decide) rfl (fun ls hl => ?_)
  obtain ⟨n_2, hw⟩ := hw
  have k_2 : ∀ (n_2 : Nat) (vr : Nat → Int32) (x2 : Int32), gL2 (wpF_M_order_2 post o_length o_spent o_many o_at o_isOut o_values o_failures o_works vb x1) n_2 vr x2 → ∀ (H : Heap) (locs : List Loc) (ls : Array Slot), va_P D gCl [(h_o, .inr (3, [.ref o_weights, .ref o_tape, .int o_length, .int o_spent, .ref h_b, .int o_many, .int o_at, .int o_isOut, .ref h_r, .int o_values, .int o_failures, .int o_works])), (h_b, .inl (cI, 256, .inl vb)), (h_r, .inl (cI, 4, .inl vr))] H → va_D A [(h_o, .inr (3, [.ref o_weights, .ref o_tape, .int o_length, .int o_spent, .ref h_b, .int o_many, .int o_at, .int o_isOut, .ref h_r, .int o_values, .int o_failures, .int o_works])), (h_b, .inl (cI, 256, .inl vb)), (h_r, .inl (cI, 4, .inl vr))] → va_S A s.heap H locs → lv_has ls 7 [(2, .int x2), (0, .ref h_o), (1, .int x1)] → W p l e rm_M_order s m args below meth c H locs 0 0 Q (F0 m 2 ls []) := by
    clear hw hP hD hS hl
    intro n_2
    induction n_2 with
    | zero => exact fun _ _ h => h.elim
    | succ n_2 ih_2 =>
      intro vr x2 hw H locs ls hP hD hS hl
      have hw : wpF_M_order_2 post o_length o_spent o_many o_at o_isOut o_values o_failures o_works vb x1 (gL2 (wpF_M_order_2 post o_length o_spent o_many o_at o_isOut o_values o_failures o_works vb x1) n_2) vr x2 := hw
      rw [wpF_M_order_2] at hw
      refine lv_iload_n hx hb d_M_order_2 rfl (lv_at hl 0 rfl) ?_
      refine lv_iload_n hx hb d_M_order_3 rfl (lv_at hl 2 rfl) ?_
      refine lv_icmp_ge (tgt := 20) hx hb d_M_order_4 (by decide) (fun c4 => ?_) (fun c4 => ?_)
      · have hw := hw.1 c4
        refine lv_iload_n hx hb d_M_order_20 rfl (lv_at hl 2 rfl) ?_
        refine lv_iconst (v := (nI 1)) hx hb d_M_order_21 (by decide) ?_
        refine lv_isub hx hb d_M_order_22 ?_
        refine lv_istore_n (lv' := [(2, .int (x1 - (nI 1))), (0, .ref h_o), (1, .int x1)]) hx hb d_M_order_23 rfl hl (by decide) rfl (fun ls hl => ?_)
        obtain ⟨n_24, hw⟩ := hw
        have k_24 : ∀ (n_24 : Nat) (o_at : Int32) (o_isOut : Int32) (vr : Nat → Int32) (x2 : Int32), gL4 (wpF_M_order_24 post o_length o_spent o_many o_values o_failures o_works vb x1) n_24 o_at o_isOut vr x2 → ∀ (H : Heap) (locs : List Loc) (ls : Array Slot), va_P D gCl [(h_o, .inr (3, [.ref o_weights, .ref o_tape, .int o_length, .int o_spent, .ref h_b, .int o_many, .int o_at, .int o_isOut, .ref h_r, .int o_values, .int o_failures, .int o_works])), (h_b, .inl (cI, 256, .inl vb)), (h_r, .inl (cI, 4, .inl vr))] H → va_D A [(h_o, .inr (3, [.ref o_weights, .ref o_tape, .int o_length, .int o_spent, .ref h_b, .int o_many, .int o_at, .int o_isOut, .ref h_r, .int o_values, .int o_failures, .int o_works])), (h_b, .inl (cI, 256, .inl vb)), (h_r, .inl (cI, 4, .inl vr))] → va_S A s.heap H locs → lv_has ls 7 [(2, .int x2), (0, .ref h_o), (1, .int x1)] → W p l e rm_M_order s m args below meth c H locs 0 0 Q (F0 m 24 ls []) := by
          clear hw hP hD hS hl
          intro n_24
          induction n_24 with
          | zero => exact fun _ _ _ _ h => h.elim
          | succ n_24 ih_24 =>
            intro o_at o_isOut vr x2 hw H locs ls hP hD hS hl
            have hw : wpF_M_order_24 post o_length o_spent o_many o_values o_failures o_works vb x1 (gL4 (wpF_M_order_24 post o_length o_spent o_many o_values o_failures o_works vb x1) n_24) o_at o_isOut vr x2 := hw
            rw [wpF_M_order_24] at hw
            refine lv_iload_n hx hb d_M_order_24 rfl (lv_at hl 0 rfl) ?_
            refine lv_if_le (tgt := 84) hx hb d_M_order_25 (by decide) (fun c25 => ?_) (fun c25 => ?_)
            · have hw := hw.1 c25
              refine lv_iconst (v := (nI 0)) hx hb d_M_order_84 (by decide) ?_
              refine lv_istore_n (lv' := [(2, .int (nI 0)), (0, .ref h_o), (1, .int x1)]) hx hb d_M_order_85 rfl hl (by decide) rfl (fun ls hl => ?_)
              refine lv_iconst (v := (nI 0)) hx hb d_M_order_86 (by decide) ?_
              refine lv_istore_n (lv' := [(3, .int (nI 0)), (2, .int (nI 0)), (0, .ref h_o), (1, .int x1)]) hx hb d_M_order_87 rfl hl (by decide) rfl (fun ls hl => ?_)
              obtain ⟨n_88, hw⟩ := hw
              have k_88 : ∀ (n_88 : Nat) (x2 : Int32) (x3 : Int32), gL2 (wpF_M_order_88 post o_at o_isOut vr x1) n_88 x2 x3 → ∀ (H : Heap) (locs : List Loc) (ls : Array Slot), va_P D gCl [(h_o, .inr (3, [.ref o_weights, .ref o_tape, .int o_length, .int o_spent, .ref h_b, .int o_many, .int o_at, .int o_isOut, .ref h_r, .int o_values, .int o_failures, .int o_works])), (h_b, .inl (cI, 256, .inl vb)), (h_r, .inl (cI, 4, .inl vr))] H → va_D A [(h_o, .inr (3, [.ref o_weights, .ref o_tape, .int o_length, .int o_spent, .ref h_b, .int o_many, .int o_at, .int o_isOut, .ref h_r, .int o_values, .int o_failures, .int o_works])), (h_b, .inl (cI, 256, .inl vb)), (h_r, .inl (cI, 4, .inl vr))] → va_S A s.heap H locs → lv_has ls 7 [(3, .int x3), (2, .int x2), (0, .ref h_o), (1, .int x1)] → W p l e rm_M_order s m args below meth c H locs 0 0 Q (F0 m 88 ls []) := by
                clear hw hP hD hS hl
                intro n_88
                induction n_88 with
                | zero => exact fun _ _ h => h.elim
                | succ n_88 ih_88 =>
                  intro x2 x3 hw H locs ls hP hD hS hl
                  have hw : wpF_M_order_88 post o_at o_isOut vr x1 (gL2 (wpF_M_order_88 post o_at o_isOut vr x1) n_88) x2 x3 := hw
                  rw [wpF_M_order_88] at hw
                  refine lv_iload_n hx hb d_M_order_88 rfl (lv_at hl 0 rfl) ?_
                  refine lv_iload_n hx hb d_M_order_89 rfl (lv_at hl 3 rfl) ?_
                  refine lv_icmp_ge (tgt := 165) hx hb d_M_order_90 (by decide) (fun c90 => ?_) (fun c90 => ?_)
                  · have hw := hw.1 c90
                    refine lv_iload_n hx hb d_M_order_165 rfl (lv_at hl 1 rfl) ?_
                    exact hret _ _ _ (o_at, o_isOut, vr) _ _ hw rfl hP hD hS d_M_order_166
                  · have hw := hw.2 c90
                    refine lv_iconst (v := (nI 0)) hx hb d_M_order_93 (by decide) ?_
                    refine lv_istore (lv' := [(4, .int (nI 0)), (3, .int x3), (2, .int x2), (0, .ref h_o), (1, .int x1)]) hx hb d_M_order_94 hl (by decide) rfl (fun ls hl => ?_)
                    refine lv_iconst (v := (nI 1)) hx hb d_M_order_96 (by decide) ?_
                    refine lv_istore (lv' := [(5, .int (nI 1)), (4, .int (nI 0)), (3, .int x3), (2, .int x2), (0, .ref h_o), (1, .int x1)]) hx hb d_M_order_97 hl (by decide) rfl (fun ls hl => ?_)
                    refine lv_iload_n hx hb d_M_order_99 rfl (lv_at hl 2 rfl) ?_
                    refine lv_iconst (v := (nI 1)) hx hb d_M_order_100 (by decide) ?_
                    refine lv_iadd hx hb d_M_order_101 ?_
                    refine lv_istore (lv' := [(6, .int (x3 + (nI 1))), (5, .int (nI 1)), (4, .int (nI 0)), (3, .int x3), (2, .int x2), (0, .ref h_o), (1, .int x1)]) hx hb d_M_order_102 hl (by decide) rfl (fun ls hl => ?_)
                    obtain ⟨n_104, hw⟩ := hw
                    have k_104 : ∀ (n_104 : Nat) (x4 : Int32) (x5 : Int32) (x6 : Int32), gL3 (wpF_M_order_104 (gL2 (wpF_M_order_88 post o_at o_isOut vr x1) n_88) vr x1 x2 x3) n_104 x4 x5 x6 → ∀ (H : Heap) (locs : List Loc) (ls : Array Slot), va_P D gCl [(h_o, .inr (3, [.ref o_weights, .ref o_tape, .int o_length, .int o_spent, .ref h_b, .int o_many, .int o_at, .int o_isOut, .ref h_r, .int o_values, .int o_failures, .int o_works])), (h_b, .inl (cI, 256, .inl vb)), (h_r, .inl (cI, 4, .inl vr))] H → va_D A [(h_o, .inr (3, [.ref o_weights, .ref o_tape, .int o_length, .int o_spent, .ref h_b, .int o_many, .int o_at, .int o_isOut, .ref h_r, .int o_values, .int o_failures, .int o_works])), (h_b, .inl (cI, 256, .inl vb)), (h_r, .inl (cI, 4, .inl vr))] → va_S A s.heap H locs → lv_has ls 7 [(6, .int x6), (5, .int x5), (4, .int x4), (3, .int x3), (2, .int x2), (0, .ref h_o), (1, .int x1)] → W p l e rm_M_order s m args below meth c H locs 0 0 Q (F0 m 104 ls []) := by
                      clear hw hP hD hS hl
                      intro n_104
                      induction n_104 with
                      | zero => exact fun _ _ _ h => h.elim
                      | succ n_104 ih_104 =>
                        intro x4 x5 x6 hw H locs ls hP hD hS hl
                        have hw : wpF_M_order_104 (gL2 (wpF_M_order_88 post o_at o_isOut vr x1) n_88) vr x1 x2 x3 (gL3 (wpF_M_order_104 (gL2 (wpF_M_order_88 post o_at o_isOut vr x1) n_88) vr x1 x2 x3) n_104) x4 x5 x6 := hw
                        rw [wpF_M_order_104] at hw
                        refine lv_iload hx hb d_M_order_104 (lv_at hl 0 rfl) ?_
                        refine lv_iload_n hx hb d_M_order_106 rfl (lv_at hl 6 rfl) ?_
                        refine lv_icmp_ge (tgt := 151) hx hb d_M_order_107 (by decide) (fun c107 => ?_) (fun c107 => ?_)
                        · have hw := hw.1 c107
                          refine lv_iload_n hx hb d_M_order_151 rfl (lv_at hl 4 rfl) ?_
                          refine lv_iload hx hb d_M_order_152 (lv_at hl 2 rfl) ?_
                          refine lv_iload hx hb d_M_order_154 (lv_at hl 1 rfl) ?_
                          refine lv_imul hx hb d_M_order_156 ?_
                          refine lv_iadd hx hb d_M_order_157 ?_
                          refine lv_istore_n (lv' := [(2, .int (x2 + (x4 * x5))), (6, .int x6), (5, .int x5), (4, .int x4), (3, .int x3), (0, .ref h_o), (1, .int x1)]) hx hb d_M_order_158 rfl hl (by decide) rfl (fun ls hl => ?_)
                          refine lv_iinc (v := (x3 + (nI 1))) (lv' := [(3, .int (x3 + (nI 1))), (2, .int (x2 + (x4 * x5))), (6, .int x6), (5, .int x5), (4, .int x4), (0, .ref h_o), (1, .int x1)]) hx hb d_M_order_159 hl (k := 4) rfl rfl (by decide) rfl (fun ls hl => ?_)
                          refine lv_goto (tgt := 88) hx hb d_M_order_162 (by decide) ?_
                          exact ih_88 _ _ hw _ _ _ hP hD hS (lv_sub hl [0, 1, 5, 6] rfl)
                        · have hw := hw.2 c107
                          refine lv_iload hx hb d_M_order_110 (lv_at hl 2 rfl) ?_
                          refine lv_aload_n hx hb d_M_order_112 rfl (lv_at hl 5 rfl) ?_
                          refine gGet fx hK hP 0 rfl inM rfl (k := 8) (by decide) w_232 rfl d_M_order_113 ?_
                          refine lv_iload hx hb d_M_order_116 (lv_at hl 0 rfl) ?_
                          refine va_iald hx hb hK hP 2 0 rfl rfl hw.1 d_M_order_118 ?_
                          have hw := hw.2
                          refine lv_aload_n hx hb d_M_order_119 rfl (lv_at hl 5 rfl) ?_
                          refine gGet fx hK hP 0 rfl inM rfl (k := 8) (by decide) w_232 rfl d_M_order_120 ?_
                          refine lv_iload_n hx hb d_M_order_123 rfl (lv_at hl 3 rfl) ?_
                          refine va_iald hx hb hK hP 2 0 rfl rfl hw.1 d_M_order_124 ?_
                          have hw := hw.2
                          refine lv_icmp_ge (tgt := 132) hx hb d_M_order_125 (by decide) (fun c125 => ?_) (fun c125 => ?_)
                          · have hw := hw.1 c125
                            refine lv_iconst (v := (nI 0)) hx hb d_M_order_132 (by decide) ?_
                            refine lv_iadd hx hb d_M_order_133 ?_
                            refine lv_istore (lv' := [(4, .int (x4 + (nI 0))), (6, .int x6), (5, .int x5), (3, .int x3), (2, .int x2), (0, .ref h_o), (1, .int x1)]) hx hb d_M_order_134 hl (by decide) rfl (fun ls hl => ?_)
                            refine lv_iload hx hb d_M_order_136 (lv_at hl 2 rfl) ?_
                            refine lv_iload hx hb d_M_order_138 (lv_at hl 1 rfl) ?_
                            refine lv_iload_n hx hb d_M_order_140 rfl (lv_at hl 3 rfl) ?_
                            refine lv_isub hx hb d_M_order_141 ?_
                            refine lv_imul hx hb d_M_order_142 ?_
                            refine lv_istore (lv' := [(5, .int (x5 * (x6 - x3))), (4, .int (x4 + (nI 0))), (6, .int x6), (3, .int x3), (2, .int x2), (0, .ref h_o), (1, .int x1)]) hx hb d_M_order_143 hl (by decide) rfl (fun ls hl => ?_)
                            refine lv_iinc (v := (x6 + (nI 1))) (lv' := [(6, .int (x6 + (nI 1))), (5, .int (x5 * (x6 - x3))), (4, .int (x4 + (nI 0))), (3, .int x3), (2, .int x2), (0, .ref h_o), (1, .int x1)]) hx hb d_M_order_145 hl (k := 2) rfl rfl (by decide) rfl (fun ls hl => ?_)
                            refine lv_goto (tgt := 104) hx hb d_M_order_148 (by decide) ?_
                            exact ih_104 _ _ _ hw _ _ _ hP hD hS (lv_sub hl [0, 1, 2, 3, 4, 5, 6] rfl)
                          · have hw := hw.2 c125
                            refine lv_iconst (v := (nI 1)) hx hb d_M_order_128 (by decide) ?_
                            refine lv_goto (tgt := 133) hx hb d_M_order_129 (by decide) ?_
                            refine lv_iadd hx hb d_M_order_133 ?_
                            refine lv_istore (lv' := [(4, .int (x4 + (nI 1))), (6, .int x6), (5, .int x5), (3, .int x3), (2, .int x2), (0, .ref h_o), (1, .int x1)]) hx hb d_M_order_134 hl (by decide) rfl (fun ls hl => ?_)
                            refine lv_iload hx hb d_M_order_136 (lv_at hl 2 rfl) ?_
                            refine lv_iload hx hb d_M_order_138 (lv_at hl 1 rfl) ?_
                            refine lv_iload_n hx hb d_M_order_140 rfl (lv_at hl 3 rfl) ?_
                            refine lv_isub hx hb d_M_order_141 ?_
                            refine lv_imul hx hb d_M_order_142 ?_
                            refine lv_istore (lv' := [(5, .int (x5 * (x6 - x3))), (4, .int (x4 + (nI 1))), (6, .int x6), (3, .int x3), (2, .int x2), (0, .ref h_o), (1, .int x1)]) hx hb d_M_order_143 hl (by decide) rfl (fun ls hl => ?_)
                            refine lv_iinc (v := (x6 + (nI 1))) (lv' := [(6, .int (x6 + (nI 1))), (5, .int (x5 * (x6 - x3))), (4, .int (x4 + (nI 1))), (3, .int x3), (2, .int x2), (0, .ref h_o), (1, .int x1)]) hx hb d_M_order_145 hl (k := 2) rfl rfl (by decide) rfl (fun ls hl => ?_)
                            refine lv_goto (tgt := 104) hx hb d_M_order_148 (by decide) ?_
                            exact ih_104 _ _ _ hw _ _ _ hP hD hS (lv_sub hl [0, 1, 2, 3, 4, 5, 6] rfl)
                    exact k_104 n_104 _ _ _ hw _ _ _ hP hD hS (lv_sub hl [0, 1, 2, 3, 4, 5, 6] rfl)
              exact k_88 n_88 _ _ hw _ _ _ hP hD hS (lv_sub hl [0, 1, 2, 3] rfl)
            · have hw := hw.2 c25
              refine lv_aload_n hx hb d_M_order_28 rfl (lv_at hl 1 rfl) ?_
              refine gGet fx hK hP 0 rfl inM rfl (k := 7) (by decide) w_231 rfl d_M_order_29 ?_
              refine lv_if_ne (tgt := 84) hx hb d_M_order_32 (by decide) (fun c32 => ?_) (fun c32 => ?_)
              · have hw := hw.1 c32
                refine lv_iconst (v := (nI 0)) hx hb d_M_order_84 (by decide) ?_
                refine lv_istore_n (lv' := [(2, .int (nI 0)), (0, .ref h_o), (1, .int x1)]) hx hb d_M_order_85 rfl hl (by decide) rfl (fun ls hl => ?_)
                refine lv_iconst (v := (nI 0)) hx hb d_M_order_86 (by decide) ?_
                refine lv_istore_n (lv' := [(3, .int (nI 0)), (2, .int (nI 0)), (0, .ref h_o), (1, .int x1)]) hx hb d_M_order_87 rfl hl (by decide) rfl (fun ls hl => ?_)
                obtain ⟨n_88, hw⟩ := hw
                have k_88 : ∀ (n_88 : Nat) (x2 : Int32) (x3 : Int32), gL2 (wpF_M_order_88 post o_at o_isOut vr x1) n_88 x2 x3 → ∀ (H : Heap) (locs : List Loc) (ls : Array Slot), va_P D gCl [(h_o, .inr (3, [.ref o_weights, .ref o_tape, .int o_length, .int o_spent, .ref h_b, .int o_many, .int o_at, .int o_isOut, .ref h_r, .int o_values, .int o_failures, .int o_works])), (h_b, .inl (cI, 256, .inl vb)), (h_r, .inl (cI, 4, .inl vr))] H → va_D A [(h_o, .inr (3, [.ref o_weights, .ref o_tape, .int o_length, .int o_spent, .ref h_b, .int o_many, .int o_at, .int o_isOut, .ref h_r, .int o_values, .int o_failures, .int o_works])), (h_b, .inl (cI, 256, .inl vb)), (h_r, .inl (cI, 4, .inl vr))] → va_S A s.heap H locs → lv_has ls 7 [(3, .int x3), (2, .int x2), (0, .ref h_o), (1, .int x1)] → W p l e rm_M_order s m args below meth c H locs 0 0 Q (F0 m 88 ls []) := by
                  clear hw hP hD hS hl
                  intro n_88
                  induction n_88 with
                  | zero => exact fun _ _ h => h.elim
                  | succ n_88 ih_88 =>
                    intro x2 x3 hw H locs ls hP hD hS hl
                    have hw : wpF_M_order_88 post o_at o_isOut vr x1 (gL2 (wpF_M_order_88 post o_at o_isOut vr x1) n_88) x2 x3 := hw
                    rw [wpF_M_order_88] at hw
                    refine lv_iload_n hx hb d_M_order_88 rfl (lv_at hl 0 rfl) ?_
                    refine lv_iload_n hx hb d_M_order_89 rfl (lv_at hl 3 rfl) ?_
                    refine lv_icmp_ge (tgt := 165) hx hb d_M_order_90 (by decide) (fun c90 => ?_) (fun c90 => ?_)
                    · have hw := hw.1 c90
                      refine lv_iload_n hx hb d_M_order_165 rfl (lv_at hl 1 rfl) ?_
                      exact hret _ _ _ (o_at, o_isOut, vr) _ _ hw rfl hP hD hS d_M_order_166
                    · have hw := hw.2 c90
                      refine lv_iconst (v := (nI 0)) hx hb d_M_order_93 (by decide) ?_
                      refine lv_istore (lv' := [(4, .int (nI 0)), (3, .int x3), (2, .int x2), (0, .ref h_o), (1, .int x1)]) hx hb d_M_order_94 hl (by decide) rfl (fun ls hl => ?_)
                      refine lv_iconst (v := (nI 1)) hx hb d_M_order_96 (by decide) ?_
                      refine lv_istore (lv' := [(5, .int (nI 1)), (4, .int (nI 0)), (3, .int x3), (2, .int x2), (0, .ref h_o), (1, .int x1)]) hx hb d_M_order_97 hl (by decide) rfl (fun ls hl => ?_)
                      refine lv_iload_n hx hb d_M_order_99 rfl (lv_at hl 2 rfl) ?_
                      refine lv_iconst (v := (nI 1)) hx hb d_M_order_100 (by decide) ?_
                      refine lv_iadd hx hb d_M_order_101 ?_
                      refine lv_istore (lv' := [(6, .int (x3 + (nI 1))), (5, .int (nI 1)), (4, .int (nI 0)), (3, .int x3), (2, .int x2), (0, .ref h_o), (1, .int x1)]) hx hb d_M_order_102 hl (by decide) rfl (fun ls hl => ?_)
                      obtain ⟨n_104, hw⟩ := hw
                      have k_104 : ∀ (n_104 : Nat) (x4 : Int32) (x5 : Int32) (x6 : Int32), gL3 (wpF_M_order_104 (gL2 (wpF_M_order_88 post o_at o_isOut vr x1) n_88) vr x1 x2 x3) n_104 x4 x5 x6 → ∀ (H : Heap) (locs : List Loc) (ls : Array Slot), va_P D gCl [(h_o, .inr (3, [.ref o_weights, .ref o_tape, .int o_length, .int o_spent, .ref h_b, .int o_many, .int o_at, .int o_isOut, .ref h_r, .int o_values, .int o_failures, .int o_works])), (h_b, .inl (cI, 256, .inl vb)), (h_r, .inl (cI, 4, .inl vr))] H → va_D A [(h_o, .inr (3, [.ref o_weights, .ref o_tape, .int o_length, .int o_spent, .ref h_b, .int o_many, .int o_at, .int o_isOut, .ref h_r, .int o_values, .int o_failures, .int o_works])), (h_b, .inl (cI, 256, .inl vb)), (h_r, .inl (cI, 4, .inl vr))] → va_S A s.heap H locs → lv_has ls 7 [(6, .int x6), (5, .int x5), (4, .int x4), (3, .int x3), (2, .int x2), (0, .ref h_o), (1, .int x1)] → W p l e rm_M_order s m args below meth c H locs 0 0 Q (F0 m 104 ls []) := by
                        clear hw hP hD hS hl
                        intro n_104
                        induction n_104 with
                        | zero => exact fun _ _ _ h => h.elim
                        | succ n_104 ih_104 =>
                          intro x4 x5 x6 hw H locs ls hP hD hS hl
                          have hw : wpF_M_order_104 (gL2 (wpF_M_order_88 post o_at o_isOut vr x1) n_88) vr x1 x2 x3 (gL3 (wpF_M_order_104 (gL2 (wpF_M_order_88 post o_at o_isOut vr x1) n_88) vr x1 x2 x3) n_104) x4 x5 x6 := hw
                          rw [wpF_M_order_104] at hw
                          refine lv_iload hx hb d_M_order_104 (lv_at hl 0 rfl) ?_
                          refine lv_iload_n hx hb d_M_order_106 rfl (lv_at hl 6 rfl) ?_
                          refine lv_icmp_ge (tgt := 151) hx hb d_M_order_107 (by decide) (fun c107 => ?_) (fun c107 => ?_)
                          · have hw := hw.1 c107
                            refine lv_iload_n hx hb d_M_order_151 rfl (lv_at hl 4 rfl) ?_
                            refine lv_iload hx hb d_M_order_152 (lv_at hl 2 rfl) ?_
                            refine lv_iload hx hb d_M_order_154 (lv_at hl 1 rfl) ?_
                            refine lv_imul hx hb d_M_order_156 ?_
                            refine lv_iadd hx hb d_M_order_157 ?_
                            refine lv_istore_n (lv' := [(2, .int (x2 + (x4 * x5))), (6, .int x6), (5, .int x5), (4, .int x4), (3, .int x3), (0, .ref h_o), (1, .int x1)]) hx hb d_M_order_158 rfl hl (by decide) rfl (fun ls hl => ?_)
                            refine lv_iinc (v := (x3 + (nI 1))) (lv' := [(3, .int (x3 + (nI 1))), (2, .int (x2 + (x4 * x5))), (6, .int x6), (5, .int x5), (4, .int x4), (0, .ref h_o), (1, .int x1)]) hx hb d_M_order_159 hl (k := 4) rfl rfl (by decide) rfl (fun ls hl => ?_)
                            refine lv_goto (tgt := 88) hx hb d_M_order_162 (by decide) ?_
                            exact ih_88 _ _ hw _ _ _ hP hD hS (lv_sub hl [0, 1, 5, 6] rfl)
                          · have hw := hw.2 c107
                            refine lv_iload hx hb d_M_order_110 (lv_at hl 2 rfl) ?_
                            refine lv_aload_n hx hb d_M_order_112 rfl (lv_at hl 5 rfl) ?_
                            refine gGet fx hK hP 0 rfl inM rfl (k := 8) (by decide) w_232 rfl d_M_order_113 ?_
                            refine lv_iload hx hb d_M_order_116 (lv_at hl 0 rfl) ?_
                            refine va_iald hx hb hK hP 2 0 rfl rfl hw.1 d_M_order_118 ?_
                            have hw := hw.2
                            refine lv_aload_n hx hb d_M_order_119 rfl (lv_at hl 5 rfl) ?_
                            refine gGet fx hK hP 0 rfl inM rfl (k := 8) (by decide) w_232 rfl d_M_order_120 ?_
                            refine lv_iload_n hx hb d_M_order_123 rfl (lv_at hl 3 rfl) ?_
                            refine va_iald hx hb hK hP 2 0 rfl rfl hw.1 d_M_order_124 ?_
                            have hw := hw.2
                            refine lv_icmp_ge (tgt := 132) hx hb d_M_order_125 (by decide) (fun c125 => ?_) (fun c125 => ?_)
                            · have hw := hw.1 c125
                              refine lv_iconst (v := (nI 0)) hx hb d_M_order_132 (by decide) ?_
                              refine lv_iadd hx hb d_M_order_133 ?_
                              refine lv_istore (lv' := [(4, .int (x4 + (nI 0))), (6, .int x6), (5, .int x5), (3, .int x3), (2, .int x2), (0, .ref h_o), (1, .int x1)]) hx hb d_M_order_134 hl (by decide) rfl (fun ls hl => ?_)
                              refine lv_iload hx hb d_M_order_136 (lv_at hl 2 rfl) ?_
                              refine lv_iload hx hb d_M_order_138 (lv_at hl 1 rfl) ?_
                              refine lv_iload_n hx hb d_M_order_140 rfl (lv_at hl 3 rfl) ?_
                              refine lv_isub hx hb d_M_order_141 ?_
                              refine lv_imul hx hb d_M_order_142 ?_
                              refine lv_istore (lv' := [(5, .int (x5 * (x6 - x3))), (4, .int (x4 + (nI 0))), (6, .int x6), (3, .int x3), (2, .int x2), (0, .ref h_o), (1, .int x1)]) hx hb d_M_order_143 hl (by decide) rfl (fun ls hl => ?_)
                              refine lv_iinc (v := (x6 + (nI 1))) (lv' := [(6, .int (x6 + (nI 1))), (5, .int (x5 * (x6 - x3))), (4, .int (x4 + (nI 0))), (3, .int x3), (2, .int x2), (0, .ref h_o), (1, .int x1)]) hx hb d_M_order_145 hl (k := 2) rfl rfl (by decide) rfl (fun ls hl => ?_)
                              refine lv_goto (tgt := 104) hx hb d_M_order_148 (by decide) ?_
                              exact ih_104 _ _ _ hw _ _ _ hP hD hS (lv_sub hl [0, 1, 2, 3, 4, 5, 6] rfl)
                            · have hw := hw.2 c125
                              refine lv_iconst (v := (nI 1)) hx hb d_M_order_128 (by decide) ?_
                              refine lv_goto (tgt := 133) hx hb d_M_order_129 (by decide) ?_
                              refine lv_iadd hx hb d_M_order_133 ?_
                              refine lv_istore (lv' := [(4, .int (x4 + (nI 1))), (6, .int x6), (5, .int x5), (3, .int x3), (2, .int x2), (0, .ref h_o), (1, .int x1)]) hx hb d_M_order_134 hl (by decide) rfl (fun ls hl => ?_)
                              refine lv_iload hx hb d_M_order_136 (lv_at hl 2 rfl) ?_
                              refine lv_iload hx hb d_M_order_138 (lv_at hl 1 rfl) ?_
                              refine lv_iload_n hx hb d_M_order_140 rfl (lv_at hl 3 rfl) ?_
                              refine lv_isub hx hb d_M_order_141 ?_
                              refine lv_imul hx hb d_M_order_142 ?_
                              refine lv_istore (lv' := [(5, .int (x5 * (x6 - x3))), (4, .int (x4 + (nI 1))), (6, .int x6), (3, .int x3), (2, .int x2), (0, .ref h_o), (1, .int x1)]) hx hb d_M_order_143 hl (by decide) rfl (fun ls hl => ?_)
                              refine lv_iinc (v := (x6 + (nI 1))) (lv' := [(6, .int (x6 + (nI 1))), (5, .int (x5 * (x6 - x3))), (4, .int (x4 + (nI 1))), (3, .int x3), (2, .int x2), (0, .ref h_o), (1, .int x1)]) hx hb d_M_order_145 hl (k := 2) rfl rfl (by decide) rfl (fun ls hl => ?_)
                              refine lv_goto (tgt := 104) hx hb d_M_order_148 (by decide) ?_
                              exact ih_104 _ _ _ hw _ _ _ hP hD hS (lv_sub hl [0, 1, 2, 3, 4, 5, 6] rfl)
                      exact k_104 n_104 _ _ _ hw _ _ _ hP hD hS (lv_sub hl [0, 1, 2, 3, 4, 5, 6] rfl)
                exact k_88 n_88 _ _ hw _ _ _ hP hD hS (lv_sub hl [0, 1, 2, 3] rfl)
              · have hw := hw.2 c32
                refine lv_aload_n hx hb d_M_order_35 rfl (lv_at hl 1 rfl) ?_
                refine lv_iload_n hx hb d_M_order_36 rfl (lv_at hl 0 rfl) ?_
                refine lv_iconst (v := (nI 1)) hx hb d_M_order_37 (by decide) ?_
                refine lv_iadd hx hb d_M_order_38 ?_
                refine g_cVi (wr := [(h_r, .inl (cI, 4, .inl vr))]) fx (c_M_plain l D cI h_o h_b o_weights o_tape h_r o_length o_spent o_many o_at o_isOut o_values o_failures o_works vb (x2 + (nI 1)) _ hw) mf_M_plain w_294 ⟨rfl, rfl⟩ ⟨Nat.le_of_ble_eq_true rfl, Nat.le_of_ble_eq_true rfl⟩ hN hK hA hP hD hS [0, 1] [2] rfl rfl rfl rfl (by decide) 0 rfl rfl rfl rfl hl.1 (Nat.le_of_ble_eq_true rfl) d_M_order_39 ⟨Nat.zero_le _, Nat.zero_le _⟩ (fun r_1 u H locs hw hP hD hS => ?_)
                obtain ⟨oat_2, oisOut_3⟩ := u
                try dsimp only at hw
                have hP : va_P D gCl [(h_r, .inl (cI, 4, .inl vr)), (h_o, .inr (3, [.ref o_weights, .ref o_tape, .int o_length, .int o_spent, .ref h_b, .int o_many, .int oat_2, .int oisOut_3, .ref h_r, .int o_values, .int o_failures, .int o_works])), (h_b, .inl (cI, 256, .inl vb))] H := hP
                have hD : va_D A [(h_r, .inl (cI, 4, .inl vr)), (h_o, .inr (3, [.ref o_weights, .ref o_tape, .int o_length, .int o_spent, .ref h_b, .int o_many, .int oat_2, .int oisOut_3, .ref h_r, .int o_values, .int o_failures, .int o_works])), (h_b, .inl (cI, 256, .inl vb))] := hD
                refine lv_istore_n (lv' := [(3, .int r_1), (2, .int x2), (0, .ref h_o), (1, .int x1)]) hx hb d_M_order_42 rfl hl (by decide) rfl (fun ls hl => ?_)
                refine lv_aload_n hx hb d_M_order_43 rfl (lv_at hl 2 rfl) ?_
                refine gGet fx hK hP 1 rfl inM rfl (k := 7) (by decide) w_231 rfl d_M_order_44 ?_
                refine lv_if_ne (tgt := 78) hx hb d_M_order_47 (by decide) (fun c47 => ?_) (fun c47 => ?_)
                · have hw := hw.1 c47
                  refine lv_iinc (v := (x2 + (-1))) (lv' := [(2, .int (x2 + (-1))), (3, .int r_1), (0, .ref h_o), (1, .int x1)]) hx hb d_M_order_78 hl (k := 1) rfl (by rw [i32_m1]) (by decide) rfl (fun ls hl => ?_)
                  refine lv_goto (tgt := 24) hx hb d_M_order_81 (by decide) ?_
                  exact ih_24 _ _ _ _ hw _ _ _ (gSubP hP [1, 2, 0] rfl) (hD.sub [1, 2, 0] rfl rfl) hS (lv_sub hl [0, 2, 3] rfl)
                · have hw := hw.2 c47
                  refine lv_aload_n hx hb d_M_order_50 rfl (lv_at hl 2 rfl) ?_
                  refine gGet fx hK hP 1 rfl inM rfl (k := 8) (by decide) w_232 rfl d_M_order_51 ?_
                  refine lv_iload_n hx hb d_M_order_54 rfl (lv_at hl 1 rfl) ?_
                  refine va_iald hx hb hK hP 0 0 rfl rfl hw.1 d_M_order_55 ?_
                  have hw := hw.2
                  refine lv_istore (lv' := [(4, .int (vr (x2).toNatClampNeg)), (3, .int r_1), (2, .int x2), (0, .ref h_o), (1, .int x1)]) hx hb d_M_order_56 hl (by decide) rfl (fun ls hl => ?_)
                  refine lv_aload_n hx hb d_M_order_58 rfl (lv_at hl 3 rfl) ?_
                  refine gGet fx hK hP 1 rfl inM rfl (k := 8) (by decide) w_232 rfl d_M_order_59 ?_
                  refine lv_iload_n hx hb d_M_order_62 rfl (lv_at hl 2 rfl) ?_
                  refine lv_aload_n hx hb d_M_order_63 rfl (lv_at hl 3 rfl) ?_
                  refine gGet fx hK hP 1 rfl inM rfl (k := 8) (by decide) w_232 rfl d_M_order_64 ?_
                  refine lv_iload_n hx hb d_M_order_67 rfl (lv_at hl 1 rfl) ?_
                  refine va_iald hx hb hK hP 0 0 rfl rfl hw.1 d_M_order_68 ?_
                  have hw := hw.2
                  refine va_iast hx hb hK hP hD hS 0 0 rfl rfl hw.1 d_M_order_69 (fun H locs hP hD hS => ?_)
                  have hw := hw.2
                  have hP : va_P D gCl [(h_r, .inl (cI, 4, .inl (upd vr (x2).toNatClampNeg (vr (r_1).toNatClampNeg)))), (h_o, .inr (3, [.ref o_weights, .ref o_tape, .int o_length, .int o_spent, .ref h_b, .int o_many, .int oat_2, .int oisOut_3, .ref h_r, .int o_values, .int o_failures, .int o_works])), (h_b, .inl (cI, 256, .inl vb))] H := hP
                  have hD : va_D A [(h_r, .inl (cI, 4, .inl (upd vr (x2).toNatClampNeg (vr (r_1).toNatClampNeg)))), (h_o, .inr (3, [.ref o_weights, .ref o_tape, .int o_length, .int o_spent, .ref h_b, .int o_many, .int oat_2, .int oisOut_3, .ref h_r, .int o_values, .int o_failures, .int o_works])), (h_b, .inl (cI, 256, .inl vb))] := hD
                  refine lv_aload_n hx hb d_M_order_70 rfl (lv_at hl 3 rfl) ?_
                  refine gGet fx hK hP 1 rfl inM rfl (k := 8) (by decide) w_232 rfl d_M_order_71 ?_
                  refine lv_iload_n hx hb d_M_order_74 rfl (lv_at hl 1 rfl) ?_
                  refine lv_iload hx hb d_M_order_75 (lv_at hl 0 rfl) ?_
                  refine va_iast hx hb hK hP hD hS 0 0 rfl rfl hw.1 d_M_order_77 (fun H locs hP hD hS => ?_)
                  have hw := hw.2
                  have hP : va_P D gCl [(h_r, .inl (cI, 4, .inl (upd (upd vr (x2).toNatClampNeg (vr (r_1).toNatClampNeg)) (r_1).toNatClampNeg (vr (x2).toNatClampNeg)))), (h_o, .inr (3, [.ref o_weights, .ref o_tape, .int o_length, .int o_spent, .ref h_b, .int o_many, .int oat_2, .int oisOut_3, .ref h_r, .int o_values, .int o_failures, .int o_works])), (h_b, .inl (cI, 256, .inl vb))] H := hP
                  have hD : va_D A [(h_r, .inl (cI, 4, .inl (upd (upd vr (x2).toNatClampNeg (vr (r_1).toNatClampNeg)) (r_1).toNatClampNeg (vr (x2).toNatClampNeg)))), (h_o, .inr (3, [.ref o_weights, .ref o_tape, .int o_length, .int o_spent, .ref h_b, .int o_many, .int oat_2, .int oisOut_3, .ref h_r, .int o_values, .int o_failures, .int o_works])), (h_b, .inl (cI, 256, .inl vb))] := hD
                  refine lv_iinc (v := (x2 + (-1))) (lv' := [(2, .int (x2 + (-1))), (4, .int (vr (x2).toNatClampNeg)), (3, .int r_1), (0, .ref h_o), (1, .int x1)]) hx hb d_M_order_78 hl (k := 2) rfl (by rw [i32_m1]) (by decide) rfl (fun ls hl => ?_)
                  refine lv_goto (tgt := 24) hx hb d_M_order_81 (by decide) ?_
                  exact ih_24 _ _ _ _ hw _ _ _ (gSubP hP [1, 2, 0] rfl) (hD.sub [1, 2, 0] rfl rfl) hS (lv_sub hl [0, 3, 4] rfl)
        exact k_24 n_24 _ _ _ _ hw _ _ _ hP hD hS (lv_sub hl [0, 1, 2] rfl)
      · have hw := hw.2 c4
        refine lv_aload_n hx hb d_M_order_7 rfl (lv_at hl 1 rfl) ?_
        refine gGet fx hK hP 0 rfl inM rfl (k := 8) (by decide) w_232 rfl d_M_order_8 ?_
        refine lv_iload_n hx hb d_M_order_11 rfl (lv_at hl 0 rfl) ?_
        refine lv_iload_n hx hb d_M_order_12 rfl (lv_at hl 0 rfl) ?_
        refine va_iast hx hb hK hP hD hS 2 0 rfl rfl hw.1 d_M_order_13 (fun H locs hP hD hS => ?_)
        have hw := hw.2
        have hP : va_P D gCl [(h_o, .inr (3, [.ref o_weights, .ref o_tape, .int o_length, .int o_spent, .ref h_b, .int o_many, .int o_at, .int o_isOut, .ref h_r, .int o_values, .int o_failures, .int o_works])), (h_b, .inl (cI, 256, .inl vb)), (h_r, .inl (cI, 4, .inl (upd vr (x2).toNatClampNeg x2)))] H := hP
        have hD : va_D A [(h_o, .inr (3, [.ref o_weights, .ref o_tape, .int o_length, .int o_spent, .ref h_b, .int o_many, .int o_at, .int o_isOut, .ref h_r, .int o_values, .int o_failures, .int o_works])), (h_b, .inl (cI, 256, .inl vb)), (h_r, .inl (cI, 4, .inl (upd vr (x2).toNatClampNeg x2)))] := hD
        refine lv_iinc (v := (x2 + (nI 1))) (lv' := [(2, .int (x2 + (nI 1))), (0, .ref h_o), (1, .int x1)]) hx hb d_M_order_14 hl (k := 0) rfl rfl (by decide) rfl (fun ls hl => ?_)
        refine lv_goto (tgt := 2) hx hb d_M_order_17 (by decide) ?_
        exact ih_2 _ _ hw _ _ _ hP hD hS (lv_sub hl [0, 1, 2] rfl)
  exact k_2 n_2 _ _ hw _ _ _ hP hD hS (lv_sub hl [0, 1, 2] rfl)
def wpF_M_share_18 (post : Int32 → Int32 → Int32 → Prop) (o_at : Int32) (o_isOut : Int32) (vw : Nat → Int32) (x1 : Int32) (K_18 : Int32 → Int32 → Prop) (x2 : Int32) (x3 : Int32) : Prop :=
  (((nI 7) ≤ x2 → post x2 o_at o_isOut) ∧ (¬ (nI 7) ≤ x2 → ((x1 < x3 → post x2 o_at o_isOut) ∧ (¬ x1 < x3 → (vp_in (x2 + (nI 1)) 8 ∧ K_18 (x2 + (nI 1)) (x3 + (vw ((x2 + (nI 1))).toNatClampNeg)))))))
def wp_M_share (post : Int32 → Int32 → Int32 → Prop) (o_length : Int32) (o_spent : Int32) (o_many : Int32) (o_at : Int32) (o_isOut : Int32) (o_values : Int32) (o_failures : Int32) (o_works : Int32) (vb : Nat → Int32) (vw : Nat → Int32) : Prop :=
  wp_M_sum (fun r_1 => wp_M_plain (fun r_2 oat_3 oisOut_4 => (vp_in (nI 0) 8 ∧ (∃ n, gL2 (wpF_M_share_18 post oat_3 oisOut_4 vw r_2) n (nI 0) (vw ((nI 0)).toNatClampNeg)))) o_length o_spent o_many o_at o_isOut o_values o_failures o_works vb r_1) o_length o_spent o_many o_at o_isOut o_values o_failures o_works vw
abbrev rm_M_share : Room := { frames := 2, cells := 0, slots := 0, locals := 43 }
theorem mf_M_share : gFV y_M_share b_M_share 4 (some .int) 0 := ⟨w_321, w_4, ⟨by decide, by decide, by decide +kernel⟩, w_320, ws_1_15⟩
set_option maxHeartbeats 4000000 in
set_option maxRecDepth 100000 in
theorem c_M_share (l : Launch) (D : va_G) (cI : ClassId) (h_o : Nat) (h_b : Nat) (h_w : Nat) (o_tape : Nat) (o_row : Nat) (o_length : Int32) (o_spent : Int32) (o_many : Int32) (o_at : Int32) (o_isOut : Int32) (o_values : Int32) (o_failures : Int32) (o_works : Int32) (vb : Nat → Int32) (vw : Nat → Int32) (post : Int32 → Int32 → Int32 → Prop) (hw : wp_M_share post o_length o_spent o_many o_at o_isOut o_values o_failures o_works vb vw) :
    gMi l D [(cI, .int)] y_M_share b_M_share 4 .int rm_M_share [.ref h_o] [(h_o, .inr (3, [.ref h_w, .ref o_tape, .int o_length, .int o_spent, .ref h_b, .int o_many, .int o_at, .int o_isOut, .ref o_row, .int o_values, .int o_failures, .int o_works])), (h_b, .inl (cI, 256, .inl vb)), (h_w, .inl (cI, 8, .inl vw))] (S := Int32 × Int32) (fun u => [(h_o, .inr (3, [.ref h_w, .ref o_tape, .int o_length, .int o_spent, .ref h_b, .int o_many, .int u.1, .int u.2, .ref o_row, .int o_values, .int o_failures, .int o_works])), (h_b, .inl (cI, 256, .inl vb)), (h_w, .inl (cI, 8, .inl vw))]) (fun r u => post r u.1 u.2) := by
  rw [wp_M_share] at hw
  refine gMi.of (by decide) (Nat.le_of_ble_eq_true rfl) (fun p e s m args below meth c A Q ls hx hb hml hown hts hN hK hA hP hD hret hl => ?_)
  have fx : CallFix p m c b_M_share 4 s args gG "TapeCounterModel" := ⟨hx, hb, hml, hown, hts⟩
  have hl : lv_has ls 4 [(0, .ref h_o)] := hl
  have hS : va_S A s.heap s.heap [] := va_S.rf
  refine lv_aload_n hx hb d_M_share_0 rfl (lv_at hl 0 rfl) ?_
  refine lv_aload_n hx hb d_M_share_1 rfl (lv_at hl 0 rfl) ?_
  refine g_cVi (wr := [(h_b, .inl (cI, 256, .inl vb))]) fx (c_M_sum l D cI h_o h_w o_tape h_b o_row o_length o_spent o_many o_at o_isOut o_values o_failures o_works vw _ hw) mf_M_sum w_281 ⟨rfl, rfl⟩ ⟨Nat.le_of_ble_eq_true rfl, Nat.le_of_ble_eq_true rfl⟩ hN hK hA hP hD hS [0, 2] [1] rfl rfl rfl rfl (by decide) 0 rfl rfl rfl rfl hl.1 (Nat.le_of_ble_eq_true rfl) d_M_share_2 ⟨Nat.zero_le _, Nat.zero_le _⟩ (fun r_1 u H locs hw hP hD hS => ?_)
  try dsimp only at hw
  have hP : va_P D gCl [(h_b, .inl (cI, 256, .inl vb)), (h_o, .inr (3, [.ref h_w, .ref o_tape, .int o_length, .int o_spent, .ref h_b, .int o_many, .int o_at, .int o_isOut, .ref o_row, .int o_values, .int o_failures, .int o_works])), (h_w, .inl (cI, 8, .inl vw))] H := hP
  have hD : va_D A [(h_b, .inl (cI, 256, .inl vb)), (h_o, .inr (3, [.ref h_w, .ref o_tape, .int o_length, .int o_spent, .ref h_b, .int o_many, .int o_at, .int o_isOut, .ref o_row, .int o_values, .int o_failures, .int o_works])), (h_w, .inl (cI, 8, .inl vw))] := hD
  refine g_cVi (wr := [(h_w, .inl (cI, 8, .inl vw))]) fx (c_M_plain l D cI h_o h_b h_w o_tape o_row o_length o_spent o_many o_at o_isOut o_values o_failures o_works vb r_1 _ hw) mf_M_plain w_294 ⟨rfl, rfl⟩ ⟨Nat.le_of_ble_eq_true rfl, Nat.le_of_ble_eq_true rfl⟩ hN hK hA hP hD hS [1, 0] [2] rfl rfl rfl rfl (by decide) 0 rfl rfl rfl rfl hl.1 (Nat.le_of_ble_eq_true rfl) d_M_share_5 ⟨Nat.zero_le _, Nat.zero_le _⟩ (fun r_2 u H locs hw hP hD hS => ?_)
  obtain ⟨oat_3, oisOut_4⟩ := u
  try dsimp only at hw
  have hP : va_P D gCl [(h_w, .inl (cI, 8, .inl vw)), (h_o, .inr (3, [.ref h_w, .ref o_tape, .int o_length, .int o_spent, .ref h_b, .int o_many, .int oat_3, .int oisOut_4, .ref o_row, .int o_values, .int o_failures, .int o_works])), (h_b, .inl (cI, 256, .inl vb))] H := hP
  have hD : va_D A [(h_w, .inl (cI, 8, .inl vw)), (h_o, .inr (3, [.ref h_w, .ref o_tape, .int o_length, .int o_spent, .ref h_b, .int o_many, .int oat_3, .int oisOut_4, .ref o_row, .int o_values, .int o_failures, .int o_works])), (h_b, .inl (cI, 256, .inl vb))] := hD
  refine lv_istore_n (lv' := [(1, .int r_2), (0, .ref h_o)]) hx hb d_M_share_8 rfl hl (by decide) rfl (fun ls hl => ?_)
  refine lv_iconst (v := (nI 0)) hx hb d_M_share_9 (by decide) ?_
  refine lv_istore_n (lv' := [(2, .int (nI 0)), (1, .int r_2), (0, .ref h_o)]) hx hb d_M_share_10 rfl hl (by decide) rfl (fun ls hl => ?_)
  refine lv_aload_n hx hb d_M_share_11 rfl (lv_at hl 2 rfl) ?_
  refine gGet fx hK hP 1 rfl inM rfl (k := 0) (by decide) w_224 rfl d_M_share_12 ?_
  refine lv_iconst (v := (nI 0)) hx hb d_M_share_15 (by decide) ?_
  refine va_iald hx hb hK hP 0 0 rfl rfl hw.1 d_M_share_16 ?_
  have hw := hw.2
  refine lv_istore_n (lv' := [(3, .int (vw ((nI 0)).toNatClampNeg)), (2, .int (nI 0)), (1, .int r_2), (0, .ref h_o)]) hx hb d_M_share_17 rfl hl (by decide) rfl (fun ls hl => ?_)
  obtain ⟨n_18, hw⟩ := hw
  have k_18 : ∀ (o_at : Int32) (o_isOut : Int32) (x1 : Int32) (n_18 : Nat) (x2 : Int32) (x3 : Int32), gL2 (wpF_M_share_18 post o_at o_isOut vw x1) n_18 x2 x3 → ∀ (H : Heap) (locs : List Loc) (ls : Array Slot), va_P D gCl [(h_w, .inl (cI, 8, .inl vw)), (h_o, .inr (3, [.ref h_w, .ref o_tape, .int o_length, .int o_spent, .ref h_b, .int o_many, .int o_at, .int o_isOut, .ref o_row, .int o_values, .int o_failures, .int o_works])), (h_b, .inl (cI, 256, .inl vb))] H → va_D A [(h_w, .inl (cI, 8, .inl vw)), (h_o, .inr (3, [.ref h_w, .ref o_tape, .int o_length, .int o_spent, .ref h_b, .int o_many, .int o_at, .int o_isOut, .ref o_row, .int o_values, .int o_failures, .int o_works])), (h_b, .inl (cI, 256, .inl vb))] → va_S A s.heap H locs → lv_has ls 4 [(3, .int x3), (2, .int x2), (1, .int x1), (0, .ref h_o)] → W p l e rm_M_share s m args below meth c H locs 0 0 Q (F0 m 18 ls []) := by
    clear hw hP hD hS hl
    intro o_at o_isOut x1 n_18
    induction n_18 with
    | zero => exact fun _ _ h => h.elim
    | succ n_18 ih_18 =>
      intro x2 x3 hw H locs ls hP hD hS hl
      have hw : wpF_M_share_18 post o_at o_isOut vw x1 (gL2 (wpF_M_share_18 post o_at o_isOut vw x1) n_18) x2 x3 := hw
      rw [wpF_M_share_18] at hw
      refine lv_iload_n hx hb d_M_share_18 rfl (lv_at hl 1 rfl) ?_
      refine lv_bipush (v := (nI 7)) hx hb d_M_share_19 (by decide) ?_
      refine lv_icmp_ge (tgt := 44) hx hb d_M_share_21 (by decide) (fun c21 => ?_) (fun c21 => ?_)
      · have hw := hw.1 c21
        refine lv_iload_n hx hb d_M_share_44 rfl (lv_at hl 1 rfl) ?_
        exact hret _ _ _ (o_at, o_isOut) _ _ hw rfl (gSubP hP [1, 2, 0] rfl) (hD.sub [1, 2, 0] rfl rfl) hS d_M_share_45
      · have hw := hw.2 c21
        refine lv_iload_n hx hb d_M_share_24 rfl (lv_at hl 0 rfl) ?_
        refine lv_iload_n hx hb d_M_share_25 rfl (lv_at hl 2 rfl) ?_
        refine lv_icmp_gt (tgt := 44) hx hb d_M_share_26 (by decide) (fun c26 => ?_) (fun c26 => ?_)
        · have hw := hw.1 c26
          refine lv_iload_n hx hb d_M_share_44 rfl (lv_at hl 1 rfl) ?_
          exact hret _ _ _ (o_at, o_isOut) _ _ hw rfl (gSubP hP [1, 2, 0] rfl) (hD.sub [1, 2, 0] rfl rfl) hS d_M_share_45
        · have hw := hw.2 c26
          refine lv_iinc (v := (x2 + (nI 1))) (lv' := [(2, .int (x2 + (nI 1))), (3, .int x3), (1, .int x1), (0, .ref h_o)]) hx hb d_M_share_29 hl (k := 1) rfl rfl (by decide) rfl (fun ls hl => ?_)
          refine lv_iload_n hx hb d_M_share_32 rfl (lv_at hl 1 rfl) ?_
          refine lv_aload_n hx hb d_M_share_33 rfl (lv_at hl 3 rfl) ?_
          refine gGet fx hK hP 1 rfl inM rfl (k := 0) (by decide) w_224 rfl d_M_share_34 ?_
          refine lv_iload_n hx hb d_M_share_37 rfl (lv_at hl 0 rfl) ?_
          refine va_iald hx hb hK hP 0 0 rfl rfl hw.1 d_M_share_38 ?_
          have hw := hw.2
          refine lv_iadd hx hb d_M_share_39 ?_
          refine lv_istore_n (lv' := [(3, .int (x3 + (vw ((x2 + (nI 1))).toNatClampNeg))), (2, .int (x2 + (nI 1))), (1, .int x1), (0, .ref h_o)]) hx hb d_M_share_40 rfl hl (by decide) rfl (fun ls hl => ?_)
          refine lv_goto (tgt := 18) hx hb d_M_share_41 (by decide) ?_
          exact ih_18 _ _ hw _ _ _ hP hD hS (lv_sub hl [0, 1, 2, 3] rfl)
  exact k_18 oat_3 oisOut_4 r_2 n_18 _ _ hw _ _ _ hP hD hS (lv_sub hl [0, 1, 2, 3] rfl)
def wpF_M_run_77 (post : Int32 → Int32 → Int32 → (Nat → Int32) → Prop) (o_length : Int32) (o_spent : Int32) (o_many : Int32) (o_values : Int32) (o_failures : Int32) (o_works : Int32) (vb : Nat → Int32) (vr : Nat → Int32) (x2 : Int32) (K_77 : Int32 → Int32 → Int32 → Int32 → Prop) (o_at : Int32) (o_isOut : Int32) (x4 : Int32) (x5 : Int32) : Prop :=
  ((x2 ≤ x5 → post x4 o_at o_isOut vr) ∧ (¬ x2 ≤ x5 → wp_M_bit (fun r_10 oat_11 oisOut_12 => K_77 oat_11 oisOut_12 (x4 + r_10) (x5 + (nI 1))) o_length o_spent o_many o_at o_isOut o_values o_failures o_works vb))
def wpF_M_run_104 (post : Int32 → Int32 → Int32 → (Nat → Int32) → Prop) (o_length : Int32) (o_spent : Int32) (o_many : Int32) (o_values : Int32) (o_failures : Int32) (o_works : Int32) (vb : Nat → Int32) (vr : Nat → Int32) (x2 : Int32) (K_104 : Int32 → Int32 → Int32 → Prop) (o_at : Int32) (o_isOut : Int32) (x5 : Int32) : Prop :=
  ((x2 ≤ x5 → post x5 o_at o_isOut vr) ∧ (¬ x2 ≤ x5 → ((¬ o_isOut = 0 → post x5 o_at o_isOut vr) ∧ (o_isOut = 0 → wp_M_bit (fun r_13 oat_14 oisOut_15 => ((¬ r_13 = 0 → post x5 oat_14 oisOut_15 vr) ∧ (r_13 = 0 → K_104 oat_14 oisOut_15 (x5 + (nI 1))))) o_length o_spent o_many o_at o_isOut o_values o_failures o_works vb))))
def wp_M_run (post : Int32 → Int32 → Int32 → (Nat → Int32) → Prop) (o_length : Int32) (o_spent : Int32) (o_many : Int32) (o_at : Int32) (o_isOut : Int32) (o_values : Int32) (o_failures : Int32) (o_works : Int32) (vb : Nat → Int32) (vr : Nat → Int32) (vw : Nat → Int32) (x1 : Int32) (x2 : Int32) (x3 : Int32) : Prop :=
  ((x1 = nI 0 → wp_M_plain (fun r_1 oat_2 oisOut_3 => post r_1 oat_2 oisOut_3 vr) o_length o_spent o_many (nI 0) (nI 0) o_values o_failures o_works vb x2) ∧ (¬ x1 = nI 0 → ((x1 = nI 1 → wp_M_thrifty (fun r_4 oat_5 oisOut_6 => post r_4 oat_5 oisOut_6 vr) o_length o_spent o_many (nI 0) (nI 0) o_values o_failures o_works vb x2) ∧ (¬ x1 = nI 1 → ((x1 = nI 2 → wp_M_coin (fun r_7 oat_8 oisOut_9 => post r_7 oat_8 oisOut_9 vr) o_length o_spent o_many (nI 0) (nI 0) o_values o_failures o_works vb x2 x3) ∧ (¬ x1 = nI 2 → ((x1 = nI 3 → (∃ n, gL4 (wpF_M_run_77 post o_length o_spent o_many o_values o_failures o_works vb vr x2) n (nI 0) (nI 0) (nI 0) (nI 0))) ∧ (¬ x1 = nI 3 → ((x1 = nI 4 → (∃ n, gL3 (wpF_M_run_104 post o_length o_spent o_many o_values o_failures o_works vb vr x2) n (nI 0) (nI 0) (nI 0))) ∧ (¬ x1 = nI 4 → ((x1 = nI 5 → wp_M_order (fun r_16 oat_17 oisOut_18 vr_19 => post r_16 oat_17 oisOut_18 vr_19) o_length o_spent o_many (nI 0) (nI 0) o_values o_failures o_works vb vr x2) ∧ (¬ x1 = nI 5 → ((x1 = nI 6 → wp_M_choice (fun r_20 oat_21 oisOut_22 => post r_20 oat_21 oisOut_22 vr) o_length o_spent o_many (nI 0) (nI 0) o_values o_failures o_works vb x2 x3) ∧ (¬ x1 = nI 6 → wp_M_share (fun r_23 oat_24 oisOut_25 => post r_23 oat_24 oisOut_25 vr) o_length o_spent o_many (nI 0) (nI 0) o_values o_failures o_works vb vw))))))))))))))
abbrev rm_M_run : Room := { frames := 3, cells := 0, slots := 0, locals := 70 }
theorem mf_M_run : gFV y_M_run b_M_run 6 (some .int) 3 := ⟨w_293, w_4, ⟨by decide, by decide, by decide +kernel⟩, w_292, ws_1_8⟩
set_option maxHeartbeats 4000000 in
set_option maxRecDepth 100000 in
theorem c_M_run (l : Launch) (D : va_G) (cI : ClassId) (h_o : Nat) (h_b : Nat) (h_r : Nat) (h_w : Nat) (o_tape : Nat) (o_length : Int32) (o_spent : Int32) (o_many : Int32) (o_at : Int32) (o_isOut : Int32) (o_values : Int32) (o_failures : Int32) (o_works : Int32) (vb : Nat → Int32) (vr : Nat → Int32) (vw : Nat → Int32) (x1 : Int32) (x2 : Int32) (x3 : Int32) (post : Int32 → Int32 → Int32 → (Nat → Int32) → Prop) (hw : wp_M_run post o_length o_spent o_many o_at o_isOut o_values o_failures o_works vb vr vw x1 x2 x3) :
    gMi l D [(cI, .int)] y_M_run b_M_run 6 .int rm_M_run [.ref h_o, .int x1, .int x2, .int x3] [(h_o, .inr (3, [.ref h_w, .ref o_tape, .int o_length, .int o_spent, .ref h_b, .int o_many, .int o_at, .int o_isOut, .ref h_r, .int o_values, .int o_failures, .int o_works])), (h_b, .inl (cI, 256, .inl vb)), (h_r, .inl (cI, 4, .inl vr)), (h_w, .inl (cI, 8, .inl vw))] (S := Int32 × Int32 × (Nat → Int32)) (fun u => [(h_o, .inr (3, [.ref h_w, .ref o_tape, .int o_length, .int o_spent, .ref h_b, .int o_many, .int u.1, .int u.2.1, .ref h_r, .int o_values, .int o_failures, .int o_works])), (h_b, .inl (cI, 256, .inl vb)), (h_r, .inl (cI, 4, .inl u.2.2)), (h_w, .inl (cI, 8, .inl vw))]) (fun r u => post r u.1 u.2.1 u.2.2) := by
  rw [wp_M_run] at hw
  refine gMi.of (by decide) (Nat.le_of_ble_eq_true rfl) (fun p e s m args below meth c A Q ls hx hb hml hown hts hN hK hA hP hD hret hl => ?_)
  have fx : CallFix p m c b_M_run 6 s args gG "TapeCounterModel" := ⟨hx, hb, hml, hown, hts⟩
  have hl : lv_has ls 6 [(0, .ref h_o), (1, .int x1), (2, .int x2), (3, .int x3)] := hl
  have hS : va_S A s.heap s.heap [] := va_S.rf
  refine lv_aload_n hx hb d_M_run_0 rfl (lv_at hl 0 rfl) ?_
  refine lv_iconst (v := (nI 0)) hx hb d_M_run_1 (by decide) ?_
  refine gPut fx hK hP hD hS 0 rfl inM tyM nmM rfl (k := 6) (by decide) w_230 rfl rfl rfl (Nat.le_of_ble_eq_true rfl) d_M_run_2 (fun H locs hP hD hS => ?_)
  have hP : va_P D gCl [(h_o, .inr (3, [.ref h_w, .ref o_tape, .int o_length, .int o_spent, .ref h_b, .int o_many, .int (nI 0), .int o_isOut, .ref h_r, .int o_values, .int o_failures, .int o_works])), (h_b, .inl (cI, 256, .inl vb)), (h_r, .inl (cI, 4, .inl vr)), (h_w, .inl (cI, 8, .inl vw))] H := hP
  have hD : va_D A [(h_o, .inr (3, [.ref h_w, .ref o_tape, .int o_length, .int o_spent, .ref h_b, .int o_many, .int (nI 0), .int o_isOut, .ref h_r, .int o_values, .int o_failures, .int o_works])), (h_b, .inl (cI, 256, .inl vb)), (h_r, .inl (cI, 4, .inl vr)), (h_w, .inl (cI, 8, .inl vw))] := hD
  refine lv_aload_n hx hb d_M_run_5 rfl (lv_at hl 0 rfl) ?_
  refine lv_iconst (v := (nI 0)) hx hb d_M_run_6 (by decide) ?_
  refine gPut fx hK hP hD hS 0 rfl inM tyM nmM rfl (k := 7) (by decide) w_231 rfl rfl rfl (Nat.le_of_ble_eq_true rfl) d_M_run_7 (fun H locs hP hD hS => ?_)
  have hP : va_P D gCl [(h_o, .inr (3, [.ref h_w, .ref o_tape, .int o_length, .int o_spent, .ref h_b, .int o_many, .int (nI 0), .int (nI 0), .ref h_r, .int o_values, .int o_failures, .int o_works])), (h_b, .inl (cI, 256, .inl vb)), (h_r, .inl (cI, 4, .inl vr)), (h_w, .inl (cI, 8, .inl vw))] H := hP
  have hD : va_D A [(h_o, .inr (3, [.ref h_w, .ref o_tape, .int o_length, .int o_spent, .ref h_b, .int o_many, .int (nI 0), .int (nI 0), .ref h_r, .int o_values, .int o_failures, .int o_works])), (h_b, .inl (cI, 256, .inl vb)), (h_r, .inl (cI, 4, .inl vr)), (h_w, .inl (cI, 8, .inl vw))] := hD
  refine lv_iload_n hx hb d_M_run_10 rfl (lv_at hl 1 rfl) ?_
  rcases Classical.em (x1 = nI 0) with c11_0 | c11_0
  · have hw := hw.1 c11_0
    refine g_sw (nI 0) (tgt := 52) hx hb d_M_run_11 c11_0 (by decide) (by decide) rfl (by decide) ?_
    refine lv_aload_n hx hb d_M_run_52 rfl (lv_at hl 0 rfl) ?_
    refine lv_iload_n hx hb d_M_run_53 rfl (lv_at hl 2 rfl) ?_
    refine g_cVi (wr := [(h_r, .inl (cI, 4, .inl vr)), (h_w, .inl (cI, 8, .inl vw))]) fx (c_M_plain l D cI h_o h_b h_w o_tape h_r o_length o_spent o_many (nI 0) (nI 0) o_values o_failures o_works vb x2 _ hw) mf_M_plain w_294 ⟨rfl, rfl⟩ ⟨Nat.le_of_ble_eq_true rfl, Nat.le_of_ble_eq_true rfl⟩ hN hK hA hP hD hS [0, 1] [2, 3] rfl rfl rfl rfl (by decide) 0 rfl rfl rfl rfl hl.1 (Nat.le_of_ble_eq_true rfl) d_M_run_54 ⟨Nat.zero_le _, Nat.zero_le _⟩ (fun r_1 u H locs hw hP hD hS => ?_)
    obtain ⟨oat_2, oisOut_3⟩ := u
    try dsimp only at hw
    have hP : va_P D gCl [(h_r, .inl (cI, 4, .inl vr)), (h_w, .inl (cI, 8, .inl vw)), (h_o, .inr (3, [.ref h_w, .ref o_tape, .int o_length, .int o_spent, .ref h_b, .int o_many, .int oat_2, .int oisOut_3, .ref h_r, .int o_values, .int o_failures, .int o_works])), (h_b, .inl (cI, 256, .inl vb))] H := hP
    have hD : va_D A [(h_r, .inl (cI, 4, .inl vr)), (h_w, .inl (cI, 8, .inl vw)), (h_o, .inr (3, [.ref h_w, .ref o_tape, .int o_length, .int o_spent, .ref h_b, .int o_many, .int oat_2, .int oisOut_3, .ref h_r, .int o_values, .int o_failures, .int o_works])), (h_b, .inl (cI, 256, .inl vb))] := hD
    exact hret _ _ _ (oat_2, oisOut_3, vr) _ _ hw rfl (gSubP hP [2, 3, 0, 1] rfl) (hD.sub [2, 3, 0, 1] rfl rfl) hS d_M_run_57
  · have hw := hw.2 c11_0
    rcases Classical.em (x1 = nI 1) with c11_1 | c11_1
    · have hw := hw.1 c11_1
      refine g_sw (nI 1) (tgt := 58) hx hb d_M_run_11 c11_1 (by decide) (by decide) rfl (by decide) ?_
      refine lv_aload_n hx hb d_M_run_58 rfl (lv_at hl 0 rfl) ?_
      refine lv_iload_n hx hb d_M_run_59 rfl (lv_at hl 2 rfl) ?_
      refine g_cVi (wr := [(h_r, .inl (cI, 4, .inl vr)), (h_w, .inl (cI, 8, .inl vw))]) fx (c_M_thrifty l D cI h_o h_b h_w o_tape h_r o_length o_spent o_many (nI 0) (nI 0) o_values o_failures o_works vb x2 _ hw) mf_M_thrifty w_302 ⟨rfl, rfl⟩ ⟨Nat.le_of_ble_eq_true rfl, Nat.le_of_ble_eq_true rfl⟩ hN hK hA hP hD hS [0, 1] [2, 3] rfl rfl rfl rfl (by decide) 0 rfl rfl rfl rfl hl.1 (Nat.le_of_ble_eq_true rfl) d_M_run_60 ⟨Nat.zero_le _, Nat.zero_le _⟩ (fun r_4 u H locs hw hP hD hS => ?_)
      obtain ⟨oat_5, oisOut_6⟩ := u
      try dsimp only at hw
      have hP : va_P D gCl [(h_r, .inl (cI, 4, .inl vr)), (h_w, .inl (cI, 8, .inl vw)), (h_o, .inr (3, [.ref h_w, .ref o_tape, .int o_length, .int o_spent, .ref h_b, .int o_many, .int oat_5, .int oisOut_6, .ref h_r, .int o_values, .int o_failures, .int o_works])), (h_b, .inl (cI, 256, .inl vb))] H := hP
      have hD : va_D A [(h_r, .inl (cI, 4, .inl vr)), (h_w, .inl (cI, 8, .inl vw)), (h_o, .inr (3, [.ref h_w, .ref o_tape, .int o_length, .int o_spent, .ref h_b, .int o_many, .int oat_5, .int oisOut_6, .ref h_r, .int o_values, .int o_failures, .int o_works])), (h_b, .inl (cI, 256, .inl vb))] := hD
      exact hret _ _ _ (oat_5, oisOut_6, vr) _ _ hw rfl (gSubP hP [2, 3, 0, 1] rfl) (hD.sub [2, 3, 0, 1] rfl rfl) hS d_M_run_63
    · have hw := hw.2 c11_1
      rcases Classical.em (x1 = nI 2) with c11_2 | c11_2
      · have hw := hw.1 c11_2
        refine g_sw (nI 2) (tgt := 64) hx hb d_M_run_11 c11_2 (by decide) (by decide) rfl (by decide) ?_
        refine lv_aload_n hx hb d_M_run_64 rfl (lv_at hl 0 rfl) ?_
        refine lv_iload_n hx hb d_M_run_65 rfl (lv_at hl 2 rfl) ?_
        refine lv_iload_n hx hb d_M_run_66 rfl (lv_at hl 3 rfl) ?_
        refine g_cVi (wr := [(h_r, .inl (cI, 4, .inl vr)), (h_w, .inl (cI, 8, .inl vw))]) fx (c_M_coin l D cI h_o h_b h_w o_tape h_r o_length o_spent o_many (nI 0) (nI 0) o_values o_failures o_works vb x2 x3 _ hw) mf_M_coin w_306 ⟨rfl, rfl⟩ ⟨Nat.le_of_ble_eq_true rfl, Nat.le_of_ble_eq_true rfl⟩ hN hK hA hP hD hS [0, 1] [2, 3] rfl rfl rfl rfl (by decide) 0 rfl rfl rfl rfl hl.1 (Nat.le_of_ble_eq_true rfl) d_M_run_67 ⟨Nat.zero_le _, Nat.zero_le _⟩ (fun r_7 u H locs hw hP hD hS => ?_)
        obtain ⟨oat_8, oisOut_9⟩ := u
        try dsimp only at hw
        have hP : va_P D gCl [(h_r, .inl (cI, 4, .inl vr)), (h_w, .inl (cI, 8, .inl vw)), (h_o, .inr (3, [.ref h_w, .ref o_tape, .int o_length, .int o_spent, .ref h_b, .int o_many, .int oat_8, .int oisOut_9, .ref h_r, .int o_values, .int o_failures, .int o_works])), (h_b, .inl (cI, 256, .inl vb))] H := hP
        have hD : va_D A [(h_r, .inl (cI, 4, .inl vr)), (h_w, .inl (cI, 8, .inl vw)), (h_o, .inr (3, [.ref h_w, .ref o_tape, .int o_length, .int o_spent, .ref h_b, .int o_many, .int oat_8, .int oisOut_9, .ref h_r, .int o_values, .int o_failures, .int o_works])), (h_b, .inl (cI, 256, .inl vb))] := hD
        exact hret _ _ _ (oat_8, oisOut_9, vr) _ _ hw rfl (gSubP hP [2, 3, 0, 1] rfl) (hD.sub [2, 3, 0, 1] rfl rfl) hS d_M_run_70
      · have hw := hw.2 c11_2
        rcases Classical.em (x1 = nI 3) with c11_3 | c11_3
        · have hw := hw.1 c11_3
          refine g_sw (nI 3) (tgt := 71) hx hb d_M_run_11 c11_3 (by decide) (by decide) rfl (by decide) ?_
          refine lv_iconst (v := (nI 0)) hx hb d_M_run_71 (by decide) ?_
          refine lv_istore (lv' := [(4, .int (nI 0)), (0, .ref h_o), (1, .int x1), (2, .int x2), (3, .int x3)]) hx hb d_M_run_72 hl (by decide) rfl (fun ls hl => ?_)
          refine lv_iconst (v := (nI 0)) hx hb d_M_run_74 (by decide) ?_
          refine lv_istore (lv' := [(5, .int (nI 0)), (4, .int (nI 0)), (0, .ref h_o), (1, .int x1), (2, .int x2), (3, .int x3)]) hx hb d_M_run_75 hl (by decide) rfl (fun ls hl => ?_)
          obtain ⟨n_77, hw⟩ := hw
          have k_77 : ∀ (n_77 : Nat) (o_at : Int32) (o_isOut : Int32) (x4 : Int32) (x5 : Int32), gL4 (wpF_M_run_77 post o_length o_spent o_many o_values o_failures o_works vb vr x2) n_77 o_at o_isOut x4 x5 → ∀ (H : Heap) (locs : List Loc) (ls : Array Slot), va_P D gCl [(h_o, .inr (3, [.ref h_w, .ref o_tape, .int o_length, .int o_spent, .ref h_b, .int o_many, .int o_at, .int o_isOut, .ref h_r, .int o_values, .int o_failures, .int o_works])), (h_b, .inl (cI, 256, .inl vb)), (h_r, .inl (cI, 4, .inl vr)), (h_w, .inl (cI, 8, .inl vw))] H → va_D A [(h_o, .inr (3, [.ref h_w, .ref o_tape, .int o_length, .int o_spent, .ref h_b, .int o_many, .int o_at, .int o_isOut, .ref h_r, .int o_values, .int o_failures, .int o_works])), (h_b, .inl (cI, 256, .inl vb)), (h_r, .inl (cI, 4, .inl vr)), (h_w, .inl (cI, 8, .inl vw))] → va_S A s.heap H locs → lv_has ls 6 [(5, .int x5), (4, .int x4), (0, .ref h_o), (2, .int x2)] → W p l e rm_M_run s m args below meth c H locs 0 0 Q (F0 m 77 ls []) := by
            clear hw hP hD hS hl
            intro n_77
            induction n_77 with
            | zero => exact fun _ _ _ _ h => h.elim
            | succ n_77 ih_77 =>
              intro o_at o_isOut x4 x5 hw H locs ls hP hD hS hl
              have hw : wpF_M_run_77 post o_length o_spent o_many o_values o_failures o_works vb vr x2 (gL4 (wpF_M_run_77 post o_length o_spent o_many o_values o_failures o_works vb vr x2) n_77) o_at o_isOut x4 x5 := hw
              rw [wpF_M_run_77] at hw
              refine lv_iload hx hb d_M_run_77 (lv_at hl 0 rfl) ?_
              refine lv_iload_n hx hb d_M_run_79 rfl (lv_at hl 3 rfl) ?_
              refine lv_icmp_ge (tgt := 98) hx hb d_M_run_80 (by decide) (fun c80 => ?_) (fun c80 => ?_)
              · have hw := hw.1 c80
                refine lv_iload hx hb d_M_run_98 (lv_at hl 1 rfl) ?_
                exact hret _ _ _ (o_at, o_isOut, vr) _ _ hw rfl hP hD hS d_M_run_100
              · have hw := hw.2 c80
                refine lv_iload hx hb d_M_run_83 (lv_at hl 1 rfl) ?_
                refine lv_aload_n hx hb d_M_run_85 rfl (lv_at hl 2 rfl) ?_
                refine g_cVi (wr := [(h_r, .inl (cI, 4, .inl vr)), (h_w, .inl (cI, 8, .inl vw))]) fx (c_M_bit l D cI h_o h_b h_w o_tape h_r o_length o_spent o_many o_at o_isOut o_values o_failures o_works vb _ hw) mf_M_bit w_298 ⟨rfl, rfl⟩ ⟨Nat.le_of_ble_eq_true rfl, Nat.le_of_ble_eq_true rfl⟩ hN hK hA hP hD hS [0, 1] [2, 3] rfl rfl rfl rfl (by decide) 0 rfl rfl rfl rfl hl.1 (Nat.le_of_ble_eq_true rfl) d_M_run_86 ⟨Nat.zero_le _, Nat.zero_le _⟩ (fun r_10 u H locs hw hP hD hS => ?_)
                obtain ⟨oat_11, oisOut_12⟩ := u
                try dsimp only at hw
                have hP : va_P D gCl [(h_r, .inl (cI, 4, .inl vr)), (h_w, .inl (cI, 8, .inl vw)), (h_o, .inr (3, [.ref h_w, .ref o_tape, .int o_length, .int o_spent, .ref h_b, .int o_many, .int oat_11, .int oisOut_12, .ref h_r, .int o_values, .int o_failures, .int o_works])), (h_b, .inl (cI, 256, .inl vb))] H := hP
                have hD : va_D A [(h_r, .inl (cI, 4, .inl vr)), (h_w, .inl (cI, 8, .inl vw)), (h_o, .inr (3, [.ref h_w, .ref o_tape, .int o_length, .int o_spent, .ref h_b, .int o_many, .int oat_11, .int oisOut_12, .ref h_r, .int o_values, .int o_failures, .int o_works])), (h_b, .inl (cI, 256, .inl vb))] := hD
                refine lv_iadd hx hb d_M_run_89 ?_
                refine lv_istore (lv' := [(4, .int (x4 + r_10)), (5, .int x5), (0, .ref h_o), (2, .int x2)]) hx hb d_M_run_90 hl (by decide) rfl (fun ls hl => ?_)
                refine lv_iinc (v := (x5 + (nI 1))) (lv' := [(5, .int (x5 + (nI 1))), (4, .int (x4 + r_10)), (0, .ref h_o), (2, .int x2)]) hx hb d_M_run_92 hl (k := 1) rfl rfl (by decide) rfl (fun ls hl => ?_)
                refine lv_goto (tgt := 77) hx hb d_M_run_95 (by decide) ?_
                exact ih_77 _ _ _ _ hw _ _ _ (gSubP hP [2, 3, 0, 1] rfl) (hD.sub [2, 3, 0, 1] rfl rfl) hS (lv_sub hl [0, 1, 2, 3] rfl)
          exact k_77 n_77 _ _ _ _ hw _ _ _ hP hD hS (lv_sub hl [0, 1, 2, 4] rfl)
        · have hw := hw.2 c11_3
          rcases Classical.em (x1 = nI 4) with c11_4 | c11_4
          · have hw := hw.1 c11_4
            refine g_sw (nI 4) (tgt := 101) hx hb d_M_run_11 c11_4 (by decide) (by decide) rfl (by decide) ?_
            refine lv_iconst (v := (nI 0)) hx hb d_M_run_101 (by decide) ?_
            refine lv_istore (lv' := [(5, .int (nI 0)), (0, .ref h_o), (1, .int x1), (2, .int x2), (3, .int x3)]) hx hb d_M_run_102 hl (by decide) rfl (fun ls hl => ?_)
            obtain ⟨n_104, hw⟩ := hw
            have k_104 : ∀ (n_104 : Nat) (o_at : Int32) (o_isOut : Int32) (x5 : Int32), gL3 (wpF_M_run_104 post o_length o_spent o_many o_values o_failures o_works vb vr x2) n_104 o_at o_isOut x5 → ∀ (H : Heap) (locs : List Loc) (ls : Array Slot), va_P D gCl [(h_o, .inr (3, [.ref h_w, .ref o_tape, .int o_length, .int o_spent, .ref h_b, .int o_many, .int o_at, .int o_isOut, .ref h_r, .int o_values, .int o_failures, .int o_works])), (h_b, .inl (cI, 256, .inl vb)), (h_r, .inl (cI, 4, .inl vr)), (h_w, .inl (cI, 8, .inl vw))] H → va_D A [(h_o, .inr (3, [.ref h_w, .ref o_tape, .int o_length, .int o_spent, .ref h_b, .int o_many, .int o_at, .int o_isOut, .ref h_r, .int o_values, .int o_failures, .int o_works])), (h_b, .inl (cI, 256, .inl vb)), (h_r, .inl (cI, 4, .inl vr)), (h_w, .inl (cI, 8, .inl vw))] → va_S A s.heap H locs → lv_has ls 6 [(5, .int x5), (0, .ref h_o), (2, .int x2)] → W p l e rm_M_run s m args below meth c H locs 0 0 Q (F0 m 104 ls []) := by
              clear hw hP hD hS hl
              intro n_104
              induction n_104 with
              | zero => exact fun _ _ _ h => h.elim
              | succ n_104 ih_104 =>
                intro o_at o_isOut x5 hw H locs ls hP hD hS hl
                have hw : wpF_M_run_104 post o_length o_spent o_many o_values o_failures o_works vb vr x2 (gL3 (wpF_M_run_104 post o_length o_spent o_many o_values o_failures o_works vb vr x2) n_104) o_at o_isOut x5 := hw
                rw [wpF_M_run_104] at hw
                refine lv_iload hx hb d_M_run_104 (lv_at hl 0 rfl) ?_
                refine lv_iload_n hx hb d_M_run_106 rfl (lv_at hl 2 rfl) ?_
                refine lv_icmp_ge (tgt := 130) hx hb d_M_run_107 (by decide) (fun c107 => ?_) (fun c107 => ?_)
                · have hw := hw.1 c107
                  refine lv_iload hx hb d_M_run_130 (lv_at hl 0 rfl) ?_
                  exact hret _ _ _ (o_at, o_isOut, vr) _ _ hw rfl hP hD hS d_M_run_132
                · have hw := hw.2 c107
                  refine lv_aload_n hx hb d_M_run_110 rfl (lv_at hl 1 rfl) ?_
                  refine gGet fx hK hP 0 rfl inM rfl (k := 7) (by decide) w_231 rfl d_M_run_111 ?_
                  refine lv_if_ne (tgt := 130) hx hb d_M_run_114 (by decide) (fun c114 => ?_) (fun c114 => ?_)
                  · have hw := hw.1 c114
                    refine lv_iload hx hb d_M_run_130 (lv_at hl 0 rfl) ?_
                    exact hret _ _ _ (o_at, o_isOut, vr) _ _ hw rfl hP hD hS d_M_run_132
                  · have hw := hw.2 c114
                    refine lv_aload_n hx hb d_M_run_117 rfl (lv_at hl 1 rfl) ?_
                    refine g_cVi (wr := [(h_r, .inl (cI, 4, .inl vr)), (h_w, .inl (cI, 8, .inl vw))]) fx (c_M_bit l D cI h_o h_b h_w o_tape h_r o_length o_spent o_many o_at o_isOut o_values o_failures o_works vb _ hw) mf_M_bit w_298 ⟨rfl, rfl⟩ ⟨Nat.le_of_ble_eq_true rfl, Nat.le_of_ble_eq_true rfl⟩ hN hK hA hP hD hS [0, 1] [2, 3] rfl rfl rfl rfl (by decide) 0 rfl rfl rfl rfl hl.1 (Nat.le_of_ble_eq_true rfl) d_M_run_118 ⟨Nat.zero_le _, Nat.zero_le _⟩ (fun r_13 u H locs hw hP hD hS => ?_)
                    obtain ⟨oat_14, oisOut_15⟩ := u
                    try dsimp only at hw
                    have hP : va_P D gCl [(h_r, .inl (cI, 4, .inl vr)), (h_w, .inl (cI, 8, .inl vw)), (h_o, .inr (3, [.ref h_w, .ref o_tape, .int o_length, .int o_spent, .ref h_b, .int o_many, .int oat_14, .int oisOut_15, .ref h_r, .int o_values, .int o_failures, .int o_works])), (h_b, .inl (cI, 256, .inl vb))] H := hP
                    have hD : va_D A [(h_r, .inl (cI, 4, .inl vr)), (h_w, .inl (cI, 8, .inl vw)), (h_o, .inr (3, [.ref h_w, .ref o_tape, .int o_length, .int o_spent, .ref h_b, .int o_many, .int oat_14, .int oisOut_15, .ref h_r, .int o_values, .int o_failures, .int o_works])), (h_b, .inl (cI, 256, .inl vb))] := hD
                    refine lv_if_ne (tgt := 130) hx hb d_M_run_121 (by decide) (fun c121 => ?_) (fun c121 => ?_)
                    · have hw := hw.1 c121
                      refine lv_iload hx hb d_M_run_130 (lv_at hl 0 rfl) ?_
                      exact hret _ _ _ (oat_14, oisOut_15, vr) _ _ hw rfl (gSubP hP [2, 3, 0, 1] rfl) (hD.sub [2, 3, 0, 1] rfl rfl) hS d_M_run_132
                    · have hw := hw.2 c121
                      refine lv_iinc (v := (x5 + (nI 1))) (lv' := [(5, .int (x5 + (nI 1))), (0, .ref h_o), (2, .int x2)]) hx hb d_M_run_124 hl (k := 0) rfl rfl (by decide) rfl (fun ls hl => ?_)
                      refine lv_goto (tgt := 104) hx hb d_M_run_127 (by decide) ?_
                      exact ih_104 _ _ _ hw _ _ _ (gSubP hP [2, 3, 0, 1] rfl) (hD.sub [2, 3, 0, 1] rfl rfl) hS (lv_sub hl [0, 1, 2] rfl)
            exact k_104 n_104 _ _ _ hw _ _ _ hP hD hS (lv_sub hl [0, 1, 3] rfl)
          · have hw := hw.2 c11_4
            rcases Classical.em (x1 = nI 5) with c11_5 | c11_5
            · have hw := hw.1 c11_5
              refine g_sw (nI 5) (tgt := 133) hx hb d_M_run_11 c11_5 (by decide) (by decide) rfl (by decide) ?_
              refine lv_aload_n hx hb d_M_run_133 rfl (lv_at hl 0 rfl) ?_
              refine lv_iload_n hx hb d_M_run_134 rfl (lv_at hl 2 rfl) ?_
              refine g_cVi (wr := [(h_w, .inl (cI, 8, .inl vw))]) fx (c_M_order l D cI h_o h_b h_r h_w o_tape o_length o_spent o_many (nI 0) (nI 0) o_values o_failures o_works vb vr x2 _ hw) mf_M_order w_310 ⟨rfl, rfl⟩ ⟨Nat.le_of_ble_eq_true rfl, Nat.le_of_ble_eq_true rfl⟩ hN hK hA hP hD hS [0, 1, 2] [3] rfl rfl rfl rfl (by decide) 0 rfl rfl rfl rfl hl.1 (Nat.le_of_ble_eq_true rfl) d_M_run_135 ⟨Nat.zero_le _, Nat.zero_le _⟩ (fun r_16 u H locs hw hP hD hS => ?_)
              obtain ⟨oat_17, oisOut_18, vr_19⟩ := u
              try dsimp only at hw
              have hP : va_P D gCl [(h_w, .inl (cI, 8, .inl vw)), (h_o, .inr (3, [.ref h_w, .ref o_tape, .int o_length, .int o_spent, .ref h_b, .int o_many, .int oat_17, .int oisOut_18, .ref h_r, .int o_values, .int o_failures, .int o_works])), (h_b, .inl (cI, 256, .inl vb)), (h_r, .inl (cI, 4, .inl vr_19))] H := hP
              have hD : va_D A [(h_w, .inl (cI, 8, .inl vw)), (h_o, .inr (3, [.ref h_w, .ref o_tape, .int o_length, .int o_spent, .ref h_b, .int o_many, .int oat_17, .int oisOut_18, .ref h_r, .int o_values, .int o_failures, .int o_works])), (h_b, .inl (cI, 256, .inl vb)), (h_r, .inl (cI, 4, .inl vr_19))] := hD
              exact hret _ _ _ (oat_17, oisOut_18, vr_19) _ _ hw rfl (gSubP hP [1, 2, 3, 0] rfl) (hD.sub [1, 2, 3, 0] rfl rfl) hS d_M_run_138
            · have hw := hw.2 c11_5
              rcases Classical.em (x1 = nI 6) with c11_6 | c11_6
              · have hw := hw.1 c11_6
                refine g_sw (nI 6) (tgt := 139) hx hb d_M_run_11 c11_6 (by decide) (by decide) rfl (by decide) ?_
                refine lv_aload_n hx hb d_M_run_139 rfl (lv_at hl 0 rfl) ?_
                refine lv_iload_n hx hb d_M_run_140 rfl (lv_at hl 2 rfl) ?_
                refine lv_iload_n hx hb d_M_run_141 rfl (lv_at hl 3 rfl) ?_
                refine g_cVi (wr := [(h_r, .inl (cI, 4, .inl vr)), (h_w, .inl (cI, 8, .inl vw))]) fx (c_M_choice l D cI h_o h_b h_w o_tape h_r o_length o_spent o_many (nI 0) (nI 0) o_values o_failures o_works vb x2 x3 _ hw) mf_M_choice w_314 ⟨rfl, rfl⟩ ⟨Nat.le_of_ble_eq_true rfl, Nat.le_of_ble_eq_true rfl⟩ hN hK hA hP hD hS [0, 1] [2, 3] rfl rfl rfl rfl (by decide) 0 rfl rfl rfl rfl hl.1 (Nat.le_of_ble_eq_true rfl) d_M_run_142 ⟨Nat.zero_le _, Nat.zero_le _⟩ (fun r_20 u H locs hw hP hD hS => ?_)
                obtain ⟨oat_21, oisOut_22⟩ := u
                try dsimp only at hw
                have hP : va_P D gCl [(h_r, .inl (cI, 4, .inl vr)), (h_w, .inl (cI, 8, .inl vw)), (h_o, .inr (3, [.ref h_w, .ref o_tape, .int o_length, .int o_spent, .ref h_b, .int o_many, .int oat_21, .int oisOut_22, .ref h_r, .int o_values, .int o_failures, .int o_works])), (h_b, .inl (cI, 256, .inl vb))] H := hP
                have hD : va_D A [(h_r, .inl (cI, 4, .inl vr)), (h_w, .inl (cI, 8, .inl vw)), (h_o, .inr (3, [.ref h_w, .ref o_tape, .int o_length, .int o_spent, .ref h_b, .int o_many, .int oat_21, .int oisOut_22, .ref h_r, .int o_values, .int o_failures, .int o_works])), (h_b, .inl (cI, 256, .inl vb))] := hD
                exact hret _ _ _ (oat_21, oisOut_22, vr) _ _ hw rfl (gSubP hP [2, 3, 0, 1] rfl) (hD.sub [2, 3, 0, 1] rfl rfl) hS d_M_run_145
              · have hw := hw.2 c11_6
                refine lv_tableOut (tgt := 146) hx hb d_M_run_11 (by have h := g_out (x := x1) (n := 7) (by decide) (fun j hj => by rcases (show j = 0 ∨ j = 1 ∨ j = 2 ∨ j = 3 ∨ j = 4 ∨ j = 5 ∨ j = 6 by omega) with rfl | rfl | rfl | rfl | rfl | rfl | rfl <;> assumption); omega) (by decide) ?_
                refine lv_aload_n hx hb d_M_run_146 rfl (lv_at hl 0 rfl) ?_
                refine g_cVi (wr := [(h_r, .inl (cI, 4, .inl vr))]) fx (c_M_share l D cI h_o h_b h_w o_tape h_r o_length o_spent o_many (nI 0) (nI 0) o_values o_failures o_works vb vw _ hw) mf_M_share w_318 ⟨rfl, rfl⟩ ⟨Nat.le_of_ble_eq_true rfl, Nat.le_of_ble_eq_true rfl⟩ hN hK hA hP hD hS [0, 1, 3] [2] rfl rfl rfl rfl (by decide) 0 rfl rfl rfl rfl hl.1 (Nat.le_of_ble_eq_true rfl) d_M_run_147 ⟨Nat.zero_le _, Nat.zero_le _⟩ (fun r_23 u H locs hw hP hD hS => ?_)
                obtain ⟨oat_24, oisOut_25⟩ := u
                try dsimp only at hw
                have hP : va_P D gCl [(h_r, .inl (cI, 4, .inl vr)), (h_o, .inr (3, [.ref h_w, .ref o_tape, .int o_length, .int o_spent, .ref h_b, .int o_many, .int oat_24, .int oisOut_25, .ref h_r, .int o_values, .int o_failures, .int o_works])), (h_b, .inl (cI, 256, .inl vb)), (h_w, .inl (cI, 8, .inl vw))] H := hP
                have hD : va_D A [(h_r, .inl (cI, 4, .inl vr)), (h_o, .inr (3, [.ref h_w, .ref o_tape, .int o_length, .int o_spent, .ref h_b, .int o_many, .int oat_24, .int oisOut_25, .ref h_r, .int o_values, .int o_failures, .int o_works])), (h_b, .inl (cI, 256, .inl vb)), (h_w, .inl (cI, 8, .inl vw))] := hD
                exact hret _ _ _ (oat_24, oisOut_25, vr) _ _ hw rfl (gSubP hP [1, 2, 0, 3] rfl) (hD.sub [1, 2, 0, 3] rfl rfl) hS d_M_run_150
def wpF_M_draw_76 (post : Int32 → Int32 → Int32 → Int32 → Int32 → Int32 → (Nat → Int32) → (Nat → Int32) → (Nat → Int32) → Prop) (o_length : Int32) (o_many : Int32) (o_at : Int32) (o_isOut : Int32) (vb : Nat → Int32) (vr : Nat → Int32) (x4 : Int32) (K_76 : (Nat → Int32) → Int32 → Prop) (vq : Nat → Int32) (x5 : Int32) : Prop :=
  ((o_length ≤ x5 → post x4 (o_length - o_at) o_at o_many o_at o_isOut vb vr vq) ∧ (¬ o_length ≤ x5 → (vp_in x5 256 ∧ (vp_in (x5 - o_at) 256 ∧ K_76 (upd vq ((x5 - o_at)).toNatClampNeg (vq (x5).toNatClampNeg)) (x5 + (nI 1))))))
def wpF_M_draw_15 (post : Int32 → Int32 → Int32 → Int32 → Int32 → Int32 → (Nat → Int32) → (Nat → Int32) → (Nat → Int32) → Prop) (o_length : Int32) (o_spent : Int32) (o_at : Int32) (o_isOut : Int32) (o_values : Int32) (o_failures : Int32) (o_works : Int32) (vr : Nat → Int32) (vw : Nat → Int32) (vq : Nat → Int32) (x1 : Int32) (x2 : Int32) (x3 : Int32) (K_15 : (Nat → Int32) → Int32 → Prop) (vb : Nat → Int32) (x4 : Int32) : Prop :=
  ((o_length ≤ x4 → wp_M_run (fun r_2 oat_3 oisOut_4 vr_5 => ((oisOut_4 = 0 → (∃ n, gL2 (wpF_M_draw_76 post o_length o_length oat_3 oisOut_4 vb vr_5 r_2) n vq oat_3)) ∧ (¬ oisOut_4 = 0 → post (-1) o_length o_spent o_length oat_3 oisOut_4 vb vr_5 vq))) o_length o_spent o_length o_at o_isOut o_values o_failures o_works vb vr vw x1 x2 x3) ∧ (¬ o_length ≤ x4 → (vp_in x4 256 ∧ (vp_in x4 256 ∧ K_15 (upd vb (x4).toNatClampNeg (vq (x4).toNatClampNeg)) (x4 + (nI 1))))))
def wp_M_draw (post : Int32 → Int32 → Int32 → Int32 → Int32 → Int32 → (Nat → Int32) → (Nat → Int32) → (Nat → Int32) → Prop) (o_length : Int32) (o_spent : Int32) (o_many : Int32) (o_at : Int32) (o_isOut : Int32) (o_values : Int32) (o_failures : Int32) (o_works : Int32) (vb : Nat → Int32) (vr : Nat → Int32) (vw : Nat → Int32) (vq : Nat → Int32) (x1 : Int32) (x2 : Int32) (x3 : Int32) : Prop :=
  wp_M_isOne (fun r_1 => ((¬ r_1 = 0 → (∃ n, gL2 (wpF_M_draw_15 post o_length o_spent o_at o_isOut o_values o_failures o_works vr vw vq x1 x2 x3) n vb (nI 0))) ∧ (r_1 = 0 → post (-1) o_length o_spent o_many o_at o_isOut vb vr vq))) o_length o_spent o_many o_at o_isOut o_values o_failures o_works vw x1 x2 x3
abbrev rm_M_draw : Room := { frames := 4, cells := 0, slots := 0, locals := 95 }
theorem mf_M_draw : gFV y_M_draw b_M_draw 6 (some .int) 3 := ⟨w_288, w_4, ⟨by decide, by decide, by decide +kernel⟩, w_286, w_287⟩
set_option maxHeartbeats 4000000 in
set_option maxRecDepth 100000 in
theorem c_M_draw (l : Launch) (D : va_G) (cI : ClassId) (h_o : Nat) (h_b : Nat) (h_r : Nat) (h_w : Nat) (h_q : Nat) (o_length : Int32) (o_spent : Int32) (o_many : Int32) (o_at : Int32) (o_isOut : Int32) (o_values : Int32) (o_failures : Int32) (o_works : Int32) (vb : Nat → Int32) (vr : Nat → Int32) (vw : Nat → Int32) (vq : Nat → Int32) (x1 : Int32) (x2 : Int32) (x3 : Int32) (post : Int32 → Int32 → Int32 → Int32 → Int32 → Int32 → (Nat → Int32) → (Nat → Int32) → (Nat → Int32) → Prop) (hw : wp_M_draw post o_length o_spent o_many o_at o_isOut o_values o_failures o_works vb vr vw vq x1 x2 x3) :
    gMi l D [(cI, .int)] y_M_draw b_M_draw 6 .int rm_M_draw [.ref h_o, .int x1, .int x2, .int x3] [(h_o, .inr (3, [.ref h_w, .ref h_q, .int o_length, .int o_spent, .ref h_b, .int o_many, .int o_at, .int o_isOut, .ref h_r, .int o_values, .int o_failures, .int o_works])), (h_b, .inl (cI, 256, .inl vb)), (h_r, .inl (cI, 4, .inl vr)), (h_w, .inl (cI, 8, .inl vw)), (h_q, .inl (cI, 256, .inl vq))] (S := Int32 × Int32 × Int32 × Int32 × Int32 × (Nat → Int32) × (Nat → Int32) × (Nat → Int32)) (fun u => [(h_o, .inr (3, [.ref h_w, .ref h_q, .int u.1, .int u.2.1, .ref h_b, .int u.2.2.1, .int u.2.2.2.1, .int u.2.2.2.2.1, .ref h_r, .int o_values, .int o_failures, .int o_works])), (h_b, .inl (cI, 256, .inl u.2.2.2.2.2.1)), (h_r, .inl (cI, 4, .inl u.2.2.2.2.2.2.1)), (h_w, .inl (cI, 8, .inl vw)), (h_q, .inl (cI, 256, .inl u.2.2.2.2.2.2.2))]) (fun r u => post r u.1 u.2.1 u.2.2.1 u.2.2.2.1 u.2.2.2.2.1 u.2.2.2.2.2.1 u.2.2.2.2.2.2.1 u.2.2.2.2.2.2.2) := by
  rw [wp_M_draw] at hw
  refine gMi.of (by decide) (Nat.le_of_ble_eq_true rfl) (fun p e s m args below meth c A Q ls hx hb hml hown hts hN hK hA hP hD hret hl => ?_)
  have fx : CallFix p m c b_M_draw 6 s args gG "TapeCounterModel" := ⟨hx, hb, hml, hown, hts⟩
  have hl : lv_has ls 6 [(0, .ref h_o), (1, .int x1), (2, .int x2), (3, .int x3)] := hl
  have hS : va_S A s.heap s.heap [] := va_S.rf
  refine lv_aload_n hx hb d_M_draw_0 rfl (lv_at hl 0 rfl) ?_
  refine lv_iload_n hx hb d_M_draw_1 rfl (lv_at hl 1 rfl) ?_
  refine lv_iload_n hx hb d_M_draw_2 rfl (lv_at hl 2 rfl) ?_
  refine lv_iload_n hx hb d_M_draw_3 rfl (lv_at hl 3 rfl) ?_
  refine g_cVi (wr := [(h_b, .inl (cI, 256, .inl vb)), (h_r, .inl (cI, 4, .inl vr)), (h_q, .inl (cI, 256, .inl vq))]) fx (c_M_isOne l D cI h_o h_w h_q h_b h_r o_length o_spent o_many o_at o_isOut o_values o_failures o_works vw x1 x2 x3 _ hw) mf_M_isOne w_289 ⟨rfl, rfl⟩ ⟨Nat.le_of_ble_eq_true rfl, Nat.le_of_ble_eq_true rfl⟩ hN hK hA hP hD hS [0, 3] [1, 2, 4] rfl rfl rfl rfl (by decide) 0 rfl rfl rfl rfl hl.1 (Nat.le_of_ble_eq_true rfl) d_M_draw_4 ⟨Nat.zero_le _, Nat.zero_le _⟩ (fun r_1 u H locs hw hP hD hS => ?_)
  try dsimp only at hw
  have hP : va_P D gCl [(h_b, .inl (cI, 256, .inl vb)), (h_r, .inl (cI, 4, .inl vr)), (h_q, .inl (cI, 256, .inl vq)), (h_o, .inr (3, [.ref h_w, .ref h_q, .int o_length, .int o_spent, .ref h_b, .int o_many, .int o_at, .int o_isOut, .ref h_r, .int o_values, .int o_failures, .int o_works])), (h_w, .inl (cI, 8, .inl vw))] H := hP
  have hD : va_D A [(h_b, .inl (cI, 256, .inl vb)), (h_r, .inl (cI, 4, .inl vr)), (h_q, .inl (cI, 256, .inl vq)), (h_o, .inr (3, [.ref h_w, .ref h_q, .int o_length, .int o_spent, .ref h_b, .int o_many, .int o_at, .int o_isOut, .ref h_r, .int o_values, .int o_failures, .int o_works])), (h_w, .inl (cI, 8, .inl vw))] := hD
  refine lv_if_ne (tgt := 12) hx hb d_M_draw_7 (by decide) (fun c7 => ?_) (fun c7 => ?_)
  · have hw := hw.1 c7
    refine lv_iconst (v := (nI 0)) hx hb d_M_draw_12 (by decide) ?_
    refine lv_istore (lv' := [(4, .int (nI 0)), (0, .ref h_o), (1, .int x1), (2, .int x2), (3, .int x3)]) hx hb d_M_draw_13 hl (by decide) rfl (fun ls hl => ?_)
    obtain ⟨n_15, hw⟩ := hw
    have k_15 : ∀ (n_15 : Nat) (vb : Nat → Int32) (x4 : Int32), gL2 (wpF_M_draw_15 post o_length o_spent o_at o_isOut o_values o_failures o_works vr vw vq x1 x2 x3) n_15 vb x4 → ∀ (H : Heap) (locs : List Loc) (ls : Array Slot), va_P D gCl [(h_b, .inl (cI, 256, .inl vb)), (h_r, .inl (cI, 4, .inl vr)), (h_q, .inl (cI, 256, .inl vq)), (h_o, .inr (3, [.ref h_w, .ref h_q, .int o_length, .int o_spent, .ref h_b, .int o_many, .int o_at, .int o_isOut, .ref h_r, .int o_values, .int o_failures, .int o_works])), (h_w, .inl (cI, 8, .inl vw))] H → va_D A [(h_b, .inl (cI, 256, .inl vb)), (h_r, .inl (cI, 4, .inl vr)), (h_q, .inl (cI, 256, .inl vq)), (h_o, .inr (3, [.ref h_w, .ref h_q, .int o_length, .int o_spent, .ref h_b, .int o_many, .int o_at, .int o_isOut, .ref h_r, .int o_values, .int o_failures, .int o_works])), (h_w, .inl (cI, 8, .inl vw))] → va_S A s.heap H locs → lv_has ls 6 [(4, .int x4), (0, .ref h_o), (1, .int x1), (2, .int x2), (3, .int x3)] → W p l e rm_M_draw s m args below meth c H locs 0 0 Q (F0 m 15 ls []) := by
      clear hw hP hD hS hl
      intro n_15
      induction n_15 with
      | zero => exact fun _ _ h => h.elim
      | succ n_15 ih_15 =>
        intro vb x4 hw H locs ls hP hD hS hl
        have hw : wpF_M_draw_15 post o_length o_spent o_at o_isOut o_values o_failures o_works vr vw vq x1 x2 x3 (gL2 (wpF_M_draw_15 post o_length o_spent o_at o_isOut o_values o_failures o_works vr vw vq x1 x2 x3) n_15) vb x4 := hw
        rw [wpF_M_draw_15] at hw
        refine lv_iload hx hb d_M_draw_15 (lv_at hl 0 rfl) ?_
        refine lv_aload_n hx hb d_M_draw_17 rfl (lv_at hl 1 rfl) ?_
        refine gGet fx hK hP 3 rfl inM rfl (k := 2) (by decide) w_226 rfl d_M_draw_18 ?_
        refine lv_icmp_ge (tgt := 44) hx hb d_M_draw_21 (by decide) (fun c21 => ?_) (fun c21 => ?_)
        · have hw := hw.1 c21
          refine lv_aload_n hx hb d_M_draw_44 rfl (lv_at hl 1 rfl) ?_
          refine lv_aload_n hx hb d_M_draw_45 rfl (lv_at hl 1 rfl) ?_
          refine gGet fx hK hP 3 rfl inM rfl (k := 2) (by decide) w_226 rfl d_M_draw_46 ?_
          refine gPut fx hK hP hD hS 3 rfl inM tyM nmM rfl (k := 5) (by decide) w_229 rfl rfl rfl (Nat.le_of_ble_eq_true rfl) d_M_draw_49 (fun H locs hP hD hS => ?_)
          have hP : va_P D gCl [(h_b, .inl (cI, 256, .inl vb)), (h_r, .inl (cI, 4, .inl vr)), (h_q, .inl (cI, 256, .inl vq)), (h_o, .inr (3, [.ref h_w, .ref h_q, .int o_length, .int o_spent, .ref h_b, .int o_length, .int o_at, .int o_isOut, .ref h_r, .int o_values, .int o_failures, .int o_works])), (h_w, .inl (cI, 8, .inl vw))] H := hP
          have hD : va_D A [(h_b, .inl (cI, 256, .inl vb)), (h_r, .inl (cI, 4, .inl vr)), (h_q, .inl (cI, 256, .inl vq)), (h_o, .inr (3, [.ref h_w, .ref h_q, .int o_length, .int o_spent, .ref h_b, .int o_length, .int o_at, .int o_isOut, .ref h_r, .int o_values, .int o_failures, .int o_works])), (h_w, .inl (cI, 8, .inl vw))] := hD
          refine lv_aload_n hx hb d_M_draw_52 rfl (lv_at hl 1 rfl) ?_
          refine lv_iload_n hx hb d_M_draw_53 rfl (lv_at hl 2 rfl) ?_
          refine lv_iload_n hx hb d_M_draw_54 rfl (lv_at hl 3 rfl) ?_
          refine lv_iload_n hx hb d_M_draw_55 rfl (lv_at hl 4 rfl) ?_
          refine g_cVi (wr := [(h_q, .inl (cI, 256, .inl vq))]) fx (c_M_run l D cI h_o h_b h_r h_w h_q o_length o_spent o_length o_at o_isOut o_values o_failures o_works vb vr vw x1 x2 x3 _ hw) mf_M_run w_290 ⟨rfl, rfl⟩ ⟨Nat.le_of_ble_eq_true rfl, Nat.le_of_ble_eq_true rfl⟩ hN hK hA hP hD hS [3, 0, 1, 4] [2] rfl rfl rfl rfl (by decide) 0 rfl rfl rfl rfl hl.1 (Nat.le_of_ble_eq_true rfl) d_M_draw_56 ⟨Nat.zero_le _, Nat.zero_le _⟩ (fun r_2 u H locs hw hP hD hS => ?_)
          obtain ⟨oat_3, oisOut_4, vr_5⟩ := u
          try dsimp only at hw
          have hP : va_P D gCl [(h_q, .inl (cI, 256, .inl vq)), (h_o, .inr (3, [.ref h_w, .ref h_q, .int o_length, .int o_spent, .ref h_b, .int o_length, .int oat_3, .int oisOut_4, .ref h_r, .int o_values, .int o_failures, .int o_works])), (h_b, .inl (cI, 256, .inl vb)), (h_r, .inl (cI, 4, .inl vr_5)), (h_w, .inl (cI, 8, .inl vw))] H := hP
          have hD : va_D A [(h_q, .inl (cI, 256, .inl vq)), (h_o, .inr (3, [.ref h_w, .ref h_q, .int o_length, .int o_spent, .ref h_b, .int o_length, .int oat_3, .int oisOut_4, .ref h_r, .int o_values, .int o_failures, .int o_works])), (h_b, .inl (cI, 256, .inl vb)), (h_r, .inl (cI, 4, .inl vr_5)), (h_w, .inl (cI, 8, .inl vw))] := hD
          refine lv_istore (lv' := [(4, .int r_2), (0, .ref h_o), (1, .int x1), (2, .int x2), (3, .int x3)]) hx hb d_M_draw_59 hl (by decide) rfl (fun ls hl => ?_)
          refine lv_aload_n hx hb d_M_draw_61 rfl (lv_at hl 1 rfl) ?_
          refine gGet fx hK hP 1 rfl inM rfl (k := 7) (by decide) w_231 rfl d_M_draw_62 ?_
          refine lv_if_eq (tgt := 70) hx hb d_M_draw_65 (by decide) (fun c65 => ?_) (fun c65 => ?_)
          · have hw := hw.1 c65
            refine lv_aload_n hx hb d_M_draw_70 rfl (lv_at hl 1 rfl) ?_
            refine gGet fx hK hP 1 rfl inM rfl (k := 6) (by decide) w_230 rfl d_M_draw_71 ?_
            refine lv_istore (lv' := [(5, .int oat_3), (4, .int r_2), (0, .ref h_o), (1, .int x1), (2, .int x2), (3, .int x3)]) hx hb d_M_draw_74 hl (by decide) rfl (fun ls hl => ?_)
            obtain ⟨n_76, hw⟩ := hw
            have k_76 : ∀ (o_many : Int32) (o_at : Int32) (o_isOut : Int32) (vr : Nat → Int32) (x4 : Int32) (n_76 : Nat) (vq : Nat → Int32) (x5 : Int32), gL2 (wpF_M_draw_76 post o_length o_many o_at o_isOut vb vr x4) n_76 vq x5 → ∀ (H : Heap) (locs : List Loc) (ls : Array Slot), va_P D gCl [(h_q, .inl (cI, 256, .inl vq)), (h_o, .inr (3, [.ref h_w, .ref h_q, .int o_length, .int o_spent, .ref h_b, .int o_many, .int o_at, .int o_isOut, .ref h_r, .int o_values, .int o_failures, .int o_works])), (h_b, .inl (cI, 256, .inl vb)), (h_r, .inl (cI, 4, .inl vr)), (h_w, .inl (cI, 8, .inl vw))] H → va_D A [(h_q, .inl (cI, 256, .inl vq)), (h_o, .inr (3, [.ref h_w, .ref h_q, .int o_length, .int o_spent, .ref h_b, .int o_many, .int o_at, .int o_isOut, .ref h_r, .int o_values, .int o_failures, .int o_works])), (h_b, .inl (cI, 256, .inl vb)), (h_r, .inl (cI, 4, .inl vr)), (h_w, .inl (cI, 8, .inl vw))] → va_S A s.heap H locs → lv_has ls 6 [(5, .int x5), (4, .int x4), (0, .ref h_o)] → W p l e rm_M_draw s m args below meth c H locs 0 0 Q (F0 m 76 ls []) := by
              clear hw hP hD hS hl
              intro o_many o_at o_isOut vr x4 n_76
              induction n_76 with
              | zero => exact fun _ _ h => h.elim
              | succ n_76 ih_76 =>
                intro vq x5 hw H locs ls hP hD hS hl
                have hw : wpF_M_draw_76 post o_length o_many o_at o_isOut vb vr x4 (gL2 (wpF_M_draw_76 post o_length o_many o_at o_isOut vb vr x4) n_76) vq x5 := hw
                rw [wpF_M_draw_76] at hw
                refine lv_iload hx hb d_M_draw_76 (lv_at hl 0 rfl) ?_
                refine lv_aload_n hx hb d_M_draw_78 rfl (lv_at hl 2 rfl) ?_
                refine gGet fx hK hP 1 rfl inM rfl (k := 2) (by decide) w_226 rfl d_M_draw_79 ?_
                refine lv_icmp_ge (tgt := 110) hx hb d_M_draw_82 (by decide) (fun c82 => ?_) (fun c82 => ?_)
                · have hw := hw.1 c82
                  refine lv_aload_n hx hb d_M_draw_110 rfl (lv_at hl 2 rfl) ?_
                  refine lv_dup hx hb d_M_draw_111 rfl ?_
                  refine gGet fx hK hP 1 rfl inM rfl (k := 2) (by decide) w_226 rfl d_M_draw_112 ?_
                  refine lv_aload_n hx hb d_M_draw_115 rfl (lv_at hl 2 rfl) ?_
                  refine gGet fx hK hP 1 rfl inM rfl (k := 6) (by decide) w_230 rfl d_M_draw_116 ?_
                  refine lv_isub hx hb d_M_draw_119 ?_
                  refine gPut fx hK hP hD hS 1 rfl inM tyM nmM rfl (k := 2) (by decide) w_226 rfl rfl rfl (Nat.le_of_ble_eq_true rfl) d_M_draw_120 (fun H locs hP hD hS => ?_)
                  have hP : va_P D gCl [(h_q, .inl (cI, 256, .inl vq)), (h_o, .inr (3, [.ref h_w, .ref h_q, .int (o_length - o_at), .int o_spent, .ref h_b, .int o_many, .int o_at, .int o_isOut, .ref h_r, .int o_values, .int o_failures, .int o_works])), (h_b, .inl (cI, 256, .inl vb)), (h_r, .inl (cI, 4, .inl vr)), (h_w, .inl (cI, 8, .inl vw))] H := hP
                  have hD : va_D A [(h_q, .inl (cI, 256, .inl vq)), (h_o, .inr (3, [.ref h_w, .ref h_q, .int (o_length - o_at), .int o_spent, .ref h_b, .int o_many, .int o_at, .int o_isOut, .ref h_r, .int o_values, .int o_failures, .int o_works])), (h_b, .inl (cI, 256, .inl vb)), (h_r, .inl (cI, 4, .inl vr)), (h_w, .inl (cI, 8, .inl vw))] := hD
                  refine lv_aload_n hx hb d_M_draw_123 rfl (lv_at hl 2 rfl) ?_
                  refine lv_aload_n hx hb d_M_draw_124 rfl (lv_at hl 2 rfl) ?_
                  refine gGet fx hK hP 1 rfl inM rfl (k := 6) (by decide) w_230 rfl d_M_draw_125 ?_
                  refine gPut fx hK hP hD hS 1 rfl inM tyM nmM rfl (k := 3) (by decide) w_227 rfl rfl rfl (Nat.le_of_ble_eq_true rfl) d_M_draw_128 (fun H locs hP hD hS => ?_)
                  have hP : va_P D gCl [(h_q, .inl (cI, 256, .inl vq)), (h_o, .inr (3, [.ref h_w, .ref h_q, .int (o_length - o_at), .int o_at, .ref h_b, .int o_many, .int o_at, .int o_isOut, .ref h_r, .int o_values, .int o_failures, .int o_works])), (h_b, .inl (cI, 256, .inl vb)), (h_r, .inl (cI, 4, .inl vr)), (h_w, .inl (cI, 8, .inl vw))] H := hP
                  have hD : va_D A [(h_q, .inl (cI, 256, .inl vq)), (h_o, .inr (3, [.ref h_w, .ref h_q, .int (o_length - o_at), .int o_at, .ref h_b, .int o_many, .int o_at, .int o_isOut, .ref h_r, .int o_values, .int o_failures, .int o_works])), (h_b, .inl (cI, 256, .inl vb)), (h_r, .inl (cI, 4, .inl vr)), (h_w, .inl (cI, 8, .inl vw))] := hD
                  refine lv_iload hx hb d_M_draw_131 (lv_at hl 1 rfl) ?_
                  exact hret _ _ _ ((o_length - o_at), o_at, o_many, o_at, o_isOut, vb, vr, vq) _ _ hw rfl (gSubP hP [1, 2, 3, 4, 0] rfl) (hD.sub [1, 2, 3, 4, 0] rfl rfl) hS d_M_draw_133
                · have hw := hw.2 c82
                  refine lv_aload_n hx hb d_M_draw_85 rfl (lv_at hl 2 rfl) ?_
                  refine gGet fx hK hP 1 rfl inM rfl (k := 1) (by decide) w_225 rfl d_M_draw_86 ?_
                  refine lv_iload hx hb d_M_draw_89 (lv_at hl 0 rfl) ?_
                  refine lv_aload_n hx hb d_M_draw_91 rfl (lv_at hl 2 rfl) ?_
                  refine gGet fx hK hP 1 rfl inM rfl (k := 6) (by decide) w_230 rfl d_M_draw_92 ?_
                  refine lv_isub hx hb d_M_draw_95 ?_
                  refine lv_aload_n hx hb d_M_draw_96 rfl (lv_at hl 2 rfl) ?_
                  refine gGet fx hK hP 1 rfl inM rfl (k := 1) (by decide) w_225 rfl d_M_draw_97 ?_
                  refine lv_iload hx hb d_M_draw_100 (lv_at hl 0 rfl) ?_
                  refine va_iald hx hb hK hP 0 0 rfl rfl hw.1 d_M_draw_102 ?_
                  have hw := hw.2
                  refine va_iast hx hb hK hP hD hS 0 0 rfl rfl hw.1 d_M_draw_103 (fun H locs hP hD hS => ?_)
                  have hw := hw.2
                  have hP : va_P D gCl [(h_q, .inl (cI, 256, .inl (upd vq ((x5 - o_at)).toNatClampNeg (vq (x5).toNatClampNeg)))), (h_o, .inr (3, [.ref h_w, .ref h_q, .int o_length, .int o_spent, .ref h_b, .int o_many, .int o_at, .int o_isOut, .ref h_r, .int o_values, .int o_failures, .int o_works])), (h_b, .inl (cI, 256, .inl vb)), (h_r, .inl (cI, 4, .inl vr)), (h_w, .inl (cI, 8, .inl vw))] H := hP
                  have hD : va_D A [(h_q, .inl (cI, 256, .inl (upd vq ((x5 - o_at)).toNatClampNeg (vq (x5).toNatClampNeg)))), (h_o, .inr (3, [.ref h_w, .ref h_q, .int o_length, .int o_spent, .ref h_b, .int o_many, .int o_at, .int o_isOut, .ref h_r, .int o_values, .int o_failures, .int o_works])), (h_b, .inl (cI, 256, .inl vb)), (h_r, .inl (cI, 4, .inl vr)), (h_w, .inl (cI, 8, .inl vw))] := hD
                  refine lv_iinc (v := (x5 + (nI 1))) (lv' := [(5, .int (x5 + (nI 1))), (4, .int x4), (0, .ref h_o)]) hx hb d_M_draw_104 hl (k := 0) rfl rfl (by decide) rfl (fun ls hl => ?_)
                  refine lv_goto (tgt := 76) hx hb d_M_draw_107 (by decide) ?_
                  exact ih_76 _ _ hw _ _ _ hP hD hS (lv_sub hl [0, 1, 2] rfl)
            exact k_76 o_length oat_3 oisOut_4 vr_5 r_2 n_76 _ _ hw _ _ _ hP hD hS (lv_sub hl [0, 1, 2] rfl)
          · have hw := hw.2 c65
            refine lv_iconst (v := (-1)) hx hb d_M_draw_68 (by decide) ?_
            exact hret _ _ _ (o_length, o_spent, o_length, oat_3, oisOut_4, vb, vr_5, vq) _ _ hw rfl (gSubP hP [1, 2, 3, 4, 0] rfl) (hD.sub [1, 2, 3, 4, 0] rfl rfl) hS d_M_draw_69
        · have hw := hw.2 c21
          refine lv_aload_n hx hb d_M_draw_24 rfl (lv_at hl 1 rfl) ?_
          refine gGet fx hK hP 3 rfl inM rfl (k := 4) (by decide) w_228 rfl d_M_draw_25 ?_
          refine lv_iload hx hb d_M_draw_28 (lv_at hl 0 rfl) ?_
          refine lv_aload_n hx hb d_M_draw_30 rfl (lv_at hl 1 rfl) ?_
          refine gGet fx hK hP 3 rfl inM rfl (k := 1) (by decide) w_225 rfl d_M_draw_31 ?_
          refine lv_iload hx hb d_M_draw_34 (lv_at hl 0 rfl) ?_
          refine va_iald hx hb hK hP 2 0 rfl rfl hw.1 d_M_draw_36 ?_
          have hw := hw.2
          refine va_iast hx hb hK hP hD hS 0 0 rfl rfl hw.1 d_M_draw_37 (fun H locs hP hD hS => ?_)
          have hw := hw.2
          have hP : va_P D gCl [(h_b, .inl (cI, 256, .inl (upd vb (x4).toNatClampNeg (vq (x4).toNatClampNeg)))), (h_r, .inl (cI, 4, .inl vr)), (h_q, .inl (cI, 256, .inl vq)), (h_o, .inr (3, [.ref h_w, .ref h_q, .int o_length, .int o_spent, .ref h_b, .int o_many, .int o_at, .int o_isOut, .ref h_r, .int o_values, .int o_failures, .int o_works])), (h_w, .inl (cI, 8, .inl vw))] H := hP
          have hD : va_D A [(h_b, .inl (cI, 256, .inl (upd vb (x4).toNatClampNeg (vq (x4).toNatClampNeg)))), (h_r, .inl (cI, 4, .inl vr)), (h_q, .inl (cI, 256, .inl vq)), (h_o, .inr (3, [.ref h_w, .ref h_q, .int o_length, .int o_spent, .ref h_b, .int o_many, .int o_at, .int o_isOut, .ref h_r, .int o_values, .int o_failures, .int o_works])), (h_w, .inl (cI, 8, .inl vw))] := hD
          refine lv_iinc (v := (x4 + (nI 1))) (lv' := [(4, .int (x4 + (nI 1))), (0, .ref h_o), (1, .int x1), (2, .int x2), (3, .int x3)]) hx hb d_M_draw_38 hl (k := 0) rfl rfl (by decide) rfl (fun ls hl => ?_)
          refine lv_goto (tgt := 15) hx hb d_M_draw_41 (by decide) ?_
          exact ih_15 _ _ hw _ _ _ hP hD hS (lv_sub hl [0, 1, 2, 3, 4] rfl)
    exact k_15 n_15 _ _ hw _ _ _ hP hD hS (lv_sub hl [0, 1, 2, 3, 4] rfl)
  · have hw := hw.2 c7
    refine lv_iconst (v := (-1)) hx hb d_M_draw_10 (by decide) ?_
    exact hret _ _ _ (o_length, o_spent, o_many, o_at, o_isOut, vb, vr, vq) _ _ hw rfl (gSubP hP [3, 0, 1, 4, 2] rfl) (hD.sub [3, 0, 1, 4, 2] rfl rfl) hS d_M_draw_11
def wpF_M_tryAll_36 (K_24 : Int32 → Int32 → Int32 → Int32 → Int32 → (Nat → Int32) → (Nat → Int32) → Int32 → Prop) (o_length : Int32) (o_spent : Int32) (o_many : Int32) (o_at : Int32) (o_isOut : Int32) (o_values : Int32) (o_failures : Int32) (o_works : Int32) (vr : Nat → Int32) (vw : Nat → Int32) (x1 : Int32) (x2 : Int32) (x3 : Int32) (x4 : Int32) (x5 : Int32) (x6 : Int32) (K_36 : (Nat → Int32) → Int32 → Prop) (vb : Nat → Int32) (x7 : Int32) : Prop :=
  ((x4 ≤ x7 → wp_M_run (fun r_1 oat_2 oisOut_3 vr_4 => ((oisOut_3 = 0 → ((¬ oisOut_3 = 0 → K_24 oat_2 oisOut_3 o_values o_failures (o_works + oat_2) vb vr_4 (x6 + (nI 1))) ∧ (oisOut_3 = 0 → ((¬ r_1 = x5 → K_24 oat_2 oisOut_3 o_values o_failures (o_works + oat_2) vb vr_4 (x6 + (nI 1))) ∧ (r_1 = x5 → K_24 oat_2 oisOut_3 (o_values + (nI 1)) o_failures (o_works + oat_2) vb vr_4 (x6 + (nI 1))))))) ∧ (¬ oisOut_3 = 0 → ((¬ oisOut_3 = 0 → K_24 oat_2 oisOut_3 o_values (o_failures + (nI 1)) (o_works + oat_2) vb vr_4 (x6 + (nI 1))) ∧ (oisOut_3 = 0 → ((¬ r_1 = x5 → K_24 oat_2 oisOut_3 o_values (o_failures + (nI 1)) (o_works + oat_2) vb vr_4 (x6 + (nI 1))) ∧ (r_1 = x5 → K_24 oat_2 oisOut_3 (o_values + (nI 1)) (o_failures + (nI 1)) (o_works + oat_2) vb vr_4 (x6 + (nI 1))))))))) o_length o_spent o_many o_at o_isOut o_values o_failures o_works vb vr vw x1 x2 x3) ∧ (¬ x4 ≤ x7 → (vp_in x7 256 ∧ K_36 (upd vb (x7).toNatClampNeg ((x6 >>> (x7 &&& 31)) &&& (nI 1))) (x7 + (nI 1)))))
def wpF_M_tryAll_24 (post : Int32 → Int32 → Int32 → Int32 → Int32 → Int32 → (Nat → Int32) → (Nat → Int32) → Prop) (o_length : Int32) (o_spent : Int32) (o_many : Int32) (vw : Nat → Int32) (x1 : Int32) (x2 : Int32) (x3 : Int32) (x4 : Int32) (x5 : Int32) (K_24 : Int32 → Int32 → Int32 → Int32 → Int32 → (Nat → Int32) → (Nat → Int32) → Int32 → Prop) (o_at : Int32) (o_isOut : Int32) (o_values : Int32) (o_failures : Int32) (o_works : Int32) (vb : Nat → Int32) (vr : Nat → Int32) (x6 : Int32) : Prop :=
  ((((nI 1) <<< (x4 &&& 31)) ≤ x6 → post o_many o_at o_isOut o_values o_failures o_works vb vr) ∧ (¬ ((nI 1) <<< (x4 &&& 31)) ≤ x6 → (∃ n, gL2 (wpF_M_tryAll_36 K_24 o_length o_spent o_many o_at o_isOut o_values o_failures o_works vr vw x1 x2 x3 x4 x5 x6) n vb (nI 0))))
def wp_M_tryAll (post : Int32 → Int32 → Int32 → Int32 → Int32 → Int32 → (Nat → Int32) → (Nat → Int32) → Prop) (o_length : Int32) (o_spent : Int32) (o_many : Int32) (o_at : Int32) (o_isOut : Int32) (o_values : Int32) (o_failures : Int32) (o_works : Int32) (vb : Nat → Int32) (vr : Nat → Int32) (vw : Nat → Int32) (x1 : Int32) (x2 : Int32) (x3 : Int32) (x4 : Int32) (x5 : Int32) : Prop :=
  (∃ n, gL8 (wpF_M_tryAll_24 post o_length o_spent x4 vw x1 x2 x3 x4 x5) n o_at o_isOut (nI 0) (nI 0) (nI 0) vb vr (nI 0))
abbrev rm_M_tryAll : Room := { frames := 4, cells := 0, slots := 0, locals := 95 }
theorem mf_M_tryAll : gFV y_M_tryAll b_M_tryAll 8 none 5 := ⟨w_337, w_4, ⟨by decide, by decide, by decide +kernel⟩, w_336, ws_2_1⟩
set_option maxHeartbeats 4000000 in
set_option maxRecDepth 100000 in
theorem c_M_tryAll (l : Launch) (D : va_G) (cI : ClassId) (h_o : Nat) (h_b : Nat) (h_r : Nat) (h_w : Nat) (o_tape : Nat) (o_length : Int32) (o_spent : Int32) (o_many : Int32) (o_at : Int32) (o_isOut : Int32) (o_values : Int32) (o_failures : Int32) (o_works : Int32) (vb : Nat → Int32) (vr : Nat → Int32) (vw : Nat → Int32) (x1 : Int32) (x2 : Int32) (x3 : Int32) (x4 : Int32) (x5 : Int32) (post : Int32 → Int32 → Int32 → Int32 → Int32 → Int32 → (Nat → Int32) → (Nat → Int32) → Prop) (hw : wp_M_tryAll post o_length o_spent o_many o_at o_isOut o_values o_failures o_works vb vr vw x1 x2 x3 x4 x5) :
    gMv l D [(cI, .int)] y_M_tryAll b_M_tryAll 8 rm_M_tryAll [.ref h_o, .int x1, .int x2, .int x3, .int x4, .int x5] [(h_o, .inr (3, [.ref h_w, .ref o_tape, .int o_length, .int o_spent, .ref h_b, .int o_many, .int o_at, .int o_isOut, .ref h_r, .int o_values, .int o_failures, .int o_works])), (h_b, .inl (cI, 256, .inl vb)), (h_r, .inl (cI, 4, .inl vr)), (h_w, .inl (cI, 8, .inl vw))] (S := Int32 × Int32 × Int32 × Int32 × Int32 × Int32 × (Nat → Int32) × (Nat → Int32)) (fun u => [(h_o, .inr (3, [.ref h_w, .ref o_tape, .int o_length, .int o_spent, .ref h_b, .int u.1, .int u.2.1, .int u.2.2.1, .ref h_r, .int u.2.2.2.1, .int u.2.2.2.2.1, .int u.2.2.2.2.2.1])), (h_b, .inl (cI, 256, .inl u.2.2.2.2.2.2.1)), (h_r, .inl (cI, 4, .inl u.2.2.2.2.2.2.2)), (h_w, .inl (cI, 8, .inl vw))]) (fun u => post u.1 u.2.1 u.2.2.1 u.2.2.2.1 u.2.2.2.2.1 u.2.2.2.2.2.1 u.2.2.2.2.2.2.1 u.2.2.2.2.2.2.2) := by
  rw [wp_M_tryAll] at hw
  refine gMv.of (by decide) (Nat.le_of_ble_eq_true rfl) (fun p e s m args below meth c A Q ls hx hb hml hown hts hN hK hA hP hD hret hl => ?_)
  have fx : CallFix p m c b_M_tryAll 8 s args gG "TapeCounterModel" := ⟨hx, hb, hml, hown, hts⟩
  have hl : lv_has ls 8 [(0, .ref h_o), (1, .int x1), (2, .int x2), (3, .int x3), (4, .int x4), (5, .int x5)] := hl
  have hS : va_S A s.heap s.heap [] := va_S.rf
  refine lv_aload_n hx hb d_M_tryAll_0 rfl (lv_at hl 0 rfl) ?_
  refine lv_iconst (v := (nI 0)) hx hb d_M_tryAll_1 (by decide) ?_
  refine gPut fx hK hP hD hS 0 rfl inM tyM nmM rfl (k := 9) (by decide) w_233 rfl rfl rfl (Nat.le_of_ble_eq_true rfl) d_M_tryAll_2 (fun H locs hP hD hS => ?_)
  have hP : va_P D gCl [(h_o, .inr (3, [.ref h_w, .ref o_tape, .int o_length, .int o_spent, .ref h_b, .int o_many, .int o_at, .int o_isOut, .ref h_r, .int (nI 0), .int o_failures, .int o_works])), (h_b, .inl (cI, 256, .inl vb)), (h_r, .inl (cI, 4, .inl vr)), (h_w, .inl (cI, 8, .inl vw))] H := hP
  have hD : va_D A [(h_o, .inr (3, [.ref h_w, .ref o_tape, .int o_length, .int o_spent, .ref h_b, .int o_many, .int o_at, .int o_isOut, .ref h_r, .int (nI 0), .int o_failures, .int o_works])), (h_b, .inl (cI, 256, .inl vb)), (h_r, .inl (cI, 4, .inl vr)), (h_w, .inl (cI, 8, .inl vw))] := hD
  refine lv_aload_n hx hb d_M_tryAll_5 rfl (lv_at hl 0 rfl) ?_
  refine lv_iconst (v := (nI 0)) hx hb d_M_tryAll_6 (by decide) ?_
  refine gPut fx hK hP hD hS 0 rfl inM tyM nmM rfl (k := 10) (by decide) w_234 rfl rfl rfl (Nat.le_of_ble_eq_true rfl) d_M_tryAll_7 (fun H locs hP hD hS => ?_)
  have hP : va_P D gCl [(h_o, .inr (3, [.ref h_w, .ref o_tape, .int o_length, .int o_spent, .ref h_b, .int o_many, .int o_at, .int o_isOut, .ref h_r, .int (nI 0), .int (nI 0), .int o_works])), (h_b, .inl (cI, 256, .inl vb)), (h_r, .inl (cI, 4, .inl vr)), (h_w, .inl (cI, 8, .inl vw))] H := hP
  have hD : va_D A [(h_o, .inr (3, [.ref h_w, .ref o_tape, .int o_length, .int o_spent, .ref h_b, .int o_many, .int o_at, .int o_isOut, .ref h_r, .int (nI 0), .int (nI 0), .int o_works])), (h_b, .inl (cI, 256, .inl vb)), (h_r, .inl (cI, 4, .inl vr)), (h_w, .inl (cI, 8, .inl vw))] := hD
  refine lv_aload_n hx hb d_M_tryAll_10 rfl (lv_at hl 0 rfl) ?_
  refine lv_iconst (v := (nI 0)) hx hb d_M_tryAll_11 (by decide) ?_
  refine gPut fx hK hP hD hS 0 rfl inM tyM nmM rfl (k := 11) (by decide) w_235 rfl rfl rfl (Nat.le_of_ble_eq_true rfl) d_M_tryAll_12 (fun H locs hP hD hS => ?_)
  have hP : va_P D gCl [(h_o, .inr (3, [.ref h_w, .ref o_tape, .int o_length, .int o_spent, .ref h_b, .int o_many, .int o_at, .int o_isOut, .ref h_r, .int (nI 0), .int (nI 0), .int (nI 0)])), (h_b, .inl (cI, 256, .inl vb)), (h_r, .inl (cI, 4, .inl vr)), (h_w, .inl (cI, 8, .inl vw))] H := hP
  have hD : va_D A [(h_o, .inr (3, [.ref h_w, .ref o_tape, .int o_length, .int o_spent, .ref h_b, .int o_many, .int o_at, .int o_isOut, .ref h_r, .int (nI 0), .int (nI 0), .int (nI 0)])), (h_b, .inl (cI, 256, .inl vb)), (h_r, .inl (cI, 4, .inl vr)), (h_w, .inl (cI, 8, .inl vw))] := hD
  refine lv_aload_n hx hb d_M_tryAll_15 rfl (lv_at hl 0 rfl) ?_
  refine lv_iload hx hb d_M_tryAll_16 (lv_at hl 4 rfl) ?_
  refine gPut fx hK hP hD hS 0 rfl inM tyM nmM rfl (k := 5) (by decide) w_229 rfl rfl rfl (Nat.le_of_ble_eq_true rfl) d_M_tryAll_18 (fun H locs hP hD hS => ?_)
  have hP : va_P D gCl [(h_o, .inr (3, [.ref h_w, .ref o_tape, .int o_length, .int o_spent, .ref h_b, .int x4, .int o_at, .int o_isOut, .ref h_r, .int (nI 0), .int (nI 0), .int (nI 0)])), (h_b, .inl (cI, 256, .inl vb)), (h_r, .inl (cI, 4, .inl vr)), (h_w, .inl (cI, 8, .inl vw))] H := hP
  have hD : va_D A [(h_o, .inr (3, [.ref h_w, .ref o_tape, .int o_length, .int o_spent, .ref h_b, .int x4, .int o_at, .int o_isOut, .ref h_r, .int (nI 0), .int (nI 0), .int (nI 0)])), (h_b, .inl (cI, 256, .inl vb)), (h_r, .inl (cI, 4, .inl vr)), (h_w, .inl (cI, 8, .inl vw))] := hD
  refine lv_iconst (v := (nI 0)) hx hb d_M_tryAll_21 (by decide) ?_
  refine lv_istore (lv' := [(6, .int (nI 0)), (0, .ref h_o), (1, .int x1), (2, .int x2), (3, .int x3), (4, .int x4), (5, .int x5)]) hx hb d_M_tryAll_22 hl (by decide) rfl (fun ls hl => ?_)
  obtain ⟨n_24, hw⟩ := hw
  have k_24 : ∀ (o_many : Int32) (n_24 : Nat) (o_at : Int32) (o_isOut : Int32) (o_values : Int32) (o_failures : Int32) (o_works : Int32) (vb : Nat → Int32) (vr : Nat → Int32) (x6 : Int32), gL8 (wpF_M_tryAll_24 post o_length o_spent o_many vw x1 x2 x3 x4 x5) n_24 o_at o_isOut o_values o_failures o_works vb vr x6 → ∀ (H : Heap) (locs : List Loc) (ls : Array Slot), va_P D gCl [(h_o, .inr (3, [.ref h_w, .ref o_tape, .int o_length, .int o_spent, .ref h_b, .int o_many, .int o_at, .int o_isOut, .ref h_r, .int o_values, .int o_failures, .int o_works])), (h_b, .inl (cI, 256, .inl vb)), (h_r, .inl (cI, 4, .inl vr)), (h_w, .inl (cI, 8, .inl vw))] H → va_D A [(h_o, .inr (3, [.ref h_w, .ref o_tape, .int o_length, .int o_spent, .ref h_b, .int o_many, .int o_at, .int o_isOut, .ref h_r, .int o_values, .int o_failures, .int o_works])), (h_b, .inl (cI, 256, .inl vb)), (h_r, .inl (cI, 4, .inl vr)), (h_w, .inl (cI, 8, .inl vw))] → va_S A s.heap H locs → lv_has ls 8 [(6, .int x6), (0, .ref h_o), (1, .int x1), (2, .int x2), (3, .int x3), (4, .int x4), (5, .int x5)] → W p l e rm_M_tryAll s m args below meth c H locs 0 0 Q (F0 m 24 ls []) := by
    clear hw hP hD hS hl
    intro o_many n_24
    induction n_24 with
    | zero => exact fun _ _ _ _ _ _ _ _ h => h.elim
    | succ n_24 ih_24 =>
      intro o_at o_isOut o_values o_failures o_works vb vr x6 hw H locs ls hP hD hS hl
      have hw : wpF_M_tryAll_24 post o_length o_spent o_many vw x1 x2 x3 x4 x5 (gL8 (wpF_M_tryAll_24 post o_length o_spent o_many vw x1 x2 x3 x4 x5) n_24) o_at o_isOut o_values o_failures o_works vb vr x6 := hw
      rw [wpF_M_tryAll_24] at hw
      refine lv_iload hx hb d_M_tryAll_24 (lv_at hl 0 rfl) ?_
      refine lv_iconst (v := (nI 1)) hx hb d_M_tryAll_26 (by decide) ?_
      refine lv_iload hx hb d_M_tryAll_27 (lv_at hl 5 rfl) ?_
      refine lv_ishl hx hb d_M_tryAll_29 ?_
      refine lv_icmp_ge (tgt := 146) hx hb d_M_tryAll_30 (by decide) (fun c30 => ?_) (fun c30 => ?_)
      · have hw := hw.1 c30
        exact hret _ _ (o_many, o_at, o_isOut, o_values, o_failures, o_works, vb, vr) _ _ hw hP hD hS d_M_tryAll_146
      · have hw := hw.2 c30
        refine lv_iconst (v := (nI 0)) hx hb d_M_tryAll_33 (by decide) ?_
        refine lv_istore (lv' := [(7, .int (nI 0)), (6, .int x6), (0, .ref h_o), (1, .int x1), (2, .int x2), (3, .int x3), (4, .int x4), (5, .int x5)]) hx hb d_M_tryAll_34 hl (by decide) rfl (fun ls hl => ?_)
        obtain ⟨n_36, hw⟩ := hw
        have k_36 : ∀ (n_36 : Nat) (vb : Nat → Int32) (x7 : Int32), gL2 (wpF_M_tryAll_36 (gL8 (wpF_M_tryAll_24 post o_length o_spent o_many vw x1 x2 x3 x4 x5) n_24) o_length o_spent o_many o_at o_isOut o_values o_failures o_works vr vw x1 x2 x3 x4 x5 x6) n_36 vb x7 → ∀ (H : Heap) (locs : List Loc) (ls : Array Slot), va_P D gCl [(h_o, .inr (3, [.ref h_w, .ref o_tape, .int o_length, .int o_spent, .ref h_b, .int o_many, .int o_at, .int o_isOut, .ref h_r, .int o_values, .int o_failures, .int o_works])), (h_b, .inl (cI, 256, .inl vb)), (h_r, .inl (cI, 4, .inl vr)), (h_w, .inl (cI, 8, .inl vw))] H → va_D A [(h_o, .inr (3, [.ref h_w, .ref o_tape, .int o_length, .int o_spent, .ref h_b, .int o_many, .int o_at, .int o_isOut, .ref h_r, .int o_values, .int o_failures, .int o_works])), (h_b, .inl (cI, 256, .inl vb)), (h_r, .inl (cI, 4, .inl vr)), (h_w, .inl (cI, 8, .inl vw))] → va_S A s.heap H locs → lv_has ls 8 [(7, .int x7), (6, .int x6), (0, .ref h_o), (1, .int x1), (2, .int x2), (3, .int x3), (4, .int x4), (5, .int x5)] → W p l e rm_M_tryAll s m args below meth c H locs 0 0 Q (F0 m 36 ls []) := by
          clear hw hP hD hS hl
          intro n_36
          induction n_36 with
          | zero => exact fun _ _ h => h.elim
          | succ n_36 ih_36 =>
            intro vb x7 hw H locs ls hP hD hS hl
            have hw : wpF_M_tryAll_36 (gL8 (wpF_M_tryAll_24 post o_length o_spent o_many vw x1 x2 x3 x4 x5) n_24) o_length o_spent o_many o_at o_isOut o_values o_failures o_works vr vw x1 x2 x3 x4 x5 x6 (gL2 (wpF_M_tryAll_36 (gL8 (wpF_M_tryAll_24 post o_length o_spent o_many vw x1 x2 x3 x4 x5) n_24) o_length o_spent o_many o_at o_isOut o_values o_failures o_works vr vw x1 x2 x3 x4 x5 x6) n_36) vb x7 := hw
            rw [wpF_M_tryAll_36] at hw
            refine lv_iload hx hb d_M_tryAll_36 (lv_at hl 0 rfl) ?_
            refine lv_iload hx hb d_M_tryAll_38 (lv_at hl 6 rfl) ?_
            refine lv_icmp_ge (tgt := 63) hx hb d_M_tryAll_40 (by decide) (fun c40 => ?_) (fun c40 => ?_)
            · have hw := hw.1 c40
              refine lv_aload_n hx hb d_M_tryAll_63 rfl (lv_at hl 2 rfl) ?_
              refine lv_iload_n hx hb d_M_tryAll_64 rfl (lv_at hl 3 rfl) ?_
              refine lv_iload_n hx hb d_M_tryAll_65 rfl (lv_at hl 4 rfl) ?_
              refine lv_iload_n hx hb d_M_tryAll_66 rfl (lv_at hl 5 rfl) ?_
              refine g_cVi (wr := []) fx (c_M_run l D cI h_o h_b h_r h_w o_tape o_length o_spent o_many o_at o_isOut o_values o_failures o_works vb vr vw x1 x2 x3 _ hw) mf_M_run w_290 ⟨rfl, rfl⟩ ⟨Nat.le_of_ble_eq_true rfl, Nat.le_of_ble_eq_true rfl⟩ hN hK hA hP hD hS [0, 1, 2, 3] [] rfl rfl rfl rfl (by decide) 0 rfl rfl rfl rfl hl.1 (Nat.le_of_ble_eq_true rfl) d_M_tryAll_67 ⟨Nat.zero_le _, Nat.zero_le _⟩ (fun r_1 u H locs hw hP hD hS => ?_)
              obtain ⟨oat_2, oisOut_3, vr_4⟩ := u
              try dsimp only at hw
              have hP : va_P D gCl [(h_o, .inr (3, [.ref h_w, .ref o_tape, .int o_length, .int o_spent, .ref h_b, .int o_many, .int oat_2, .int oisOut_3, .ref h_r, .int o_values, .int o_failures, .int o_works])), (h_b, .inl (cI, 256, .inl vb)), (h_r, .inl (cI, 4, .inl vr_4)), (h_w, .inl (cI, 8, .inl vw))] H := hP
              have hD : va_D A [(h_o, .inr (3, [.ref h_w, .ref o_tape, .int o_length, .int o_spent, .ref h_b, .int o_many, .int oat_2, .int oisOut_3, .ref h_r, .int o_values, .int o_failures, .int o_works])), (h_b, .inl (cI, 256, .inl vb)), (h_r, .inl (cI, 4, .inl vr_4)), (h_w, .inl (cI, 8, .inl vw))] := hD
              refine lv_istore (lv' := [(7, .int r_1), (6, .int x6), (0, .ref h_o), (1, .int x1), (2, .int x2), (3, .int x3), (4, .int x4), (5, .int x5)]) hx hb d_M_tryAll_70 hl (by decide) rfl (fun ls hl => ?_)
              refine lv_aload_n hx hb d_M_tryAll_72 rfl (lv_at hl 2 rfl) ?_
              refine lv_dup hx hb d_M_tryAll_73 rfl ?_
              refine gGet fx hK hP 0 rfl inM rfl (k := 11) (by decide) w_235 rfl d_M_tryAll_74 ?_
              refine lv_aload_n hx hb d_M_tryAll_77 rfl (lv_at hl 2 rfl) ?_
              refine gGet fx hK hP 0 rfl inM rfl (k := 6) (by decide) w_230 rfl d_M_tryAll_78 ?_
              refine lv_iadd hx hb d_M_tryAll_81 ?_
              refine gPut fx hK hP hD hS 0 rfl inM tyM nmM rfl (k := 11) (by decide) w_235 rfl rfl rfl (Nat.le_of_ble_eq_true rfl) d_M_tryAll_82 (fun H locs hP hD hS => ?_)
              have hP : va_P D gCl [(h_o, .inr (3, [.ref h_w, .ref o_tape, .int o_length, .int o_spent, .ref h_b, .int o_many, .int oat_2, .int oisOut_3, .ref h_r, .int o_values, .int o_failures, .int (o_works + oat_2)])), (h_b, .inl (cI, 256, .inl vb)), (h_r, .inl (cI, 4, .inl vr_4)), (h_w, .inl (cI, 8, .inl vw))] H := hP
              have hD : va_D A [(h_o, .inr (3, [.ref h_w, .ref o_tape, .int o_length, .int o_spent, .ref h_b, .int o_many, .int oat_2, .int oisOut_3, .ref h_r, .int o_values, .int o_failures, .int (o_works + oat_2)])), (h_b, .inl (cI, 256, .inl vb)), (h_r, .inl (cI, 4, .inl vr_4)), (h_w, .inl (cI, 8, .inl vw))] := hD
              refine lv_aload_n hx hb d_M_tryAll_85 rfl (lv_at hl 2 rfl) ?_
              refine lv_aload_n hx hb d_M_tryAll_86 rfl (lv_at hl 2 rfl) ?_
              refine gGet fx hK hP 0 rfl inM rfl (k := 7) (by decide) w_231 rfl d_M_tryAll_87 ?_
              refine lv_if_eq (tgt := 102) hx hb d_M_tryAll_90 (by decide) (fun c90 => ?_) (fun c90 => ?_)
              · have hw := hw.1 c90
                refine lv_aload_n hx hb d_M_tryAll_102 rfl (lv_at hl 2 rfl) ?_
                refine gGet fx hK hP 0 rfl inM rfl (k := 10) (by decide) w_234 rfl d_M_tryAll_103 ?_
                refine gPut fx hK hP hD hS 0 rfl inM tyM nmM rfl (k := 10) (by decide) w_234 rfl rfl rfl (Nat.le_of_ble_eq_true rfl) d_M_tryAll_106 (fun H locs hP hD hS => ?_)
                have hP : va_P D gCl [(h_o, .inr (3, [.ref h_w, .ref o_tape, .int o_length, .int o_spent, .ref h_b, .int o_many, .int oat_2, .int oisOut_3, .ref h_r, .int o_values, .int o_failures, .int (o_works + oat_2)])), (h_b, .inl (cI, 256, .inl vb)), (h_r, .inl (cI, 4, .inl vr_4)), (h_w, .inl (cI, 8, .inl vw))] H := hP
                have hD : va_D A [(h_o, .inr (3, [.ref h_w, .ref o_tape, .int o_length, .int o_spent, .ref h_b, .int o_many, .int oat_2, .int oisOut_3, .ref h_r, .int o_values, .int o_failures, .int (o_works + oat_2)])), (h_b, .inl (cI, 256, .inl vb)), (h_r, .inl (cI, 4, .inl vr_4)), (h_w, .inl (cI, 8, .inl vw))] := hD
                refine lv_aload_n hx hb d_M_tryAll_109 rfl (lv_at hl 2 rfl) ?_
                refine lv_aload_n hx hb d_M_tryAll_110 rfl (lv_at hl 2 rfl) ?_
                refine gGet fx hK hP 0 rfl inM rfl (k := 7) (by decide) w_231 rfl d_M_tryAll_111 ?_
                refine lv_if_ne (tgt := 133) hx hb d_M_tryAll_114 (by decide) (fun c114 => ?_) (fun c114 => ?_)
                · have hw := hw.1 c114
                  refine lv_aload_n hx hb d_M_tryAll_133 rfl (lv_at hl 2 rfl) ?_
                  refine gGet fx hK hP 0 rfl inM rfl (k := 9) (by decide) w_233 rfl d_M_tryAll_134 ?_
                  refine gPut fx hK hP hD hS 0 rfl inM tyM nmM rfl (k := 9) (by decide) w_233 rfl rfl rfl (Nat.le_of_ble_eq_true rfl) d_M_tryAll_137 (fun H locs hP hD hS => ?_)
                  have hP : va_P D gCl [(h_o, .inr (3, [.ref h_w, .ref o_tape, .int o_length, .int o_spent, .ref h_b, .int o_many, .int oat_2, .int oisOut_3, .ref h_r, .int o_values, .int o_failures, .int (o_works + oat_2)])), (h_b, .inl (cI, 256, .inl vb)), (h_r, .inl (cI, 4, .inl vr_4)), (h_w, .inl (cI, 8, .inl vw))] H := hP
                  have hD : va_D A [(h_o, .inr (3, [.ref h_w, .ref o_tape, .int o_length, .int o_spent, .ref h_b, .int o_many, .int oat_2, .int oisOut_3, .ref h_r, .int o_values, .int o_failures, .int (o_works + oat_2)])), (h_b, .inl (cI, 256, .inl vb)), (h_r, .inl (cI, 4, .inl vr_4)), (h_w, .inl (cI, 8, .inl vw))] := hD
                  refine lv_iinc (v := (x6 + (nI 1))) (lv' := [(6, .int (x6 + (nI 1))), (7, .int r_1), (0, .ref h_o), (1, .int x1), (2, .int x2), (3, .int x3), (4, .int x4), (5, .int x5)]) hx hb d_M_tryAll_140 hl (k := 1) rfl rfl (by decide) rfl (fun ls hl => ?_)
                  refine lv_goto (tgt := 24) hx hb d_M_tryAll_143 (by decide) ?_
                  exact ih_24 _ _ _ _ _ _ _ _ hw _ _ _ hP hD hS (lv_sub hl [0, 2, 3, 4, 5, 6, 7] rfl)
                · have hw := hw.2 c114
                  refine lv_iload hx hb d_M_tryAll_117 (lv_at hl 0 rfl) ?_
                  refine lv_iload hx hb d_M_tryAll_119 (lv_at hl 7 rfl) ?_
                  refine lv_icmp_ne (tgt := 133) hx hb d_M_tryAll_121 (by decide) (fun c121 => ?_) (fun c121 => ?_)
                  · have hw := hw.1 c121
                    refine lv_aload_n hx hb d_M_tryAll_133 rfl (lv_at hl 2 rfl) ?_
                    refine gGet fx hK hP 0 rfl inM rfl (k := 9) (by decide) w_233 rfl d_M_tryAll_134 ?_
                    refine gPut fx hK hP hD hS 0 rfl inM tyM nmM rfl (k := 9) (by decide) w_233 rfl rfl rfl (Nat.le_of_ble_eq_true rfl) d_M_tryAll_137 (fun H locs hP hD hS => ?_)
                    have hP : va_P D gCl [(h_o, .inr (3, [.ref h_w, .ref o_tape, .int o_length, .int o_spent, .ref h_b, .int o_many, .int oat_2, .int oisOut_3, .ref h_r, .int o_values, .int o_failures, .int (o_works + oat_2)])), (h_b, .inl (cI, 256, .inl vb)), (h_r, .inl (cI, 4, .inl vr_4)), (h_w, .inl (cI, 8, .inl vw))] H := hP
                    have hD : va_D A [(h_o, .inr (3, [.ref h_w, .ref o_tape, .int o_length, .int o_spent, .ref h_b, .int o_many, .int oat_2, .int oisOut_3, .ref h_r, .int o_values, .int o_failures, .int (o_works + oat_2)])), (h_b, .inl (cI, 256, .inl vb)), (h_r, .inl (cI, 4, .inl vr_4)), (h_w, .inl (cI, 8, .inl vw))] := hD
                    refine lv_iinc (v := (x6 + (nI 1))) (lv' := [(6, .int (x6 + (nI 1))), (7, .int r_1), (0, .ref h_o), (1, .int x1), (2, .int x2), (3, .int x3), (4, .int x4), (5, .int x5)]) hx hb d_M_tryAll_140 hl (k := 1) rfl rfl (by decide) rfl (fun ls hl => ?_)
                    refine lv_goto (tgt := 24) hx hb d_M_tryAll_143 (by decide) ?_
                    exact ih_24 _ _ _ _ _ _ _ _ hw _ _ _ hP hD hS (lv_sub hl [0, 2, 3, 4, 5, 6, 7] rfl)
                  · have hw := hw.2 c121
                    refine lv_aload_n hx hb d_M_tryAll_124 rfl (lv_at hl 2 rfl) ?_
                    refine gGet fx hK hP 0 rfl inM rfl (k := 9) (by decide) w_233 rfl d_M_tryAll_125 ?_
                    refine lv_iconst (v := (nI 1)) hx hb d_M_tryAll_128 (by decide) ?_
                    refine lv_iadd hx hb d_M_tryAll_129 ?_
                    refine lv_goto (tgt := 137) hx hb d_M_tryAll_130 (by decide) ?_
                    refine gPut fx hK hP hD hS 0 rfl inM tyM nmM rfl (k := 9) (by decide) w_233 rfl rfl rfl (Nat.le_of_ble_eq_true rfl) d_M_tryAll_137 (fun H locs hP hD hS => ?_)
                    have hP : va_P D gCl [(h_o, .inr (3, [.ref h_w, .ref o_tape, .int o_length, .int o_spent, .ref h_b, .int o_many, .int oat_2, .int oisOut_3, .ref h_r, .int (o_values + (nI 1)), .int o_failures, .int (o_works + oat_2)])), (h_b, .inl (cI, 256, .inl vb)), (h_r, .inl (cI, 4, .inl vr_4)), (h_w, .inl (cI, 8, .inl vw))] H := hP
                    have hD : va_D A [(h_o, .inr (3, [.ref h_w, .ref o_tape, .int o_length, .int o_spent, .ref h_b, .int o_many, .int oat_2, .int oisOut_3, .ref h_r, .int (o_values + (nI 1)), .int o_failures, .int (o_works + oat_2)])), (h_b, .inl (cI, 256, .inl vb)), (h_r, .inl (cI, 4, .inl vr_4)), (h_w, .inl (cI, 8, .inl vw))] := hD
                    refine lv_iinc (v := (x6 + (nI 1))) (lv' := [(6, .int (x6 + (nI 1))), (7, .int r_1), (0, .ref h_o), (1, .int x1), (2, .int x2), (3, .int x3), (4, .int x4), (5, .int x5)]) hx hb d_M_tryAll_140 hl (k := 1) rfl rfl (by decide) rfl (fun ls hl => ?_)
                    refine lv_goto (tgt := 24) hx hb d_M_tryAll_143 (by decide) ?_
                    exact ih_24 _ _ _ _ _ _ _ _ hw _ _ _ hP hD hS (lv_sub hl [0, 2, 3, 4, 5, 6, 7] rfl)
              · have hw := hw.2 c90
                refine lv_aload_n hx hb d_M_tryAll_93 rfl (lv_at hl 2 rfl) ?_
                refine gGet fx hK hP 0 rfl inM rfl (k := 10) (by decide) w_234 rfl d_M_tryAll_94 ?_
                refine lv_iconst (v := (nI 1)) hx hb d_M_tryAll_97 (by decide) ?_
                refine lv_iadd hx hb d_M_tryAll_98 ?_
                refine lv_goto (tgt := 106) hx hb d_M_tryAll_99 (by decide) ?_
                refine gPut fx hK hP hD hS 0 rfl inM tyM nmM rfl (k := 10) (by decide) w_234 rfl rfl rfl (Nat.le_of_ble_eq_true rfl) d_M_tryAll_106 (fun H locs hP hD hS => ?_)
                have hP : va_P D gCl [(h_o, .inr (3, [.ref h_w, .ref o_tape, .int o_length, .int o_spent, .ref h_b, .int o_many, .int oat_2, .int oisOut_3, .ref h_r, .int o_values, .int (o_failures + (nI 1)), .int (o_works + oat_2)])), (h_b, .inl (cI, 256, .inl vb)), (h_r, .inl (cI, 4, .inl vr_4)), (h_w, .inl (cI, 8, .inl vw))] H := hP
                have hD : va_D A [(h_o, .inr (3, [.ref h_w, .ref o_tape, .int o_length, .int o_spent, .ref h_b, .int o_many, .int oat_2, .int oisOut_3, .ref h_r, .int o_values, .int (o_failures + (nI 1)), .int (o_works + oat_2)])), (h_b, .inl (cI, 256, .inl vb)), (h_r, .inl (cI, 4, .inl vr_4)), (h_w, .inl (cI, 8, .inl vw))] := hD
                refine lv_aload_n hx hb d_M_tryAll_109 rfl (lv_at hl 2 rfl) ?_
                refine lv_aload_n hx hb d_M_tryAll_110 rfl (lv_at hl 2 rfl) ?_
                refine gGet fx hK hP 0 rfl inM rfl (k := 7) (by decide) w_231 rfl d_M_tryAll_111 ?_
                refine lv_if_ne (tgt := 133) hx hb d_M_tryAll_114 (by decide) (fun c114 => ?_) (fun c114 => ?_)
                · have hw := hw.1 c114
                  refine lv_aload_n hx hb d_M_tryAll_133 rfl (lv_at hl 2 rfl) ?_
                  refine gGet fx hK hP 0 rfl inM rfl (k := 9) (by decide) w_233 rfl d_M_tryAll_134 ?_
                  refine gPut fx hK hP hD hS 0 rfl inM tyM nmM rfl (k := 9) (by decide) w_233 rfl rfl rfl (Nat.le_of_ble_eq_true rfl) d_M_tryAll_137 (fun H locs hP hD hS => ?_)
                  have hP : va_P D gCl [(h_o, .inr (3, [.ref h_w, .ref o_tape, .int o_length, .int o_spent, .ref h_b, .int o_many, .int oat_2, .int oisOut_3, .ref h_r, .int o_values, .int (o_failures + (nI 1)), .int (o_works + oat_2)])), (h_b, .inl (cI, 256, .inl vb)), (h_r, .inl (cI, 4, .inl vr_4)), (h_w, .inl (cI, 8, .inl vw))] H := hP
                  have hD : va_D A [(h_o, .inr (3, [.ref h_w, .ref o_tape, .int o_length, .int o_spent, .ref h_b, .int o_many, .int oat_2, .int oisOut_3, .ref h_r, .int o_values, .int (o_failures + (nI 1)), .int (o_works + oat_2)])), (h_b, .inl (cI, 256, .inl vb)), (h_r, .inl (cI, 4, .inl vr_4)), (h_w, .inl (cI, 8, .inl vw))] := hD
                  refine lv_iinc (v := (x6 + (nI 1))) (lv' := [(6, .int (x6 + (nI 1))), (7, .int r_1), (0, .ref h_o), (1, .int x1), (2, .int x2), (3, .int x3), (4, .int x4), (5, .int x5)]) hx hb d_M_tryAll_140 hl (k := 1) rfl rfl (by decide) rfl (fun ls hl => ?_)
                  refine lv_goto (tgt := 24) hx hb d_M_tryAll_143 (by decide) ?_
                  exact ih_24 _ _ _ _ _ _ _ _ hw _ _ _ hP hD hS (lv_sub hl [0, 2, 3, 4, 5, 6, 7] rfl)
                · have hw := hw.2 c114
                  refine lv_iload hx hb d_M_tryAll_117 (lv_at hl 0 rfl) ?_
                  refine lv_iload hx hb d_M_tryAll_119 (lv_at hl 7 rfl) ?_
                  refine lv_icmp_ne (tgt := 133) hx hb d_M_tryAll_121 (by decide) (fun c121 => ?_) (fun c121 => ?_)
                  · have hw := hw.1 c121
                    refine lv_aload_n hx hb d_M_tryAll_133 rfl (lv_at hl 2 rfl) ?_
                    refine gGet fx hK hP 0 rfl inM rfl (k := 9) (by decide) w_233 rfl d_M_tryAll_134 ?_
                    refine gPut fx hK hP hD hS 0 rfl inM tyM nmM rfl (k := 9) (by decide) w_233 rfl rfl rfl (Nat.le_of_ble_eq_true rfl) d_M_tryAll_137 (fun H locs hP hD hS => ?_)
                    have hP : va_P D gCl [(h_o, .inr (3, [.ref h_w, .ref o_tape, .int o_length, .int o_spent, .ref h_b, .int o_many, .int oat_2, .int oisOut_3, .ref h_r, .int o_values, .int (o_failures + (nI 1)), .int (o_works + oat_2)])), (h_b, .inl (cI, 256, .inl vb)), (h_r, .inl (cI, 4, .inl vr_4)), (h_w, .inl (cI, 8, .inl vw))] H := hP
                    have hD : va_D A [(h_o, .inr (3, [.ref h_w, .ref o_tape, .int o_length, .int o_spent, .ref h_b, .int o_many, .int oat_2, .int oisOut_3, .ref h_r, .int o_values, .int (o_failures + (nI 1)), .int (o_works + oat_2)])), (h_b, .inl (cI, 256, .inl vb)), (h_r, .inl (cI, 4, .inl vr_4)), (h_w, .inl (cI, 8, .inl vw))] := hD
                    refine lv_iinc (v := (x6 + (nI 1))) (lv' := [(6, .int (x6 + (nI 1))), (7, .int r_1), (0, .ref h_o), (1, .int x1), (2, .int x2), (3, .int x3), (4, .int x4), (5, .int x5)]) hx hb d_M_tryAll_140 hl (k := 1) rfl rfl (by decide) rfl (fun ls hl => ?_)
                    refine lv_goto (tgt := 24) hx hb d_M_tryAll_143 (by decide) ?_
                    exact ih_24 _ _ _ _ _ _ _ _ hw _ _ _ hP hD hS (lv_sub hl [0, 2, 3, 4, 5, 6, 7] rfl)
                  · have hw := hw.2 c121
                    refine lv_aload_n hx hb d_M_tryAll_124 rfl (lv_at hl 2 rfl) ?_
                    refine gGet fx hK hP 0 rfl inM rfl (k := 9) (by decide) w_233 rfl d_M_tryAll_125 ?_
                    refine lv_iconst (v := (nI 1)) hx hb d_M_tryAll_128 (by decide) ?_
                    refine lv_iadd hx hb d_M_tryAll_129 ?_
                    refine lv_goto (tgt := 137) hx hb d_M_tryAll_130 (by decide) ?_
                    refine gPut fx hK hP hD hS 0 rfl inM tyM nmM rfl (k := 9) (by decide) w_233 rfl rfl rfl (Nat.le_of_ble_eq_true rfl) d_M_tryAll_137 (fun H locs hP hD hS => ?_)
                    have hP : va_P D gCl [(h_o, .inr (3, [.ref h_w, .ref o_tape, .int o_length, .int o_spent, .ref h_b, .int o_many, .int oat_2, .int oisOut_3, .ref h_r, .int (o_values + (nI 1)), .int (o_failures + (nI 1)), .int (o_works + oat_2)])), (h_b, .inl (cI, 256, .inl vb)), (h_r, .inl (cI, 4, .inl vr_4)), (h_w, .inl (cI, 8, .inl vw))] H := hP
                    have hD : va_D A [(h_o, .inr (3, [.ref h_w, .ref o_tape, .int o_length, .int o_spent, .ref h_b, .int o_many, .int oat_2, .int oisOut_3, .ref h_r, .int (o_values + (nI 1)), .int (o_failures + (nI 1)), .int (o_works + oat_2)])), (h_b, .inl (cI, 256, .inl vb)), (h_r, .inl (cI, 4, .inl vr_4)), (h_w, .inl (cI, 8, .inl vw))] := hD
                    refine lv_iinc (v := (x6 + (nI 1))) (lv' := [(6, .int (x6 + (nI 1))), (7, .int r_1), (0, .ref h_o), (1, .int x1), (2, .int x2), (3, .int x3), (4, .int x4), (5, .int x5)]) hx hb d_M_tryAll_140 hl (k := 1) rfl rfl (by decide) rfl (fun ls hl => ?_)
                    refine lv_goto (tgt := 24) hx hb d_M_tryAll_143 (by decide) ?_
                    exact ih_24 _ _ _ _ _ _ _ _ hw _ _ _ hP hD hS (lv_sub hl [0, 2, 3, 4, 5, 6, 7] rfl)
            · have hw := hw.2 c40
              refine lv_aload_n hx hb d_M_tryAll_43 rfl (lv_at hl 2 rfl) ?_
              refine gGet fx hK hP 0 rfl inM rfl (k := 4) (by decide) w_228 rfl d_M_tryAll_44 ?_
              refine lv_iload hx hb d_M_tryAll_47 (lv_at hl 0 rfl) ?_
              refine lv_iload hx hb d_M_tryAll_49 (lv_at hl 1 rfl) ?_
              refine lv_iload hx hb d_M_tryAll_51 (lv_at hl 0 rfl) ?_
              refine lv_ishr hx hb d_M_tryAll_53 ?_
              refine lv_iconst (v := (nI 1)) hx hb d_M_tryAll_54 (by decide) ?_
              refine lv_iand hx hb d_M_tryAll_55 ?_
              refine va_iast hx hb hK hP hD hS 1 0 rfl rfl hw.1 d_M_tryAll_56 (fun H locs hP hD hS => ?_)
              have hw := hw.2
              have hP : va_P D gCl [(h_o, .inr (3, [.ref h_w, .ref o_tape, .int o_length, .int o_spent, .ref h_b, .int o_many, .int o_at, .int o_isOut, .ref h_r, .int o_values, .int o_failures, .int o_works])), (h_b, .inl (cI, 256, .inl (upd vb (x7).toNatClampNeg ((x6 >>> (x7 &&& 31)) &&& (nI 1))))), (h_r, .inl (cI, 4, .inl vr)), (h_w, .inl (cI, 8, .inl vw))] H := hP
              have hD : va_D A [(h_o, .inr (3, [.ref h_w, .ref o_tape, .int o_length, .int o_spent, .ref h_b, .int o_many, .int o_at, .int o_isOut, .ref h_r, .int o_values, .int o_failures, .int o_works])), (h_b, .inl (cI, 256, .inl (upd vb (x7).toNatClampNeg ((x6 >>> (x7 &&& 31)) &&& (nI 1))))), (h_r, .inl (cI, 4, .inl vr)), (h_w, .inl (cI, 8, .inl vw))] := hD
              refine lv_iinc (v := (x7 + (nI 1))) (lv' := [(7, .int (x7 + (nI 1))), (6, .int x6), (0, .ref h_o), (1, .int x1), (2, .int x2), (3, .int x3), (4, .int x4), (5, .int x5)]) hx hb d_M_tryAll_57 hl (k := 0) rfl rfl (by decide) rfl (fun ls hl => ?_)
              refine lv_goto (tgt := 36) hx hb d_M_tryAll_60 (by decide) ?_
              exact ih_36 _ _ hw _ _ _ hP hD hS (lv_sub hl [0, 1, 2, 3, 4, 5, 6, 7] rfl)
        exact k_36 n_36 _ _ hw _ _ _ hP hD hS (lv_sub hl [0, 1, 2, 3, 4, 5, 6, 7] rfl)
  exact k_24 x4 n_24 _ _ _ _ _ _ _ _ hw _ _ _ hP hD hS (lv_sub hl [0, 1, 2, 3, 4, 5, 6] rfl)
def wp_M_count (post : Int32 → Int32 → Int32 → Int32 → Int32 → Int32 → Int32 → (Nat → Int32) → (Nat → Int32) → Prop) (o_length : Int32) (o_spent : Int32) (o_many : Int32) (o_at : Int32) (o_isOut : Int32) (o_values : Int32) (o_failures : Int32) (o_works : Int32) (vb : Nat → Int32) (vr : Nat → Int32) (vw : Nat → Int32) (x1 : Int32) (x2 : Int32) (x3 : Int32) (x4 : Int32) (x5 : Int32) : Prop :=
  wp_M_isAll (fun r_1 => ((¬ r_1 = 0 → wp_M_tryAll (fun omany_2 oat_3 oisOut_4 ovalues_5 ofailures_6 oworks_7 vb_8 vr_9 => post ovalues_5 omany_2 oat_3 oisOut_4 ovalues_5 ofailures_6 oworks_7 vb_8 vr_9) o_length o_spent o_many o_at o_isOut o_values o_failures o_works vb vr vw x1 x2 x3 x4 x5) ∧ (r_1 = 0 → post (-1) o_many o_at o_isOut o_values o_failures o_works vb vr))) o_length o_spent o_many o_at o_isOut o_values o_failures o_works vw x1 x2 x3 x4
abbrev rm_M_count : Room := { frames := 5, cells := 0, slots := 0, locals := 122 }
theorem mf_M_count : gFV y_M_count b_M_count 6 (some .int) 5 := ⟨w_329, w_4, ⟨by decide, by decide, by decide +kernel⟩, w_327, w_328⟩
set_option maxHeartbeats 4000000 in
set_option maxRecDepth 100000 in
theorem c_M_count (l : Launch) (D : va_G) (cI : ClassId) (h_o : Nat) (h_b : Nat) (h_r : Nat) (h_w : Nat) (o_tape : Nat) (o_length : Int32) (o_spent : Int32) (o_many : Int32) (o_at : Int32) (o_isOut : Int32) (o_values : Int32) (o_failures : Int32) (o_works : Int32) (vb : Nat → Int32) (vr : Nat → Int32) (vw : Nat → Int32) (x1 : Int32) (x2 : Int32) (x3 : Int32) (x4 : Int32) (x5 : Int32) (post : Int32 → Int32 → Int32 → Int32 → Int32 → Int32 → Int32 → (Nat → Int32) → (Nat → Int32) → Prop) (hw : wp_M_count post o_length o_spent o_many o_at o_isOut o_values o_failures o_works vb vr vw x1 x2 x3 x4 x5) :
    gMi l D [(cI, .int)] y_M_count b_M_count 6 .int rm_M_count [.ref h_o, .int x1, .int x2, .int x3, .int x4, .int x5] [(h_o, .inr (3, [.ref h_w, .ref o_tape, .int o_length, .int o_spent, .ref h_b, .int o_many, .int o_at, .int o_isOut, .ref h_r, .int o_values, .int o_failures, .int o_works])), (h_b, .inl (cI, 256, .inl vb)), (h_r, .inl (cI, 4, .inl vr)), (h_w, .inl (cI, 8, .inl vw))] (S := Int32 × Int32 × Int32 × Int32 × Int32 × Int32 × (Nat → Int32) × (Nat → Int32)) (fun u => [(h_o, .inr (3, [.ref h_w, .ref o_tape, .int o_length, .int o_spent, .ref h_b, .int u.1, .int u.2.1, .int u.2.2.1, .ref h_r, .int u.2.2.2.1, .int u.2.2.2.2.1, .int u.2.2.2.2.2.1])), (h_b, .inl (cI, 256, .inl u.2.2.2.2.2.2.1)), (h_r, .inl (cI, 4, .inl u.2.2.2.2.2.2.2)), (h_w, .inl (cI, 8, .inl vw))]) (fun r u => post r u.1 u.2.1 u.2.2.1 u.2.2.2.1 u.2.2.2.2.1 u.2.2.2.2.2.1 u.2.2.2.2.2.2.1 u.2.2.2.2.2.2.2) := by
  rw [wp_M_count] at hw
  refine gMi.of (by decide) (Nat.le_of_ble_eq_true rfl) (fun p e s m args below meth c A Q ls hx hb hml hown hts hN hK hA hP hD hret hl => ?_)
  have fx : CallFix p m c b_M_count 6 s args gG "TapeCounterModel" := ⟨hx, hb, hml, hown, hts⟩
  have hl : lv_has ls 6 [(0, .ref h_o), (1, .int x1), (2, .int x2), (3, .int x3), (4, .int x4), (5, .int x5)] := hl
  have hS : va_S A s.heap s.heap [] := va_S.rf
  refine lv_aload_n hx hb d_M_count_0 rfl (lv_at hl 0 rfl) ?_
  refine lv_iload_n hx hb d_M_count_1 rfl (lv_at hl 1 rfl) ?_
  refine lv_iload_n hx hb d_M_count_2 rfl (lv_at hl 2 rfl) ?_
  refine lv_iload_n hx hb d_M_count_3 rfl (lv_at hl 3 rfl) ?_
  refine lv_iload hx hb d_M_count_4 (lv_at hl 4 rfl) ?_
  refine g_cVi (wr := [(h_b, .inl (cI, 256, .inl vb)), (h_r, .inl (cI, 4, .inl vr))]) fx (c_M_isAll l D cI h_o h_w o_tape h_b h_r o_length o_spent o_many o_at o_isOut o_values o_failures o_works vw x1 x2 x3 x4 _ hw) mf_M_isAll w_330 ⟨rfl, rfl⟩ ⟨Nat.le_of_ble_eq_true rfl, Nat.le_of_ble_eq_true rfl⟩ hN hK hA hP hD hS [0, 3] [1, 2] rfl rfl rfl rfl (by decide) 0 rfl rfl rfl rfl hl.1 (Nat.le_of_ble_eq_true rfl) d_M_count_6 ⟨Nat.zero_le _, Nat.zero_le _⟩ (fun r_1 u H locs hw hP hD hS => ?_)
  try dsimp only at hw
  have hP : va_P D gCl [(h_b, .inl (cI, 256, .inl vb)), (h_r, .inl (cI, 4, .inl vr)), (h_o, .inr (3, [.ref h_w, .ref o_tape, .int o_length, .int o_spent, .ref h_b, .int o_many, .int o_at, .int o_isOut, .ref h_r, .int o_values, .int o_failures, .int o_works])), (h_w, .inl (cI, 8, .inl vw))] H := hP
  have hD : va_D A [(h_b, .inl (cI, 256, .inl vb)), (h_r, .inl (cI, 4, .inl vr)), (h_o, .inr (3, [.ref h_w, .ref o_tape, .int o_length, .int o_spent, .ref h_b, .int o_many, .int o_at, .int o_isOut, .ref h_r, .int o_values, .int o_failures, .int o_works])), (h_w, .inl (cI, 8, .inl vw))] := hD
  refine lv_if_ne (tgt := 14) hx hb d_M_count_9 (by decide) (fun c9 => ?_) (fun c9 => ?_)
  · have hw := hw.1 c9
    refine lv_aload_n hx hb d_M_count_14 rfl (lv_at hl 0 rfl) ?_
    refine lv_iload_n hx hb d_M_count_15 rfl (lv_at hl 1 rfl) ?_
    refine lv_iload_n hx hb d_M_count_16 rfl (lv_at hl 2 rfl) ?_
    refine lv_iload_n hx hb d_M_count_17 rfl (lv_at hl 3 rfl) ?_
    refine lv_iload hx hb d_M_count_18 (lv_at hl 4 rfl) ?_
    refine lv_iload hx hb d_M_count_20 (lv_at hl 5 rfl) ?_
    refine g_cVv (wr := []) fx (c_M_tryAll l D cI h_o h_b h_r h_w o_tape o_length o_spent o_many o_at o_isOut o_values o_failures o_works vb vr vw x1 x2 x3 x4 x5 _ hw) mf_M_tryAll w_334 ⟨rfl, rfl⟩ ⟨Nat.le_of_ble_eq_true rfl, Nat.le_of_ble_eq_true rfl⟩ hN hK hA hP hD hS [2, 0, 1, 3] [] rfl rfl rfl rfl (by decide) 0 rfl rfl rfl rfl hl.1 (Nat.le_of_ble_eq_true rfl) d_M_count_22 ⟨Nat.zero_le _, Nat.zero_le _⟩ (fun u H locs hw hP hD hS => ?_)
    obtain ⟨omany_2, oat_3, oisOut_4, ovalues_5, ofailures_6, oworks_7, vb_8, vr_9⟩ := u
    try dsimp only at hw
    have hP : va_P D gCl [(h_o, .inr (3, [.ref h_w, .ref o_tape, .int o_length, .int o_spent, .ref h_b, .int omany_2, .int oat_3, .int oisOut_4, .ref h_r, .int ovalues_5, .int ofailures_6, .int oworks_7])), (h_b, .inl (cI, 256, .inl vb_8)), (h_r, .inl (cI, 4, .inl vr_9)), (h_w, .inl (cI, 8, .inl vw))] H := hP
    have hD : va_D A [(h_o, .inr (3, [.ref h_w, .ref o_tape, .int o_length, .int o_spent, .ref h_b, .int omany_2, .int oat_3, .int oisOut_4, .ref h_r, .int ovalues_5, .int ofailures_6, .int oworks_7])), (h_b, .inl (cI, 256, .inl vb_8)), (h_r, .inl (cI, 4, .inl vr_9)), (h_w, .inl (cI, 8, .inl vw))] := hD
    refine lv_aload_n hx hb d_M_count_25 rfl (lv_at hl 0 rfl) ?_
    refine gGet fx hK hP 0 rfl inM rfl (k := 9) (by decide) w_233 rfl d_M_count_26 ?_
    exact hret _ _ _ (omany_2, oat_3, oisOut_4, ovalues_5, ofailures_6, oworks_7, vb_8, vr_9) _ _ hw rfl hP hD hS d_M_count_29
  · have hw := hw.2 c9
    refine lv_iconst (v := (-1)) hx hb d_M_count_12 (by decide) ?_
    exact hret _ _ _ (o_many, o_at, o_isOut, o_values, o_failures, o_works, vb, vr) _ _ hw rfl (gSubP hP [2, 0, 1, 3] rfl) (hD.sub [2, 0, 1, 3] rfl rfl) hS d_M_count_13
def wp_M_fails (post : Int32 → Int32 → Int32 → Int32 → Int32 → Int32 → Int32 → (Nat → Int32) → (Nat → Int32) → Prop) (o_length : Int32) (o_spent : Int32) (o_many : Int32) (o_at : Int32) (o_isOut : Int32) (o_values : Int32) (o_failures : Int32) (o_works : Int32) (vb : Nat → Int32) (vr : Nat → Int32) (vw : Nat → Int32) (x1 : Int32) (x2 : Int32) (x3 : Int32) (x4 : Int32) : Prop :=
  wp_M_isAll (fun r_1 => ((¬ r_1 = 0 → wp_M_tryAll (fun omany_2 oat_3 oisOut_4 ovalues_5 ofailures_6 oworks_7 vb_8 vr_9 => post ofailures_6 omany_2 oat_3 oisOut_4 ovalues_5 ofailures_6 oworks_7 vb_8 vr_9) o_length o_spent o_many o_at o_isOut o_values o_failures o_works vb vr vw x1 x2 x3 x4 (nI 0)) ∧ (r_1 = 0 → post (-1) o_many o_at o_isOut o_values o_failures o_works vb vr))) o_length o_spent o_many o_at o_isOut o_values o_failures o_works vw x1 x2 x3 x4
abbrev rm_M_fails : Room := { frames := 5, cells := 0, slots := 0, locals := 122 }
theorem mf_M_fails : gFV y_M_fails b_M_fails 5 (some .int) 4 := ⟨w_341, w_4, ⟨by decide, by decide, by decide +kernel⟩, w_339, w_340⟩
set_option maxHeartbeats 4000000 in
set_option maxRecDepth 100000 in
theorem c_M_fails (l : Launch) (D : va_G) (cI : ClassId) (h_o : Nat) (h_b : Nat) (h_r : Nat) (h_w : Nat) (o_tape : Nat) (o_length : Int32) (o_spent : Int32) (o_many : Int32) (o_at : Int32) (o_isOut : Int32) (o_values : Int32) (o_failures : Int32) (o_works : Int32) (vb : Nat → Int32) (vr : Nat → Int32) (vw : Nat → Int32) (x1 : Int32) (x2 : Int32) (x3 : Int32) (x4 : Int32) (post : Int32 → Int32 → Int32 → Int32 → Int32 → Int32 → Int32 → (Nat → Int32) → (Nat → Int32) → Prop) (hw : wp_M_fails post o_length o_spent o_many o_at o_isOut o_values o_failures o_works vb vr vw x1 x2 x3 x4) :
    gMi l D [(cI, .int)] y_M_fails b_M_fails 5 .int rm_M_fails [.ref h_o, .int x1, .int x2, .int x3, .int x4] [(h_o, .inr (3, [.ref h_w, .ref o_tape, .int o_length, .int o_spent, .ref h_b, .int o_many, .int o_at, .int o_isOut, .ref h_r, .int o_values, .int o_failures, .int o_works])), (h_b, .inl (cI, 256, .inl vb)), (h_r, .inl (cI, 4, .inl vr)), (h_w, .inl (cI, 8, .inl vw))] (S := Int32 × Int32 × Int32 × Int32 × Int32 × Int32 × (Nat → Int32) × (Nat → Int32)) (fun u => [(h_o, .inr (3, [.ref h_w, .ref o_tape, .int o_length, .int o_spent, .ref h_b, .int u.1, .int u.2.1, .int u.2.2.1, .ref h_r, .int u.2.2.2.1, .int u.2.2.2.2.1, .int u.2.2.2.2.2.1])), (h_b, .inl (cI, 256, .inl u.2.2.2.2.2.2.1)), (h_r, .inl (cI, 4, .inl u.2.2.2.2.2.2.2)), (h_w, .inl (cI, 8, .inl vw))]) (fun r u => post r u.1 u.2.1 u.2.2.1 u.2.2.2.1 u.2.2.2.2.1 u.2.2.2.2.2.1 u.2.2.2.2.2.2.1 u.2.2.2.2.2.2.2) := by
  rw [wp_M_fails] at hw
  refine gMi.of (by decide) (Nat.le_of_ble_eq_true rfl) (fun p e s m args below meth c A Q ls hx hb hml hown hts hN hK hA hP hD hret hl => ?_)
  have fx : CallFix p m c b_M_fails 5 s args gG "TapeCounterModel" := ⟨hx, hb, hml, hown, hts⟩
  have hl : lv_has ls 5 [(0, .ref h_o), (1, .int x1), (2, .int x2), (3, .int x3), (4, .int x4)] := hl
  have hS : va_S A s.heap s.heap [] := va_S.rf
  refine lv_aload_n hx hb d_M_fails_0 rfl (lv_at hl 0 rfl) ?_
  refine lv_iload_n hx hb d_M_fails_1 rfl (lv_at hl 1 rfl) ?_
  refine lv_iload_n hx hb d_M_fails_2 rfl (lv_at hl 2 rfl) ?_
  refine lv_iload_n hx hb d_M_fails_3 rfl (lv_at hl 3 rfl) ?_
  refine lv_iload hx hb d_M_fails_4 (lv_at hl 4 rfl) ?_
  refine g_cVi (wr := [(h_b, .inl (cI, 256, .inl vb)), (h_r, .inl (cI, 4, .inl vr))]) fx (c_M_isAll l D cI h_o h_w o_tape h_b h_r o_length o_spent o_many o_at o_isOut o_values o_failures o_works vw x1 x2 x3 x4 _ hw) mf_M_isAll w_330 ⟨rfl, rfl⟩ ⟨Nat.le_of_ble_eq_true rfl, Nat.le_of_ble_eq_true rfl⟩ hN hK hA hP hD hS [0, 3] [1, 2] rfl rfl rfl rfl (by decide) 0 rfl rfl rfl rfl hl.1 (Nat.le_of_ble_eq_true rfl) d_M_fails_6 ⟨Nat.zero_le _, Nat.zero_le _⟩ (fun r_1 u H locs hw hP hD hS => ?_)
  try dsimp only at hw
  have hP : va_P D gCl [(h_b, .inl (cI, 256, .inl vb)), (h_r, .inl (cI, 4, .inl vr)), (h_o, .inr (3, [.ref h_w, .ref o_tape, .int o_length, .int o_spent, .ref h_b, .int o_many, .int o_at, .int o_isOut, .ref h_r, .int o_values, .int o_failures, .int o_works])), (h_w, .inl (cI, 8, .inl vw))] H := hP
  have hD : va_D A [(h_b, .inl (cI, 256, .inl vb)), (h_r, .inl (cI, 4, .inl vr)), (h_o, .inr (3, [.ref h_w, .ref o_tape, .int o_length, .int o_spent, .ref h_b, .int o_many, .int o_at, .int o_isOut, .ref h_r, .int o_values, .int o_failures, .int o_works])), (h_w, .inl (cI, 8, .inl vw))] := hD
  refine lv_if_ne (tgt := 14) hx hb d_M_fails_9 (by decide) (fun c9 => ?_) (fun c9 => ?_)
  · have hw := hw.1 c9
    refine lv_aload_n hx hb d_M_fails_14 rfl (lv_at hl 0 rfl) ?_
    refine lv_iload_n hx hb d_M_fails_15 rfl (lv_at hl 1 rfl) ?_
    refine lv_iload_n hx hb d_M_fails_16 rfl (lv_at hl 2 rfl) ?_
    refine lv_iload_n hx hb d_M_fails_17 rfl (lv_at hl 3 rfl) ?_
    refine lv_iload hx hb d_M_fails_18 (lv_at hl 4 rfl) ?_
    refine lv_iconst (v := (nI 0)) hx hb d_M_fails_20 (by decide) ?_
    refine g_cVv (wr := []) fx (c_M_tryAll l D cI h_o h_b h_r h_w o_tape o_length o_spent o_many o_at o_isOut o_values o_failures o_works vb vr vw x1 x2 x3 x4 (nI 0) _ hw) mf_M_tryAll w_334 ⟨rfl, rfl⟩ ⟨Nat.le_of_ble_eq_true rfl, Nat.le_of_ble_eq_true rfl⟩ hN hK hA hP hD hS [2, 0, 1, 3] [] rfl rfl rfl rfl (by decide) 0 rfl rfl rfl rfl hl.1 (Nat.le_of_ble_eq_true rfl) d_M_fails_21 ⟨Nat.zero_le _, Nat.zero_le _⟩ (fun u H locs hw hP hD hS => ?_)
    obtain ⟨omany_2, oat_3, oisOut_4, ovalues_5, ofailures_6, oworks_7, vb_8, vr_9⟩ := u
    try dsimp only at hw
    have hP : va_P D gCl [(h_o, .inr (3, [.ref h_w, .ref o_tape, .int o_length, .int o_spent, .ref h_b, .int omany_2, .int oat_3, .int oisOut_4, .ref h_r, .int ovalues_5, .int ofailures_6, .int oworks_7])), (h_b, .inl (cI, 256, .inl vb_8)), (h_r, .inl (cI, 4, .inl vr_9)), (h_w, .inl (cI, 8, .inl vw))] H := hP
    have hD : va_D A [(h_o, .inr (3, [.ref h_w, .ref o_tape, .int o_length, .int o_spent, .ref h_b, .int omany_2, .int oat_3, .int oisOut_4, .ref h_r, .int ovalues_5, .int ofailures_6, .int oworks_7])), (h_b, .inl (cI, 256, .inl vb_8)), (h_r, .inl (cI, 4, .inl vr_9)), (h_w, .inl (cI, 8, .inl vw))] := hD
    refine lv_aload_n hx hb d_M_fails_24 rfl (lv_at hl 0 rfl) ?_
    refine gGet fx hK hP 0 rfl inM rfl (k := 10) (by decide) w_234 rfl d_M_fails_25 ?_
    exact hret _ _ _ (omany_2, oat_3, oisOut_4, ovalues_5, ofailures_6, oworks_7, vb_8, vr_9) _ _ hw rfl hP hD hS d_M_fails_28
  · have hw := hw.2 c9
    refine lv_iconst (v := (-1)) hx hb d_M_fails_12 (by decide) ?_
    exact hret _ _ _ (o_many, o_at, o_isOut, o_values, o_failures, o_works, vb, vr) _ _ hw rfl (gSubP hP [2, 0, 1, 3] rfl) (hD.sub [2, 0, 1, 3] rfl rfl) hS d_M_fails_13
def wp_M_work (post : Int32 → Int32 → Int32 → Int32 → Int32 → Int32 → Int32 → (Nat → Int32) → (Nat → Int32) → Prop) (o_length : Int32) (o_spent : Int32) (o_many : Int32) (o_at : Int32) (o_isOut : Int32) (o_values : Int32) (o_failures : Int32) (o_works : Int32) (vb : Nat → Int32) (vr : Nat → Int32) (vw : Nat → Int32) (x1 : Int32) (x2 : Int32) (x3 : Int32) (x4 : Int32) : Prop :=
  wp_M_isAll (fun r_1 => ((¬ r_1 = 0 → wp_M_tryAll (fun omany_2 oat_3 oisOut_4 ovalues_5 ofailures_6 oworks_7 vb_8 vr_9 => post oworks_7 omany_2 oat_3 oisOut_4 ovalues_5 ofailures_6 oworks_7 vb_8 vr_9) o_length o_spent o_many o_at o_isOut o_values o_failures o_works vb vr vw x1 x2 x3 x4 (nI 0)) ∧ (r_1 = 0 → post (-1) o_many o_at o_isOut o_values o_failures o_works vb vr))) o_length o_spent o_many o_at o_isOut o_values o_failures o_works vw x1 x2 x3 x4
abbrev rm_M_work : Room := { frames := 5, cells := 0, slots := 0, locals := 122 }
theorem mf_M_work : gFV y_M_work b_M_work 5 (some .int) 4 := ⟨w_345, w_4, ⟨by decide, by decide, by decide +kernel⟩, w_343, w_344⟩
set_option maxHeartbeats 4000000 in
set_option maxRecDepth 100000 in
theorem c_M_work (l : Launch) (D : va_G) (cI : ClassId) (h_o : Nat) (h_b : Nat) (h_r : Nat) (h_w : Nat) (o_tape : Nat) (o_length : Int32) (o_spent : Int32) (o_many : Int32) (o_at : Int32) (o_isOut : Int32) (o_values : Int32) (o_failures : Int32) (o_works : Int32) (vb : Nat → Int32) (vr : Nat → Int32) (vw : Nat → Int32) (x1 : Int32) (x2 : Int32) (x3 : Int32) (x4 : Int32) (post : Int32 → Int32 → Int32 → Int32 → Int32 → Int32 → Int32 → (Nat → Int32) → (Nat → Int32) → Prop) (hw : wp_M_work post o_length o_spent o_many o_at o_isOut o_values o_failures o_works vb vr vw x1 x2 x3 x4) :
    gMi l D [(cI, .int)] y_M_work b_M_work 5 .int rm_M_work [.ref h_o, .int x1, .int x2, .int x3, .int x4] [(h_o, .inr (3, [.ref h_w, .ref o_tape, .int o_length, .int o_spent, .ref h_b, .int o_many, .int o_at, .int o_isOut, .ref h_r, .int o_values, .int o_failures, .int o_works])), (h_b, .inl (cI, 256, .inl vb)), (h_r, .inl (cI, 4, .inl vr)), (h_w, .inl (cI, 8, .inl vw))] (S := Int32 × Int32 × Int32 × Int32 × Int32 × Int32 × (Nat → Int32) × (Nat → Int32)) (fun u => [(h_o, .inr (3, [.ref h_w, .ref o_tape, .int o_length, .int o_spent, .ref h_b, .int u.1, .int u.2.1, .int u.2.2.1, .ref h_r, .int u.2.2.2.1, .int u.2.2.2.2.1, .int u.2.2.2.2.2.1])), (h_b, .inl (cI, 256, .inl u.2.2.2.2.2.2.1)), (h_r, .inl (cI, 4, .inl u.2.2.2.2.2.2.2)), (h_w, .inl (cI, 8, .inl vw))]) (fun r u => post r u.1 u.2.1 u.2.2.1 u.2.2.2.1 u.2.2.2.2.1 u.2.2.2.2.2.1 u.2.2.2.2.2.2.1 u.2.2.2.2.2.2.2) := by
  rw [wp_M_work] at hw
  refine gMi.of (by decide) (Nat.le_of_ble_eq_true rfl) (fun p e s m args below meth c A Q ls hx hb hml hown hts hN hK hA hP hD hret hl => ?_)
  have fx : CallFix p m c b_M_work 5 s args gG "TapeCounterModel" := ⟨hx, hb, hml, hown, hts⟩
  have hl : lv_has ls 5 [(0, .ref h_o), (1, .int x1), (2, .int x2), (3, .int x3), (4, .int x4)] := hl
  have hS : va_S A s.heap s.heap [] := va_S.rf
  refine lv_aload_n hx hb d_M_work_0 rfl (lv_at hl 0 rfl) ?_
  refine lv_iload_n hx hb d_M_work_1 rfl (lv_at hl 1 rfl) ?_
  refine lv_iload_n hx hb d_M_work_2 rfl (lv_at hl 2 rfl) ?_
  refine lv_iload_n hx hb d_M_work_3 rfl (lv_at hl 3 rfl) ?_
  refine lv_iload hx hb d_M_work_4 (lv_at hl 4 rfl) ?_
  refine g_cVi (wr := [(h_b, .inl (cI, 256, .inl vb)), (h_r, .inl (cI, 4, .inl vr))]) fx (c_M_isAll l D cI h_o h_w o_tape h_b h_r o_length o_spent o_many o_at o_isOut o_values o_failures o_works vw x1 x2 x3 x4 _ hw) mf_M_isAll w_330 ⟨rfl, rfl⟩ ⟨Nat.le_of_ble_eq_true rfl, Nat.le_of_ble_eq_true rfl⟩ hN hK hA hP hD hS [0, 3] [1, 2] rfl rfl rfl rfl (by decide) 0 rfl rfl rfl rfl hl.1 (Nat.le_of_ble_eq_true rfl) d_M_work_6 ⟨Nat.zero_le _, Nat.zero_le _⟩ (fun r_1 u H locs hw hP hD hS => ?_)
  try dsimp only at hw
  have hP : va_P D gCl [(h_b, .inl (cI, 256, .inl vb)), (h_r, .inl (cI, 4, .inl vr)), (h_o, .inr (3, [.ref h_w, .ref o_tape, .int o_length, .int o_spent, .ref h_b, .int o_many, .int o_at, .int o_isOut, .ref h_r, .int o_values, .int o_failures, .int o_works])), (h_w, .inl (cI, 8, .inl vw))] H := hP
  have hD : va_D A [(h_b, .inl (cI, 256, .inl vb)), (h_r, .inl (cI, 4, .inl vr)), (h_o, .inr (3, [.ref h_w, .ref o_tape, .int o_length, .int o_spent, .ref h_b, .int o_many, .int o_at, .int o_isOut, .ref h_r, .int o_values, .int o_failures, .int o_works])), (h_w, .inl (cI, 8, .inl vw))] := hD
  refine lv_if_ne (tgt := 14) hx hb d_M_work_9 (by decide) (fun c9 => ?_) (fun c9 => ?_)
  · have hw := hw.1 c9
    refine lv_aload_n hx hb d_M_work_14 rfl (lv_at hl 0 rfl) ?_
    refine lv_iload_n hx hb d_M_work_15 rfl (lv_at hl 1 rfl) ?_
    refine lv_iload_n hx hb d_M_work_16 rfl (lv_at hl 2 rfl) ?_
    refine lv_iload_n hx hb d_M_work_17 rfl (lv_at hl 3 rfl) ?_
    refine lv_iload hx hb d_M_work_18 (lv_at hl 4 rfl) ?_
    refine lv_iconst (v := (nI 0)) hx hb d_M_work_20 (by decide) ?_
    refine g_cVv (wr := []) fx (c_M_tryAll l D cI h_o h_b h_r h_w o_tape o_length o_spent o_many o_at o_isOut o_values o_failures o_works vb vr vw x1 x2 x3 x4 (nI 0) _ hw) mf_M_tryAll w_334 ⟨rfl, rfl⟩ ⟨Nat.le_of_ble_eq_true rfl, Nat.le_of_ble_eq_true rfl⟩ hN hK hA hP hD hS [2, 0, 1, 3] [] rfl rfl rfl rfl (by decide) 0 rfl rfl rfl rfl hl.1 (Nat.le_of_ble_eq_true rfl) d_M_work_21 ⟨Nat.zero_le _, Nat.zero_le _⟩ (fun u H locs hw hP hD hS => ?_)
    obtain ⟨omany_2, oat_3, oisOut_4, ovalues_5, ofailures_6, oworks_7, vb_8, vr_9⟩ := u
    try dsimp only at hw
    have hP : va_P D gCl [(h_o, .inr (3, [.ref h_w, .ref o_tape, .int o_length, .int o_spent, .ref h_b, .int omany_2, .int oat_3, .int oisOut_4, .ref h_r, .int ovalues_5, .int ofailures_6, .int oworks_7])), (h_b, .inl (cI, 256, .inl vb_8)), (h_r, .inl (cI, 4, .inl vr_9)), (h_w, .inl (cI, 8, .inl vw))] H := hP
    have hD : va_D A [(h_o, .inr (3, [.ref h_w, .ref o_tape, .int o_length, .int o_spent, .ref h_b, .int omany_2, .int oat_3, .int oisOut_4, .ref h_r, .int ovalues_5, .int ofailures_6, .int oworks_7])), (h_b, .inl (cI, 256, .inl vb_8)), (h_r, .inl (cI, 4, .inl vr_9)), (h_w, .inl (cI, 8, .inl vw))] := hD
    refine lv_aload_n hx hb d_M_work_24 rfl (lv_at hl 0 rfl) ?_
    refine gGet fx hK hP 0 rfl inM rfl (k := 11) (by decide) w_235 rfl d_M_work_25 ?_
    exact hret _ _ _ (omany_2, oat_3, oisOut_4, ovalues_5, ofailures_6, oworks_7, vb_8, vr_9) _ _ hw rfl hP hD hS d_M_work_28
  · have hw := hw.2 c9
    refine lv_iconst (v := (-1)) hx hb d_M_work_12 (by decide) ?_
    exact hret _ _ _ (o_many, o_at, o_isOut, o_values, o_failures, o_works, vb, vr) _ _ hw rfl (gSubP hP [2, 0, 1, 3] rfl) (hD.sub [2, 0, 1, 3] rfl rfl) hS d_M_work_13
def wpF_M_first_15 (post : Int32 → Int32 → Int32 → Int32 → Int32 → Int32 → Int32 → (Nat → Int32) → (Nat → Int32) → Prop) (o_length : Int32) (o_spent : Int32) (vw : Nat → Int32) (x1 : Int32) (x2 : Int32) (x3 : Int32) (x4 : Int32) (K_15 : Int32 → Int32 → Int32 → Int32 → Int32 → Int32 → (Nat → Int32) → (Nat → Int32) → Int32 → Prop) (o_many : Int32) (o_at : Int32) (o_isOut : Int32) (o_values : Int32) (o_failures : Int32) (o_works : Int32) (vb : Nat → Int32) (vr : Nat → Int32) (x5 : Int32) : Prop :=
  (((nI 12) < x5 → post (nI 13) o_many o_at o_isOut o_values o_failures o_works vb vr) ∧ (¬ (nI 12) < x5 → wp_M_tryAll (fun omany_2 oat_3 oisOut_4 ovalues_5 ofailures_6 oworks_7 vb_8 vr_9 => ((ovalues_5 ≤ 0 → K_15 omany_2 oat_3 oisOut_4 ovalues_5 ofailures_6 oworks_7 vb_8 vr_9 (x5 + (nI 1))) ∧ (¬ ovalues_5 ≤ 0 → post x5 omany_2 oat_3 oisOut_4 ovalues_5 ofailures_6 oworks_7 vb_8 vr_9))) o_length o_spent o_many o_at o_isOut o_values o_failures o_works vb vr vw x1 x2 x3 x5 x4))
def wp_M_first (post : Int32 → Int32 → Int32 → Int32 → Int32 → Int32 → Int32 → (Nat → Int32) → (Nat → Int32) → Prop) (o_length : Int32) (o_spent : Int32) (o_many : Int32) (o_at : Int32) (o_isOut : Int32) (o_values : Int32) (o_failures : Int32) (o_works : Int32) (vb : Nat → Int32) (vr : Nat → Int32) (vw : Nat → Int32) (x1 : Int32) (x2 : Int32) (x3 : Int32) (x4 : Int32) : Prop :=
  wp_M_isOne (fun r_1 => ((¬ r_1 = 0 → (∃ n, gL9 (wpF_M_first_15 post o_length o_spent vw x1 x2 x3 x4) n o_many o_at o_isOut o_values o_failures o_works vb vr (nI 0))) ∧ (r_1 = 0 → post (-1) o_many o_at o_isOut o_values o_failures o_works vb vr))) o_length o_spent o_many o_at o_isOut o_values o_failures o_works vw x1 x2 x3
abbrev rm_M_first : Room := { frames := 5, cells := 0, slots := 0, locals := 122 }
theorem mf_M_first : gFV y_M_first b_M_first 6 (some .int) 4 := ⟨w_349, w_4, ⟨by decide, by decide, by decide +kernel⟩, w_347, w_348⟩
set_option maxHeartbeats 4000000 in
set_option maxRecDepth 100000 in
theorem c_M_first (l : Launch) (D : va_G) (cI : ClassId) (h_o : Nat) (h_b : Nat) (h_r : Nat) (h_w : Nat) (o_tape : Nat) (o_length : Int32) (o_spent : Int32) (o_many : Int32) (o_at : Int32) (o_isOut : Int32) (o_values : Int32) (o_failures : Int32) (o_works : Int32) (vb : Nat → Int32) (vr : Nat → Int32) (vw : Nat → Int32) (x1 : Int32) (x2 : Int32) (x3 : Int32) (x4 : Int32) (post : Int32 → Int32 → Int32 → Int32 → Int32 → Int32 → Int32 → (Nat → Int32) → (Nat → Int32) → Prop) (hw : wp_M_first post o_length o_spent o_many o_at o_isOut o_values o_failures o_works vb vr vw x1 x2 x3 x4) :
    gMi l D [(cI, .int)] y_M_first b_M_first 6 .int rm_M_first [.ref h_o, .int x1, .int x2, .int x3, .int x4] [(h_o, .inr (3, [.ref h_w, .ref o_tape, .int o_length, .int o_spent, .ref h_b, .int o_many, .int o_at, .int o_isOut, .ref h_r, .int o_values, .int o_failures, .int o_works])), (h_b, .inl (cI, 256, .inl vb)), (h_r, .inl (cI, 4, .inl vr)), (h_w, .inl (cI, 8, .inl vw))] (S := Int32 × Int32 × Int32 × Int32 × Int32 × Int32 × (Nat → Int32) × (Nat → Int32)) (fun u => [(h_o, .inr (3, [.ref h_w, .ref o_tape, .int o_length, .int o_spent, .ref h_b, .int u.1, .int u.2.1, .int u.2.2.1, .ref h_r, .int u.2.2.2.1, .int u.2.2.2.2.1, .int u.2.2.2.2.2.1])), (h_b, .inl (cI, 256, .inl u.2.2.2.2.2.2.1)), (h_r, .inl (cI, 4, .inl u.2.2.2.2.2.2.2)), (h_w, .inl (cI, 8, .inl vw))]) (fun r u => post r u.1 u.2.1 u.2.2.1 u.2.2.2.1 u.2.2.2.2.1 u.2.2.2.2.2.1 u.2.2.2.2.2.2.1 u.2.2.2.2.2.2.2) := by
  rw [wp_M_first] at hw
  refine gMi.of (by decide) (Nat.le_of_ble_eq_true rfl) (fun p e s m args below meth c A Q ls hx hb hml hown hts hN hK hA hP hD hret hl => ?_)
  have fx : CallFix p m c b_M_first 6 s args gG "TapeCounterModel" := ⟨hx, hb, hml, hown, hts⟩
  have hl : lv_has ls 6 [(0, .ref h_o), (1, .int x1), (2, .int x2), (3, .int x3), (4, .int x4)] := hl
  have hS : va_S A s.heap s.heap [] := va_S.rf
  refine lv_aload_n hx hb d_M_first_0 rfl (lv_at hl 0 rfl) ?_
  refine lv_iload_n hx hb d_M_first_1 rfl (lv_at hl 1 rfl) ?_
  refine lv_iload_n hx hb d_M_first_2 rfl (lv_at hl 2 rfl) ?_
  refine lv_iload_n hx hb d_M_first_3 rfl (lv_at hl 3 rfl) ?_
  refine g_cVi (wr := [(h_b, .inl (cI, 256, .inl vb)), (h_r, .inl (cI, 4, .inl vr))]) fx (c_M_isOne l D cI h_o h_w o_tape h_b h_r o_length o_spent o_many o_at o_isOut o_values o_failures o_works vw x1 x2 x3 _ hw) mf_M_isOne w_289 ⟨rfl, rfl⟩ ⟨Nat.le_of_ble_eq_true rfl, Nat.le_of_ble_eq_true rfl⟩ hN hK hA hP hD hS [0, 3] [1, 2] rfl rfl rfl rfl (by decide) 0 rfl rfl rfl rfl hl.1 (Nat.le_of_ble_eq_true rfl) d_M_first_4 ⟨Nat.zero_le _, Nat.zero_le _⟩ (fun r_1 u H locs hw hP hD hS => ?_)
  try dsimp only at hw
  have hP : va_P D gCl [(h_b, .inl (cI, 256, .inl vb)), (h_r, .inl (cI, 4, .inl vr)), (h_o, .inr (3, [.ref h_w, .ref o_tape, .int o_length, .int o_spent, .ref h_b, .int o_many, .int o_at, .int o_isOut, .ref h_r, .int o_values, .int o_failures, .int o_works])), (h_w, .inl (cI, 8, .inl vw))] H := hP
  have hD : va_D A [(h_b, .inl (cI, 256, .inl vb)), (h_r, .inl (cI, 4, .inl vr)), (h_o, .inr (3, [.ref h_w, .ref o_tape, .int o_length, .int o_spent, .ref h_b, .int o_many, .int o_at, .int o_isOut, .ref h_r, .int o_values, .int o_failures, .int o_works])), (h_w, .inl (cI, 8, .inl vw))] := hD
  refine lv_if_ne (tgt := 12) hx hb d_M_first_7 (by decide) (fun c7 => ?_) (fun c7 => ?_)
  · have hw := hw.1 c7
    refine lv_iconst (v := (nI 0)) hx hb d_M_first_12 (by decide) ?_
    refine lv_istore (lv' := [(5, .int (nI 0)), (0, .ref h_o), (1, .int x1), (2, .int x2), (3, .int x3), (4, .int x4)]) hx hb d_M_first_13 hl (by decide) rfl (fun ls hl => ?_)
    obtain ⟨n_15, hw⟩ := hw
    have k_15 : ∀ (n_15 : Nat) (o_many : Int32) (o_at : Int32) (o_isOut : Int32) (o_values : Int32) (o_failures : Int32) (o_works : Int32) (vb : Nat → Int32) (vr : Nat → Int32) (x5 : Int32), gL9 (wpF_M_first_15 post o_length o_spent vw x1 x2 x3 x4) n_15 o_many o_at o_isOut o_values o_failures o_works vb vr x5 → ∀ (H : Heap) (locs : List Loc) (ls : Array Slot), va_P D gCl [(h_b, .inl (cI, 256, .inl vb)), (h_r, .inl (cI, 4, .inl vr)), (h_o, .inr (3, [.ref h_w, .ref o_tape, .int o_length, .int o_spent, .ref h_b, .int o_many, .int o_at, .int o_isOut, .ref h_r, .int o_values, .int o_failures, .int o_works])), (h_w, .inl (cI, 8, .inl vw))] H → va_D A [(h_b, .inl (cI, 256, .inl vb)), (h_r, .inl (cI, 4, .inl vr)), (h_o, .inr (3, [.ref h_w, .ref o_tape, .int o_length, .int o_spent, .ref h_b, .int o_many, .int o_at, .int o_isOut, .ref h_r, .int o_values, .int o_failures, .int o_works])), (h_w, .inl (cI, 8, .inl vw))] → va_S A s.heap H locs → lv_has ls 6 [(5, .int x5), (0, .ref h_o), (1, .int x1), (2, .int x2), (3, .int x3), (4, .int x4)] → W p l e rm_M_first s m args below meth c H locs 0 0 Q (F0 m 15 ls []) := by
      clear hw hP hD hS hl
      intro n_15
      induction n_15 with
      | zero => exact fun _ _ _ _ _ _ _ _ _ h => h.elim
      | succ n_15 ih_15 =>
        intro o_many o_at o_isOut o_values o_failures o_works vb vr x5 hw H locs ls hP hD hS hl
        have hw : wpF_M_first_15 post o_length o_spent vw x1 x2 x3 x4 (gL9 (wpF_M_first_15 post o_length o_spent vw x1 x2 x3 x4) n_15) o_many o_at o_isOut o_values o_failures o_works vb vr x5 := hw
        rw [wpF_M_first_15] at hw
        refine lv_iload hx hb d_M_first_15 (lv_at hl 0 rfl) ?_
        refine lv_bipush (v := (nI 12)) hx hb d_M_first_17 (by decide) ?_
        refine lv_icmp_gt (tgt := 49) hx hb d_M_first_19 (by decide) (fun c19 => ?_) (fun c19 => ?_)
        · have hw := hw.1 c19
          refine lv_bipush (v := (nI 13)) hx hb d_M_first_49 (by decide) ?_
          exact hret _ _ _ (o_many, o_at, o_isOut, o_values, o_failures, o_works, vb, vr) _ _ hw rfl (gSubP hP [2, 0, 1, 3] rfl) (hD.sub [2, 0, 1, 3] rfl rfl) hS d_M_first_51
        · have hw := hw.2 c19
          refine lv_aload_n hx hb d_M_first_22 rfl (lv_at hl 1 rfl) ?_
          refine lv_iload_n hx hb d_M_first_23 rfl (lv_at hl 2 rfl) ?_
          refine lv_iload_n hx hb d_M_first_24 rfl (lv_at hl 3 rfl) ?_
          refine lv_iload_n hx hb d_M_first_25 rfl (lv_at hl 4 rfl) ?_
          refine lv_iload hx hb d_M_first_26 (lv_at hl 0 rfl) ?_
          refine lv_iload hx hb d_M_first_28 (lv_at hl 5 rfl) ?_
          refine g_cVv (wr := []) fx (c_M_tryAll l D cI h_o h_b h_r h_w o_tape o_length o_spent o_many o_at o_isOut o_values o_failures o_works vb vr vw x1 x2 x3 x5 x4 _ hw) mf_M_tryAll w_334 ⟨rfl, rfl⟩ ⟨Nat.le_of_ble_eq_true rfl, Nat.le_of_ble_eq_true rfl⟩ hN hK hA hP hD hS [2, 0, 1, 3] [] rfl rfl rfl rfl (by decide) 0 rfl rfl rfl rfl hl.1 (Nat.le_of_ble_eq_true rfl) d_M_first_30 ⟨Nat.zero_le _, Nat.zero_le _⟩ (fun u H locs hw hP hD hS => ?_)
          obtain ⟨omany_2, oat_3, oisOut_4, ovalues_5, ofailures_6, oworks_7, vb_8, vr_9⟩ := u
          try dsimp only at hw
          have hP : va_P D gCl [(h_o, .inr (3, [.ref h_w, .ref o_tape, .int o_length, .int o_spent, .ref h_b, .int omany_2, .int oat_3, .int oisOut_4, .ref h_r, .int ovalues_5, .int ofailures_6, .int oworks_7])), (h_b, .inl (cI, 256, .inl vb_8)), (h_r, .inl (cI, 4, .inl vr_9)), (h_w, .inl (cI, 8, .inl vw))] H := hP
          have hD : va_D A [(h_o, .inr (3, [.ref h_w, .ref o_tape, .int o_length, .int o_spent, .ref h_b, .int omany_2, .int oat_3, .int oisOut_4, .ref h_r, .int ovalues_5, .int ofailures_6, .int oworks_7])), (h_b, .inl (cI, 256, .inl vb_8)), (h_r, .inl (cI, 4, .inl vr_9)), (h_w, .inl (cI, 8, .inl vw))] := hD
          refine lv_aload_n hx hb d_M_first_33 rfl (lv_at hl 1 rfl) ?_
          refine gGet fx hK hP 0 rfl inM rfl (k := 9) (by decide) w_233 rfl d_M_first_34 ?_
          refine lv_if_le (tgt := 43) hx hb d_M_first_37 (by decide) (fun c37 => ?_) (fun c37 => ?_)
          · have hw := hw.1 c37
            refine lv_iinc (v := (x5 + (nI 1))) (lv' := [(5, .int (x5 + (nI 1))), (0, .ref h_o), (1, .int x1), (2, .int x2), (3, .int x3), (4, .int x4)]) hx hb d_M_first_43 hl (k := 0) rfl rfl (by decide) rfl (fun ls hl => ?_)
            refine lv_goto (tgt := 15) hx hb d_M_first_46 (by decide) ?_
            exact ih_15 _ _ _ _ _ _ _ _ _ hw _ _ _ (gSubP hP [1, 2, 0, 3] rfl) (hD.sub [1, 2, 0, 3] rfl rfl) hS (lv_sub hl [0, 1, 2, 3, 4, 5] rfl)
          · have hw := hw.2 c37
            refine lv_iload hx hb d_M_first_40 (lv_at hl 0 rfl) ?_
            exact hret _ _ _ (omany_2, oat_3, oisOut_4, ovalues_5, ofailures_6, oworks_7, vb_8, vr_9) _ _ hw rfl hP hD hS d_M_first_42
    exact k_15 n_15 _ _ _ _ _ _ _ _ _ hw _ _ _ hP hD hS (lv_sub hl [0, 1, 2, 3, 4, 5] rfl)
  · have hw := hw.2 c7
    refine lv_iconst (v := (-1)) hx hb d_M_first_10 (by decide) ?_
    exact hret _ _ _ (o_many, o_at, o_isOut, o_values, o_failures, o_works, vb, vr) _ _ hw rfl (gSubP hP [2, 0, 1, 3] rfl) (hD.sub [2, 0, 1, 3] rfl rfl) hS d_M_first_11
end
section
def gMc (l : Launch) (D : va_G) (tys : List (ClassId × FieldType)) (y : MethodName) (cc : ByteArray) (n : Nat) (rm : Room) (As : List Value) (ws : va_W) {S : Type} (ws' : S → va_W) (post : S → Prop) (mc ms : Nat) : Prop :=
  ∀ sz : Nat, Met l y (gW (.code y cc n none)) rm (va_Pc As (gPre D tys ws sz)) (va_Qv post (fun u t => gPost D tys (va_A ws sz) (ws' u) t) (va_A ws sz)) mc ms (va_A ws sz)
theorem gMc.of {l : Launch} {D : va_G} {tys : List (ClassId × FieldType)} {y : MethodName} {cc : ByteArray} {n : Nat} {rm : Room} {As : List Value} {ws : va_W} {S : Type} {ws' : S → va_W} {post : S → Prop} {mc ms : Nat} (hy : plainName y.cls = true) (hlen : (lg_sl As).length ≤ n)
    (body : ∀ (p : Program) (e : Env) (s : State) (m : MethodId) (args : Array Value) (below : List Frame) (meth : Method) (c : Code) (A : Nat → Prop) (Q : State → Prop) (ls : Array Slot),
      p.tables.exec = Jvm.exec → c.code = cc → c.maxLocals = n → s.vm.findClass y.cls = some m.cls → (∀ w ∈ gG, w.before args s = true) → gNest s → va_K D gCl tys s → (∀ q, s.heap.size ≤ q → A q) → va_P D gCl ws s.heap → va_D A ws → meth.name = y.name →
      (∀ (H : Heap) (locs : List Loc) (u : S) (pc : Nat) (ls : Array Slot), post u → va_P D gCl (ws' u) H → va_D A (ws' u) → va_S A s.heap H locs → decode cc pc = .ok (.return_, 1) → W p l e rm s m args below meth c H locs mc ms Q (F0 m pc ls [])) →
      lv_has ls n (lv_args 0 As) → W p l e rm s m args below meth c s.heap [] 0 0 Q (F0 m 0 ls [])) : gMc l D tys y cc n rm As ws ws' post mc ms := by
  intro sz
  refine Met.ofW (cc := cc) (maxL := n) (ret := none) hy rfl ?_
  intro p e s m args below meth c s₁ B hml hv
  obtain ⟨hav, hsz, hP, hK, hD0, hN⟩ := hv
  have hts := atoms_spec (ws := gW (.code y cc n none)) B.pre
  have hown := findClass_of_methodNamed B.named
  have hlocks := B.notSynchronized
  have hin := (name_of_methodNamed B.named B.method).1
  subst hsz
  have hl := lv_entry As (n := n) hlen
  rw [show entryFrame m args n = F0 m 0 _ [] from by rw [hav, lg_entry_eq]]
  refine body p e s m args below meth c (va_A ws s.heap.size) _ _ B.exec B.bytes hml hown (fun w h => hts w (List.mem_cons_of_mem _ h)) hN hK (fun q h => Or.inr h) hP hD0.self hin ?_ hl
  intro H locs u pc ls hp hP1 hD1 hS hd
  exact W.vret B.exec B.bytes B.returns (fun t ht hW => ⟨⟨u, rfl, hp, by rw [ht]; exact hP1, va_K.moved hW.alike hK, hD1⟩, hS.F ht⟩) hS.2.2 hd
def gFI (y : MethodName) (cc : ByteArray) (maxL : Nat) (n : Nat) : Prop := Cond.code y cc maxL none ∈ gG ∧ Cond.initialized y.cls ∈ gG ∧ gOkD y n ∧ Cond.instanceMethod y ∈ gG ∧ y.name = "<init>"
section GC
variable {p : Program} {l : Launch} {e : Env} {R : Room} {s : State} {m : MethodId} {args : Array Value} {below : List Frame} {meth : Method} {c : Code} {H : Heap} {locs : List Loc} {cells slots : Nat} {Q : State → Prop}
variable {cc : ByteArray} {pc nL : Nat} {ls : Array Slot} {rest : List Value} {D : va_G} {A : Nat → Prop} {a : Nat} {tys : List (ClassId × FieldType)} {ws : va_W} {own : String}
theorem g_cI {y : MethodName} {cd : ByteArray} {maxL n index mc ms : Nat} {rm : Room} {b : Nat} {As : List Value} {wc wr : va_W} {S : Type} {wc' : S → va_W} {post : S → Prop} {st : List Value}
    (fx : CallFix p m c cc nL s args gG own) (hM : gMc l D tys y cd maxL rm (.ref b :: As) wc wc' post mc ms) (hF : gFI y cd maxL n) (hl : Cond.methodLink own index y ∈ gG) (hz : rm.cells = mc ∧ rm.slots = ms) (hR : rm.frames + 1 ≤ R.frames ∧ 8 + (maxL + 11) + rm.locals ≤ R.locals)
    (hN : gNest s) (hK : va_K D gCl tys s) (hA : ∀ q, s.heap.size ≤ q → A q) (hP : va_P D gCl ws H) (hD : va_D A ws) (hS : va_S A s.heap H locs)
    (isC isR : List Nat) (hC : isC.map (fun i => ws[i]?) = wc.map some) (hRr : isR.map (fun i => ws[i]?) = wr.map some) (hnC : va_nd isC = true) (hn : va_nd isR = true) (hdis : ∀ i ∈ isR, i ∉ isC)
    (hst : st = As.reverse ++ .ref b :: rest) (hAs : As.length = n) (hls : ls.size = nL) (hW : (rest.map fun v => v.category).sum ≤ 8) (hdg : decode cc pc = .ok (.invokespecial index, 3)) (hcs : cells + mc ≤ R.cells ∧ slots + ms ≤ R.slots)
    (kk : ∀ (u : S) (H1 : Heap) (locs1 : List Loc), post u → va_P D gCl (wr ++ wc' u) H1 → va_D A (wr ++ wc' u) → va_S A s.heap H1 locs1 → W p l e R s m args below meth c H1 locs1 (cells + mc) (slots + ms) Q (F0 m (pc + 3) ls rest)) : W p l e R s m args below meth c H locs cells slots Q (F0 m pc ls st) := by
  obtain ⟨hc, hi, hd, hin, hnm⟩ := hF
  have hts := fx.2.2.2.2
  have hPc := gSubP hP isC hC
  have hFc := va_free (wc := wc) hD hS hA isC hC
  have hDc := hD.sub isC hnC hC
  subst hst
  refine va_callv (va_runI (As := As) (rest := rest) fx (hM H.size) ⟨callB_of n hts (gGood hc) rfl hz.1 hz.2 (hts _ hi) (hts _ hl) hd hR, hnm, hts _ hin⟩ ⟨gBlind, fun U hU hW => ⟨rfl, by rw [hU], by rw [hU]; exact hPc, va_K.moved hW.alike hK, hDc.weaken (fun _ _ _ _ => trivial), hN.warm hW⟩⟩ rfl hAs hls rfl (by show 2 * 0 + _ ≤ 8; omega) hdg hcs) hS (fun q _ h => hFc q h) hFc (fun u t H1 locs1 ht hvm hw hB hz1 hk1 hS1 => ?_)
  obtain ⟨hP1, hK1, hD1⟩ := hB
  rw [ht] at hP1
  obtain ⟨hP2, hD2⟩ := va_join (wr := wr) (w1 := wc' u) hP hD isC isR hC hRr hn hdis hk1 hFc hP1 hD1
  exact kk u H1 locs1 hw hP2 hD2 hS1
theorem g_cIN {y : MethodName} {cd : ByteArray} {maxL n index mc ms : Nat} {rm : Room} {b : Nat} {As : List Value} {host : String} {wc wr : va_W} {S : Type} {wc' : S → va_W} {post : S → Prop} {st : List Value}
    (fx : CallFix p m c cc nL s args gG own) (hM : gMc l D tys y cd maxL rm (.ref b :: As) wc wc' post mc ms) (hF : gFI y cd maxL n) (hl : Cond.methodLinkNest own index y host ∈ gN) (hz : rm.cells = mc ∧ rm.slots = ms) (hR : rm.frames + 1 ≤ R.frames ∧ 8 + (maxL + 11) + rm.locals ≤ R.locals)
    (hN : gNest s) (hK : va_K D gCl tys s) (hA : ∀ q, s.heap.size ≤ q → A q) (hP : va_P D gCl ws H) (hD : va_D A ws) (hS : va_S A s.heap H locs)
    (isC isR : List Nat) (hC : isC.map (fun i => ws[i]?) = wc.map some) (hRr : isR.map (fun i => ws[i]?) = wr.map some) (hnC : va_nd isC = true) (hn : va_nd isR = true) (hdis : ∀ i ∈ isR, i ∉ isC)
    (hst : st = As.reverse ++ .ref b :: rest) (hAs : As.length = n) (hls : ls.size = nL) (hW : (rest.map fun v => v.category).sum ≤ 8) (hdg : decode cc pc = .ok (.invokespecial index, 3)) (hcs : cells + mc ≤ R.cells ∧ slots + ms ≤ R.slots)
    (kk : ∀ (u : S) (H1 : Heap) (locs1 : List Loc), post u → va_P D gCl (wr ++ wc' u) H1 → va_D A (wr ++ wc' u) → va_S A s.heap H1 locs1 → W p l e R s m args below meth c H1 locs1 (cells + mc) (slots + ms) Q (F0 m (pc + 3) ls rest)) : W p l e R s m args below meth c H locs cells slots Q (F0 m pc ls st) := by
  obtain ⟨hc, hi, hd, hin, hnm⟩ := hF
  have hts := fx.2.2.2.2
  have hPc := gSubP hP isC hC
  have hFc := va_free (wc := wc) hD hS hA isC hC
  have hDc := hD.sub isC hnC hC
  subst hst
  refine va_callv (va_runIN (As := As) (rest := rest) fx (hM H.size) ⟨va_cnB n hts (gGood hc) rfl hz.1 hz.2 (hN _ hl) (hts _ hi) hd hR, hnm, hts _ hin⟩ ⟨gBlind, fun U hU hW => ⟨rfl, by rw [hU], by rw [hU]; exact hPc, va_K.moved hW.alike hK, hDc.weaken (fun _ _ _ _ => trivial), hN.warm hW⟩⟩ rfl hAs hls rfl (by show 2 * 0 + _ ≤ 8; omega) hdg hcs) hS (fun q _ h => hFc q h) hFc (fun u t H1 locs1 ht hvm hw hB hz1 hk1 hS1 => ?_)
  obtain ⟨hP1, hK1, hD1⟩ := hB
  rw [ht] at hP1
  obtain ⟨hP2, hD2⟩ := va_join (wr := wr) (w1 := wc' u) hP hD isC isR hC hRr hn hdis hk1 hFc hP1 hD1
  exact kk u H1 locs1 hw hP2 hD2 hS1
theorem gObj {index : Nat} (fx : CallFix p m c cc nL s args gG own) (hls : ls.size = nL) (hl : Cond.methodLink own index ⟨"java/lang/Object", "<init>", "()V"⟩ ∈ gG) (hi : Cond.instanceMethod ⟨"java/lang/Object", "<init>", "()V"⟩ ∈ gG) (hc : Cond.code ⟨"java/lang/Object", "<init>", "()V"⟩ object_method_1_code 1 none ∈ gG) (hf : 1 ≤ R.frames) (hlo : (rest.map fun v => v.category).sum + 12 ≤ R.locals) (hdg : decode cc pc = .ok (.invokespecial index, 3))
    (kk : W p l e R s m args below meth c H locs cells slots Q (F0 m (pc + 3) ls rest)) : W p l e R s m args below meth c H locs cells slots Q (F0 m pc ls (.ref a :: rest)) := by
  have hts := fx.2.2.2.2
  exact W.objInit fx.1 fx.2.1 fx.2.2.2.1 (hts _ hl) (hts _ hi) (hts _ hc) rfl (by rw [fx.2.2.1]; exact hls) rfl hdg hf (by show 2 * 0 + _ + 12 ≤ _; omega) kk
theorem gNewa {cI : ClassId} {n : Int32} {N' : Nat} (fx : CallFix p m c cc nL s args gG own) (harr : Cond.arrayClass .int ∈ gG) (hK : va_K D gCl [(cI, .int)] s) (hA : ∀ q, s.heap.size ≤ q → A q) (hP : va_P D gCl ws H) (hD : va_D A ws) (hS : va_S A s.heap H locs)
    (hn : ¬ n < 0) (hN : n.toNatClampNeg = N') (hb8 : N' ≤ 1000) (hcells : cells + 1 ≤ R.cells) (hslots : slots + N' ≤ R.slots) (hdg : decode cc pc = .ok (.newarray .int, 2))
    (kk : ∀ (q : Nat) (H1 : Heap), va_P D gCl (ws ++ [(q, .inl (cI, N', .inl (fun _ => 0)))]) H1 → va_D A (ws ++ [(q, .inl (cI, N', .inl (fun _ => 0)))]) → va_S A s.heap H1 locs → W p l e R s m args below meth c H1 locs (cells + 1) (slots + N') Q (F0 m (pc + 2) ls (.ref q :: rest))) : W p l e R s m args below meth c H locs cells slots Q (F0 m pc ls (.int n :: rest)) := by
  refine va_newa (atype := .int) (ty := .int) (a0 := (N', .inl (fun _ => 0))) fx.1 fx.2.1 (fx.2.2.2.2 _ harr) rfl hK hP hD hS hA (fun _ => rfl) hn hN (by show N' * 4 ≤ _; omega) hcells hslots hdg (fun q cA H1 hK2 hP2 hD2 hS2 => ?_)
  have e1 : s.vm.findClass ("[" ++ FieldType.int.toString) = some cA := (hK2.2 1 (cA, .int) rfl).2
  have e2 : s.vm.findClass ("[" ++ FieldType.int.toString) = some cI := (hK2.2 0 (cI, .int) rfl).2
  have e3 : cA = cI := Option.some.inj (e1.symm.trans e2)
  subst e3
  exact kk q H1 hP2 hD2 hS2
theorem gNew {ci index : Nat} {C : String} {T : u_T} {N : Nat} {fs : List Value} {ty0 : Nat → FieldType} (fx : CallFix p m c cc nL s args gG own) (hK : va_K D gCl tys s) (hA : ∀ q, s.heap.size ≤ q → A q) (hP : va_P D gCl ws H) (hD : va_D A ws) (hS : va_S A s.heap H locs) (hin : ∀ w ∈ u_ws C T N, w ∈ gG) (hty : ∀ k, k < N → parseFieldDescriptor (T k).2.2.1 = some (ty0 k)) (hc : gCl[ci]? = some (C, T, N)) (hcl : Cond.classLink own index C ∈ gG) (hinst : Cond.instantiable C N ∈ gG) (hini : Cond.initialized C ∈ gG) (hfs : ∀ j, j < N → defaultValue (ty0 j) = vp_V fs j) (hcells : cells + 1 ≤ R.cells) (hslots : slots + N ≤ R.slots) (hdg : decode cc pc = .ok (.new index, 3))
    (kk : ∀ (q : Nat) (H1 : Heap), va_P D gCl (ws ++ [(q, .inr (ci, fs))]) H1 → va_D A (ws ++ [(q, .inr (ci, fs))]) → va_S A s.heap H1 locs → W p l e R s m args below meth c H1 locs (cells + 1) (slots + N) Q (F0 m (pc + 3) ls (.ref q :: rest))) : W p l e R s m args below meth c H locs cells slots Q (F0 m pc ls rest) :=
  va_new fx.1 fx.2.1 fx.2.2.2.2 hin ty0 hty fx.2.2.2.1 (fx.2.2.2.2 _ hcl) (fx.2.2.2.2 _ hinst) (fx.2.2.2.2 _ hini) hK hP hD hS hA hc hfs hcells hslots hdg kk
theorem gPutF {ci index k : Nat} {C : String} {T : u_T} {N : Nat} {fs : List Value} {v : Value} {ty0 : Nat → FieldType} (fx : CallFix p m c cc nL s args gG own) (hnm2 : meth.name = "<init>") (hK : va_K D gCl tys s) (hP : va_P D gCl ws H) (hD : va_D A ws) (hS : va_S A s.heap H locs) (q0 : Nat) (he : ws[q0]? = some (a, .inr (ci, fs))) (hin : ∀ w ∈ u_ws C T N, w ∈ gG) (hty : ∀ k, k < N → parseFieldDescriptor (T k).2.2.1 = some (ty0 k)) (hnm : ∀ a, a < N → ∀ b, b < N → a ≠ b → (T a).2.1 ≠ (T b).2.1) (hc : gCl[ci]? = some (C, T, N)) (hk : k < N) (hlink : Cond.fieldLink own index (T k).1 (T k).2.1 (T k).2.2.1 ∈ gG) (hfin : (T k).2.2.2 = true) (hdecl : (T k).1 = own) (hn : narrow (ty0 k) v = v) (hfit : fits (ty0 k) v = true) (hl : k < fs.length) (hdg : decode cc pc = .ok (.putfield index, 3))
    (kk : ∀ (H1 : Heap) (locs1 : List Loc), va_P D gCl (ws.set q0 (a, .inr (ci, fs.set k v))) H1 → va_D A (ws.set q0 (a, .inr (ci, fs.set k v))) → va_S A s.heap H1 locs1 → W p l e R s m args below meth c H1 locs1 cells slots Q (F0 m (pc + 3) ls rest)) : W p l e R s m args below meth c H locs cells slots Q (F0 m pc ls (v :: .ref a :: rest)) :=
  va_putF fx.1 fx.2.1 fx.2.2.2.2 hin ty0 hty hnm fx.2.2.2.1 hK hP hD hS q0 he hc k hk (fx.2.2.2.2 _ hlink) (fun _ h => h) hfin hnm2 hdecl (hty k hk) hn hfit hl hdg kk
end GC
def gL15 {A1 A2 A3 A4 A5 A6 A7 A8 A9 A10 A11 A12 A13 A14 A15 : Type} (F : (A1 → A2 → A3 → A4 → A5 → A6 → A7 → A8 → A9 → A10 → A11 → A12 → A13 → A14 → A15 → Prop) → A1 → A2 → A3 → A4 → A5 → A6 → A7 → A8 → A9 → A10 → A11 → A12 → A13 → A14 → A15 → Prop) : Nat → A1 → A2 → A3 → A4 → A5 → A6 → A7 → A8 → A9 → A10 → A11 → A12 → A13 → A14 → A15 → Prop
  | 0 => fun _ _ _ _ _ _ _ _ _ _ _ _ _ _ _ => False
  | n + 1 => F (gL15 F n)
def gL16 {A1 A2 A3 A4 A5 A6 A7 A8 A9 A10 A11 A12 A13 A14 A15 A16 : Type} (F : (A1 → A2 → A3 → A4 → A5 → A6 → A7 → A8 → A9 → A10 → A11 → A12 → A13 → A14 → A15 → A16 → Prop) → A1 → A2 → A3 → A4 → A5 → A6 → A7 → A8 → A9 → A10 → A11 → A12 → A13 → A14 → A15 → A16 → Prop) : Nat → A1 → A2 → A3 → A4 → A5 → A6 → A7 → A8 → A9 → A10 → A11 → A12 → A13 → A14 → A15 → A16 → Prop
  | 0 => fun _ _ _ _ _ _ _ _ _ _ _ _ _ _ _ _ => False
  | n + 1 => F (gL16 F n)
def gL17 {A1 A2 A3 A4 A5 A6 A7 A8 A9 A10 A11 A12 A13 A14 A15 A16 A17 : Type} (F : (A1 → A2 → A3 → A4 → A5 → A6 → A7 → A8 → A9 → A10 → A11 → A12 → A13 → A14 → A15 → A16 → A17 → Prop) → A1 → A2 → A3 → A4 → A5 → A6 → A7 → A8 → A9 → A10 → A11 → A12 → A13 → A14 → A15 → A16 → A17 → Prop) : Nat → A1 → A2 → A3 → A4 → A5 → A6 → A7 → A8 → A9 → A10 → A11 → A12 → A13 → A14 → A15 → A16 → A17 → Prop
  | 0 => fun _ _ _ _ _ _ _ _ _ _ _ _ _ _ _ _ _ => False
  | n + 1 => F (gL17 F n)
def gL18 {A1 A2 A3 A4 A5 A6 A7 A8 A9 A10 A11 A12 A13 A14 A15 A16 A17 A18 : Type} (F : (A1 → A2 → A3 → A4 → A5 → A6 → A7 → A8 → A9 → A10 → A11 → A12 → A13 → A14 → A15 → A16 → A17 → A18 → Prop) → A1 → A2 → A3 → A4 → A5 → A6 → A7 → A8 → A9 → A10 → A11 → A12 → A13 → A14 → A15 → A16 → A17 → A18 → Prop) : Nat → A1 → A2 → A3 → A4 → A5 → A6 → A7 → A8 → A9 → A10 → A11 → A12 → A13 → A14 → A15 → A16 → A17 → A18 → Prop
  | 0 => fun _ _ _ _ _ _ _ _ _ _ _ _ _ _ _ _ _ _ => False
  | n + 1 => F (gL18 F n)
def gL19 {A1 A2 A3 A4 A5 A6 A7 A8 A9 A10 A11 A12 A13 A14 A15 A16 A17 A18 A19 : Type} (F : (A1 → A2 → A3 → A4 → A5 → A6 → A7 → A8 → A9 → A10 → A11 → A12 → A13 → A14 → A15 → A16 → A17 → A18 → A19 → Prop) → A1 → A2 → A3 → A4 → A5 → A6 → A7 → A8 → A9 → A10 → A11 → A12 → A13 → A14 → A15 → A16 → A17 → A18 → A19 → Prop) : Nat → A1 → A2 → A3 → A4 → A5 → A6 → A7 → A8 → A9 → A10 → A11 → A12 → A13 → A14 → A15 → A16 → A17 → A18 → A19 → Prop
  | 0 => fun _ _ _ _ _ _ _ _ _ _ _ _ _ _ _ _ _ _ _ => False
  | n + 1 => F (gL19 F n)
def gL20 {A1 A2 A3 A4 A5 A6 A7 A8 A9 A10 A11 A12 A13 A14 A15 A16 A17 A18 A19 A20 : Type} (F : (A1 → A2 → A3 → A4 → A5 → A6 → A7 → A8 → A9 → A10 → A11 → A12 → A13 → A14 → A15 → A16 → A17 → A18 → A19 → A20 → Prop) → A1 → A2 → A3 → A4 → A5 → A6 → A7 → A8 → A9 → A10 → A11 → A12 → A13 → A14 → A15 → A16 → A17 → A18 → A19 → A20 → Prop) : Nat → A1 → A2 → A3 → A4 → A5 → A6 → A7 → A8 → A9 → A10 → A11 → A12 → A13 → A14 → A15 → A16 → A17 → A18 → A19 → A20 → Prop
  | 0 => fun _ _ _ _ _ _ _ _ _ _ _ _ _ _ _ _ _ _ _ _ => False
  | n + 1 => F (gL20 F n)
def gL21 {A1 A2 A3 A4 A5 A6 A7 A8 A9 A10 A11 A12 A13 A14 A15 A16 A17 A18 A19 A20 A21 : Type} (F : (A1 → A2 → A3 → A4 → A5 → A6 → A7 → A8 → A9 → A10 → A11 → A12 → A13 → A14 → A15 → A16 → A17 → A18 → A19 → A20 → A21 → Prop) → A1 → A2 → A3 → A4 → A5 → A6 → A7 → A8 → A9 → A10 → A11 → A12 → A13 → A14 → A15 → A16 → A17 → A18 → A19 → A20 → A21 → Prop) : Nat → A1 → A2 → A3 → A4 → A5 → A6 → A7 → A8 → A9 → A10 → A11 → A12 → A13 → A14 → A15 → A16 → A17 → A18 → A19 → A20 → A21 → Prop
  | 0 => fun _ _ _ _ _ _ _ _ _ _ _ _ _ _ _ _ _ _ _ _ _ => False
  | n + 1 => F (gL21 F n)
def gL22 {A1 A2 A3 A4 A5 A6 A7 A8 A9 A10 A11 A12 A13 A14 A15 A16 A17 A18 A19 A20 A21 A22 : Type} (F : (A1 → A2 → A3 → A4 → A5 → A6 → A7 → A8 → A9 → A10 → A11 → A12 → A13 → A14 → A15 → A16 → A17 → A18 → A19 → A20 → A21 → A22 → Prop) → A1 → A2 → A3 → A4 → A5 → A6 → A7 → A8 → A9 → A10 → A11 → A12 → A13 → A14 → A15 → A16 → A17 → A18 → A19 → A20 → A21 → A22 → Prop) : Nat → A1 → A2 → A3 → A4 → A5 → A6 → A7 → A8 → A9 → A10 → A11 → A12 → A13 → A14 → A15 → A16 → A17 → A18 → A19 → A20 → A21 → A22 → Prop
  | 0 => fun _ _ _ _ _ _ _ _ _ _ _ _ _ _ _ _ _ _ _ _ _ _ => False
  | n + 1 => F (gL22 F n)
def gL23 {A1 A2 A3 A4 A5 A6 A7 A8 A9 A10 A11 A12 A13 A14 A15 A16 A17 A18 A19 A20 A21 A22 A23 : Type} (F : (A1 → A2 → A3 → A4 → A5 → A6 → A7 → A8 → A9 → A10 → A11 → A12 → A13 → A14 → A15 → A16 → A17 → A18 → A19 → A20 → A21 → A22 → A23 → Prop) → A1 → A2 → A3 → A4 → A5 → A6 → A7 → A8 → A9 → A10 → A11 → A12 → A13 → A14 → A15 → A16 → A17 → A18 → A19 → A20 → A21 → A22 → A23 → Prop) : Nat → A1 → A2 → A3 → A4 → A5 → A6 → A7 → A8 → A9 → A10 → A11 → A12 → A13 → A14 → A15 → A16 → A17 → A18 → A19 → A20 → A21 → A22 → A23 → Prop
  | 0 => fun _ _ _ _ _ _ _ _ _ _ _ _ _ _ _ _ _ _ _ _ _ _ _ => False
  | n + 1 => F (gL23 F n)
def gL24 {A1 A2 A3 A4 A5 A6 A7 A8 A9 A10 A11 A12 A13 A14 A15 A16 A17 A18 A19 A20 A21 A22 A23 A24 : Type} (F : (A1 → A2 → A3 → A4 → A5 → A6 → A7 → A8 → A9 → A10 → A11 → A12 → A13 → A14 → A15 → A16 → A17 → A18 → A19 → A20 → A21 → A22 → A23 → A24 → Prop) → A1 → A2 → A3 → A4 → A5 → A6 → A7 → A8 → A9 → A10 → A11 → A12 → A13 → A14 → A15 → A16 → A17 → A18 → A19 → A20 → A21 → A22 → A23 → A24 → Prop) : Nat → A1 → A2 → A3 → A4 → A5 → A6 → A7 → A8 → A9 → A10 → A11 → A12 → A13 → A14 → A15 → A16 → A17 → A18 → A19 → A20 → A21 → A22 → A23 → A24 → Prop
  | 0 => fun _ _ _ _ _ _ _ _ _ _ _ _ _ _ _ _ _ _ _ _ _ _ _ _ => False
  | n + 1 => F (gL24 F n)
def gL25 {A1 A2 A3 A4 A5 A6 A7 A8 A9 A10 A11 A12 A13 A14 A15 A16 A17 A18 A19 A20 A21 A22 A23 A24 A25 : Type} (F : (A1 → A2 → A3 → A4 → A5 → A6 → A7 → A8 → A9 → A10 → A11 → A12 → A13 → A14 → A15 → A16 → A17 → A18 → A19 → A20 → A21 → A22 → A23 → A24 → A25 → Prop) → A1 → A2 → A3 → A4 → A5 → A6 → A7 → A8 → A9 → A10 → A11 → A12 → A13 → A14 → A15 → A16 → A17 → A18 → A19 → A20 → A21 → A22 → A23 → A24 → A25 → Prop) : Nat → A1 → A2 → A3 → A4 → A5 → A6 → A7 → A8 → A9 → A10 → A11 → A12 → A13 → A14 → A15 → A16 → A17 → A18 → A19 → A20 → A21 → A22 → A23 → A24 → A25 → Prop
  | 0 => fun _ _ _ _ _ _ _ _ _ _ _ _ _ _ _ _ _ _ _ _ _ _ _ _ _ => False
  | n + 1 => F (gL25 F n)
def gL26 {A1 A2 A3 A4 A5 A6 A7 A8 A9 A10 A11 A12 A13 A14 A15 A16 A17 A18 A19 A20 A21 A22 A23 A24 A25 A26 : Type} (F : (A1 → A2 → A3 → A4 → A5 → A6 → A7 → A8 → A9 → A10 → A11 → A12 → A13 → A14 → A15 → A16 → A17 → A18 → A19 → A20 → A21 → A22 → A23 → A24 → A25 → A26 → Prop) → A1 → A2 → A3 → A4 → A5 → A6 → A7 → A8 → A9 → A10 → A11 → A12 → A13 → A14 → A15 → A16 → A17 → A18 → A19 → A20 → A21 → A22 → A23 → A24 → A25 → A26 → Prop) : Nat → A1 → A2 → A3 → A4 → A5 → A6 → A7 → A8 → A9 → A10 → A11 → A12 → A13 → A14 → A15 → A16 → A17 → A18 → A19 → A20 → A21 → A22 → A23 → A24 → A25 → A26 → Prop
  | 0 => fun _ _ _ _ _ _ _ _ _ _ _ _ _ _ _ _ _ _ _ _ _ _ _ _ _ _ => False
  | n + 1 => F (gL26 F n)
def gL27 {A1 A2 A3 A4 A5 A6 A7 A8 A9 A10 A11 A12 A13 A14 A15 A16 A17 A18 A19 A20 A21 A22 A23 A24 A25 A26 A27 : Type} (F : (A1 → A2 → A3 → A4 → A5 → A6 → A7 → A8 → A9 → A10 → A11 → A12 → A13 → A14 → A15 → A16 → A17 → A18 → A19 → A20 → A21 → A22 → A23 → A24 → A25 → A26 → A27 → Prop) → A1 → A2 → A3 → A4 → A5 → A6 → A7 → A8 → A9 → A10 → A11 → A12 → A13 → A14 → A15 → A16 → A17 → A18 → A19 → A20 → A21 → A22 → A23 → A24 → A25 → A26 → A27 → Prop) : Nat → A1 → A2 → A3 → A4 → A5 → A6 → A7 → A8 → A9 → A10 → A11 → A12 → A13 → A14 → A15 → A16 → A17 → A18 → A19 → A20 → A21 → A22 → A23 → A24 → A25 → A26 → A27 → Prop
  | 0 => fun _ _ _ _ _ _ _ _ _ _ _ _ _ _ _ _ _ _ _ _ _ _ _ _ _ _ _ => False
  | n + 1 => F (gL27 F n)
def gL28 {A1 A2 A3 A4 A5 A6 A7 A8 A9 A10 A11 A12 A13 A14 A15 A16 A17 A18 A19 A20 A21 A22 A23 A24 A25 A26 A27 A28 : Type} (F : (A1 → A2 → A3 → A4 → A5 → A6 → A7 → A8 → A9 → A10 → A11 → A12 → A13 → A14 → A15 → A16 → A17 → A18 → A19 → A20 → A21 → A22 → A23 → A24 → A25 → A26 → A27 → A28 → Prop) → A1 → A2 → A3 → A4 → A5 → A6 → A7 → A8 → A9 → A10 → A11 → A12 → A13 → A14 → A15 → A16 → A17 → A18 → A19 → A20 → A21 → A22 → A23 → A24 → A25 → A26 → A27 → A28 → Prop) : Nat → A1 → A2 → A3 → A4 → A5 → A6 → A7 → A8 → A9 → A10 → A11 → A12 → A13 → A14 → A15 → A16 → A17 → A18 → A19 → A20 → A21 → A22 → A23 → A24 → A25 → A26 → A27 → A28 → Prop
  | 0 => fun _ _ _ _ _ _ _ _ _ _ _ _ _ _ _ _ _ _ _ _ _ _ _ _ _ _ _ _ => False
  | n + 1 => F (gL28 F n)
end
section
abbrev rm_Y_init : Room := { frames := 1, cells := 0, slots := 0, locals := 20 }
theorem mf_Y_init : gFI y_Y_init b_Y_init 1 0 := ⟨w_36, w_3, ⟨by decide, by decide, by decide +kernel⟩, w_35, rfl⟩
set_option maxHeartbeats 4000000 in
set_option maxRecDepth 100000 in
theorem c_Y_init (l : Launch) (D : va_G) (cI : ClassId) (h_y : Nat) :
    gMc l D [(cI, .int)] y_Y_init b_Y_init 1 rm_Y_init [.ref h_y] [(h_y, .inr (0, [.int (nI 0), .int (nI 0), .int (nI 0), .int (nI 0)]))] (S := Unit) (fun u => [(h_y, .inr (0, [.int (nI 0), .int (nI 0), .int (nI 0), .int (nI 0)]))]) (fun u => True) 0 0 := by
  refine gMc.of (by decide) (Nat.le_of_ble_eq_true rfl) (fun p e s m args below meth c A Q ls hx hb hml hown hts hN hK hA hP hD hnm hret hl => ?_)
  have hnm : meth.name = "<init>" := hnm
  have fx : CallFix p m c b_Y_init 1 s args gG "TapeCounter$Tally" := ⟨hx, hb, hml, hown, hts⟩
  have hl : lv_has ls 1 [(0, .ref h_y)] := hl
  have hS : va_S A s.heap s.heap [] := va_S.rf
  have hw : True := trivial
  refine lv_aload_n hx hb d_Y_init_0 rfl (lv_at hl 0 rfl) ?_
  refine gObj fx hl.1 w_37 w_13 w_14 (Nat.le_of_ble_eq_true rfl) (Nat.le_of_ble_eq_true rfl) d_Y_init_1 ?_
  refine W.widen (k := 0) (n := 0) (by first | exact Nat.le_of_ble_eq_true rfl | (show _ ≤ Nb; omega)) (by first | exact Nat.le_of_ble_eq_true rfl | (show _ ≤ Nb; omega)) ?_
  exact hret _ _ () _ _ trivial hP hD hS d_Y_init_4
abbrev rm_T_init (Nb : Nat) : Room := { frames := 1, cells := 1, slots := Nb, locals := 20 }
theorem mf_T_init : gFI y_T_init b_T_init 2 1 := ⟨w_19, w_2, ⟨by decide, by decide, by decide +kernel⟩, w_18, rfl⟩
set_option maxHeartbeats 4000000 in
set_option maxRecDepth 100000 in
theorem c_T_init (l : Launch) (D : va_G) (cI : ClassId) (h_t : Nat) (Nb : Nat) (hNb : Nb ≤ 256) :
    gMc l D [(cI, .int)] y_T_init b_T_init 2 (rm_T_init Nb) [.ref h_t, .int (nI Nb)] [(h_t, .inr (1, [.null, .int (nI 0), .int (nI 0)]))] (S := Nat) (fun u => [(h_t, .inr (1, [.ref u, .int (nI 0), .int (nI 0)])), (u, .inl (cI, Nb, .inl (fun _ => 0)))]) (fun u => True) 1 Nb := by
  refine gMc.of (by decide) (Nat.le_of_ble_eq_true rfl) (fun p e s m args below meth c A Q ls hx hb hml hown hts hN hK hA hP hD hnm hret hl => ?_)
  have hnm : meth.name = "<init>" := hnm
  have fx : CallFix p m c b_T_init 2 s args gG "TapeCounter$Tape" := ⟨hx, hb, hml, hown, hts⟩
  have hl : lv_has ls 2 [(0, .ref h_t), (1, .int (nI Nb))] := hl
  have hS : va_S A s.heap s.heap [] := va_S.rf
  have hw : True := trivial
  refine lv_aload_n hx hb d_T_init_0 rfl (lv_at hl 0 rfl) ?_
  refine gObj fx hl.1 w_20 w_13 w_14 (Nat.le_of_ble_eq_true rfl) (Nat.le_of_ble_eq_true rfl) d_T_init_1 ?_
  refine lv_aload_n hx hb d_T_init_4 rfl (lv_at hl 0 rfl) ?_
  refine lv_iload_n hx hb d_T_init_5 rfl (lv_at hl 1 rfl) ?_
  refine gNewa (N' := Nb) fx w_31 hK hA hP hD hS (nI_pos (by omega)) (nI_clamp (by omega)) (by omega) (by first | exact Nat.le_of_ble_eq_true rfl | (show _ ≤ Nb; omega)) (by first | exact Nat.le_of_ble_eq_true rfl | (show _ ≤ Nb; omega)) d_T_init_6 (fun h_b H hP hD hS => ?_)
  have hP : va_P D gCl [(h_t, .inr (1, [.null, .int (nI 0), .int (nI 0)])), (h_b, .inl (cI, Nb, .inl (fun _ => 0)))] H := hP
  have hD : va_D A [(h_t, .inr (1, [.null, .int (nI 0), .int (nI 0)])), (h_b, .inl (cI, Nb, .inl (fun _ => 0)))] := hD
  refine gPutF fx hnm hK hP hD hS 0 rfl inT tyT nmT rfl (k := 0) (by decide) w_21 rfl rfl rfl rfl (Nat.le_of_ble_eq_true rfl) d_T_init_8 (fun H locs hP hD hS => ?_)
  have hP : va_P D gCl [(h_t, .inr (1, [.ref h_b, .int (nI 0), .int (nI 0)])), (h_b, .inl (cI, Nb, .inl (fun _ => 0)))] H := hP
  have hD : va_D A [(h_t, .inr (1, [.ref h_b, .int (nI 0), .int (nI 0)])), (h_b, .inl (cI, Nb, .inl (fun _ => 0)))] := hD
  refine lv_aload_n hx hb d_T_init_11 rfl (lv_at hl 0 rfl) ?_
  refine lv_iconst (v := (nI 0)) hx hb d_T_init_12 (by decide) ?_
  refine gPut fx hK hP hD hS 0 rfl inT tyT nmT rfl (k := 1) (by decide) w_22 rfl rfl rfl (Nat.le_of_ble_eq_true rfl) d_T_init_13 (fun H locs hP hD hS => ?_)
  have hP : va_P D gCl [(h_t, .inr (1, [.ref h_b, .int (nI 0), .int (nI 0)])), (h_b, .inl (cI, Nb, .inl (fun _ => 0)))] H := hP
  have hD : va_D A [(h_t, .inr (1, [.ref h_b, .int (nI 0), .int (nI 0)])), (h_b, .inl (cI, Nb, .inl (fun _ => 0)))] := hD
  refine lv_aload_n hx hb d_T_init_16 rfl (lv_at hl 0 rfl) ?_
  refine lv_iconst (v := (nI 0)) hx hb d_T_init_17 (by decide) ?_
  refine gPut fx hK hP hD hS 0 rfl inT tyT nmT rfl (k := 2) (by decide) w_23 rfl rfl rfl (Nat.le_of_ble_eq_true rfl) d_T_init_18 (fun H locs hP hD hS => ?_)
  have hP : va_P D gCl [(h_t, .inr (1, [.ref h_b, .int (nI 0), .int (nI 0)])), (h_b, .inl (cI, Nb, .inl (fun _ => 0)))] H := hP
  have hD : va_D A [(h_t, .inr (1, [.ref h_b, .int (nI 0), .int (nI 0)])), (h_b, .inl (cI, Nb, .inl (fun _ => 0)))] := hD
  refine W.widen (k := 1) (n := Nb) (by first | exact Nat.le_of_ble_eq_true rfl | (show _ ≤ Nb; omega)) (by first | exact Nat.le_of_ble_eq_true rfl | (show _ ≤ Nb; omega)) ?_
  exact hret _ _ h_b _ _ trivial hP hD hS d_T_init_21
def wpF_C_init_14 (post : (Nat → Int32) → Prop) (K_14 : (Nat → Int32) → Int32 → Prop) (vw : Nat → Int32) (x1 : Int32) : Prop :=
  (((nI 8) ≤ x1 → post vw) ∧ (¬ (nI 8) ≤ x1 → (vp_in x1 8 ∧ K_14 (upd vw (x1).toNatClampNeg (nI 1)) (x1 + (nI 1)))))
def wp_C_init (post : (Nat → Int32) → Prop) : Prop :=
  (∃ n, gL2 (wpF_C_init_14 post) n (fun _ => 0) (nI 0))
abbrev rm_C_init : Room := { frames := 2, cells := 7, slots := 290, locals := 41 }
theorem mf_C_init : gFI y_C_init b_C_init 2 0 := ⟨w_11, w_1, ⟨by decide, by decide, by decide +kernel⟩, w_10, rfl⟩
set_option maxHeartbeats 4000000 in
set_option maxRecDepth 100000 in
theorem c_C_init (l : Launch) (D : va_G) (cI : ClassId) (h_c : Nat) (post : (Nat → Int32) → Prop) (hw : wp_C_init post) :
    gMc l D [(cI, .int)] y_C_init b_C_init 2 rm_C_init [.ref h_c] [(h_c, .inr (2, [.null, .null, .null, .null, .null, .int (nI 0)]))] (S := Nat × Nat × Nat × Nat × Nat × Nat × Nat × (Nat → Int32)) (fun u => [(h_c, .inr (2, [.ref u.1, .ref u.2.1, .ref u.2.2.1, .ref u.2.2.2.2.1, .ref u.2.2.2.2.2.2.1, .int (nI 0)])), (u.1, .inl (cI, 8, .inl u.2.2.2.2.2.2.2)), (u.2.1, .inl (cI, 4, .inl (fun _ => 0))), (u.2.2.1, .inr (1, [.ref u.2.2.2.1, .int (nI 0), .int (nI 0)])), (u.2.2.2.1, .inl (cI, 256, .inl (fun _ => 0))), (u.2.2.2.2.1, .inr (1, [.ref u.2.2.2.2.2.1, .int (nI 0), .int (nI 0)])), (u.2.2.2.2.2.1, .inl (cI, 12, .inl (fun _ => 0))), (u.2.2.2.2.2.2.1, .inr (0, [.int (nI 0), .int (nI 0), .int (nI 0), .int (nI 0)]))]) (fun u => post u.2.2.2.2.2.2.2) 7 290 := by
  rw [wp_C_init] at hw
  refine gMc.of (by decide) (Nat.le_of_ble_eq_true rfl) (fun p e s m args below meth c A Q ls hx hb hml hown hts hN hK hA hP hD hnm hret hl => ?_)
  have hnm : meth.name = "<init>" := hnm
  have fx : CallFix p m c b_C_init 2 s args gG "TapeCounter" := ⟨hx, hb, hml, hown, hts⟩
  have hl : lv_has ls 2 [(0, .ref h_c)] := hl
  have hS : va_S A s.heap s.heap [] := va_S.rf
  refine lv_aload_n hx hb d_C_init_0 rfl (lv_at hl 0 rfl) ?_
  refine gObj fx hl.1 w_12 w_13 w_14 (Nat.le_of_ble_eq_true rfl) (Nat.le_of_ble_eq_true rfl) d_C_init_1 ?_
  refine lv_aload_n hx hb d_C_init_4 rfl (lv_at hl 0 rfl) ?_
  refine lv_bipush (v := (nI 8)) hx hb d_C_init_5 (by decide) ?_
  refine gNewa (N' := 8) fx w_31 hK hA hP hD hS (by decide) (by decide) (by decide) (by first | exact Nat.le_of_ble_eq_true rfl | (show _ ≤ Nb; omega)) (by first | exact Nat.le_of_ble_eq_true rfl | (show _ ≤ Nb; omega)) d_C_init_7 (fun h_w H hP hD hS => ?_)
  have hP : va_P D gCl [(h_c, .inr (2, [.null, .null, .null, .null, .null, .int (nI 0)])), (h_w, .inl (cI, 8, .inl (fun _ => 0)))] H := hP
  have hD : va_D A [(h_c, .inr (2, [.null, .null, .null, .null, .null, .int (nI 0)])), (h_w, .inl (cI, 8, .inl (fun _ => 0)))] := hD
  refine gPutF fx hnm hK hP hD hS 0 rfl inC tyC nmC rfl (k := 0) (by decide) w_55 rfl rfl rfl rfl (Nat.le_of_ble_eq_true rfl) d_C_init_9 (fun H locs hP hD hS => ?_)
  have hP : va_P D gCl [(h_c, .inr (2, [.ref h_w, .null, .null, .null, .null, .int (nI 0)])), (h_w, .inl (cI, 8, .inl (fun _ => 0)))] H := hP
  have hD : va_D A [(h_c, .inr (2, [.ref h_w, .null, .null, .null, .null, .int (nI 0)])), (h_w, .inl (cI, 8, .inl (fun _ => 0)))] := hD
  refine lv_iconst (v := (nI 0)) hx hb d_C_init_12 (by decide) ?_
  refine lv_istore_n (lv' := [(1, .int (nI 0)), (0, .ref h_c)]) hx hb d_C_init_13 rfl hl (by decide) rfl (fun ls hl => ?_)
  obtain ⟨n_14, hw⟩ := hw
  have k_14 : ∀ (n_14 : Nat) (vw : Nat → Int32) (x1 : Int32), gL2 (wpF_C_init_14 post) n_14 vw x1 → ∀ (H : Heap) (locs : List Loc) (ls : Array Slot), va_P D gCl [(h_c, .inr (2, [.ref h_w, .null, .null, .null, .null, .int (nI 0)])), (h_w, .inl (cI, 8, .inl vw))] H → va_D A [(h_c, .inr (2, [.ref h_w, .null, .null, .null, .null, .int (nI 0)])), (h_w, .inl (cI, 8, .inl vw))] → va_S A s.heap H locs → lv_has ls 2 [(1, .int x1), (0, .ref h_c)] → W p l e rm_C_init s m args below meth c H locs (0 + 1) (0 + 8) Q (F0 m 14 ls []) := by
    clear hw hP hD hS hl
    intro n_14
    induction n_14 with
    | zero => exact fun _ _ h => h.elim
    | succ n_14 ih_14 =>
      intro vw x1 hw H locs ls hP hD hS hl
      have hw : wpF_C_init_14 post (gL2 (wpF_C_init_14 post) n_14) vw x1 := hw
      rw [wpF_C_init_14] at hw
      refine lv_iload_n hx hb d_C_init_14 rfl (lv_at hl 0 rfl) ?_
      refine lv_bipush (v := (nI 8)) hx hb d_C_init_15 (by decide) ?_
      refine lv_icmp_ge (tgt := 33) hx hb d_C_init_17 (by decide) (fun c17 => ?_) (fun c17 => ?_)
      · have hw := hw.1 c17
        refine lv_aload_n hx hb d_C_init_33 rfl (lv_at hl 1 rfl) ?_
        refine lv_iconst (v := (nI 4)) hx hb d_C_init_34 (by decide) ?_
        refine gNewa (N' := 4) fx w_31 hK hA hP hD hS (by decide) (by decide) (by decide) (by first | exact Nat.le_of_ble_eq_true rfl | (show _ ≤ Nb; omega)) (by first | exact Nat.le_of_ble_eq_true rfl | (show _ ≤ Nb; omega)) d_C_init_35 (fun h_r H hP hD hS => ?_)
        have hP : va_P D gCl [(h_c, .inr (2, [.ref h_w, .null, .null, .null, .null, .int (nI 0)])), (h_w, .inl (cI, 8, .inl vw)), (h_r, .inl (cI, 4, .inl (fun _ => 0)))] H := hP
        have hD : va_D A [(h_c, .inr (2, [.ref h_w, .null, .null, .null, .null, .int (nI 0)])), (h_w, .inl (cI, 8, .inl vw)), (h_r, .inl (cI, 4, .inl (fun _ => 0)))] := hD
        refine gPutF fx hnm hK hP hD hS 0 rfl inC tyC nmC rfl (k := 1) (by decide) w_56 rfl rfl rfl rfl (Nat.le_of_ble_eq_true rfl) d_C_init_37 (fun H locs hP hD hS => ?_)
        have hP : va_P D gCl [(h_c, .inr (2, [.ref h_w, .ref h_r, .null, .null, .null, .int (nI 0)])), (h_w, .inl (cI, 8, .inl vw)), (h_r, .inl (cI, 4, .inl (fun _ => 0)))] H := hP
        have hD : va_D A [(h_c, .inr (2, [.ref h_w, .ref h_r, .null, .null, .null, .int (nI 0)])), (h_w, .inl (cI, 8, .inl vw)), (h_r, .inl (cI, 4, .inl (fun _ => 0)))] := hD
        refine lv_aload_n hx hb d_C_init_40 rfl (lv_at hl 1 rfl) ?_
        refine gNew (ci := 1) (fs := [.null, .int (nI 0), .int (nI 0)]) (N := 3) fx hK hA hP hD hS inT tyT rfl w_15 w_16 w_2 (fun j hj => by rcases (show j = 0 ∨ j = 1 ∨ j = 2 by omega) with rfl | rfl | rfl <;> rfl) (by first | exact Nat.le_of_ble_eq_true rfl | (show _ ≤ Nb; omega)) (by first | exact Nat.le_of_ble_eq_true rfl | (show _ ≤ Nb; omega)) d_C_init_41 (fun h_t H hP hD hS => ?_)
        have hP : va_P D gCl [(h_c, .inr (2, [.ref h_w, .ref h_r, .null, .null, .null, .int (nI 0)])), (h_w, .inl (cI, 8, .inl vw)), (h_r, .inl (cI, 4, .inl (fun _ => 0))), (h_t, .inr (1, [.null, .int (nI 0), .int (nI 0)]))] H := hP
        have hD : va_D A [(h_c, .inr (2, [.ref h_w, .ref h_r, .null, .null, .null, .int (nI 0)])), (h_w, .inl (cI, 8, .inl vw)), (h_r, .inl (cI, 4, .inl (fun _ => 0))), (h_t, .inr (1, [.null, .int (nI 0), .int (nI 0)]))] := hD
        refine lv_dup hx hb d_C_init_44 rfl ?_
        refine lv_sipush (v := (nI 256)) hx hb d_C_init_45 (by decide) ?_
        refine g_cI (wr := [(h_c, .inr (2, [.ref h_w, .ref h_r, .null, .null, .null, .int (nI 0)])), (h_w, .inl (cI, 8, .inl vw)), (h_r, .inl (cI, 4, .inl (fun _ => 0)))]) fx (c_T_init l D cI h_t 256 (by decide)) mf_T_init w_17 ⟨rfl, rfl⟩ ⟨Nat.le_of_ble_eq_true rfl, Nat.le_of_ble_eq_true rfl⟩ hN hK hA hP hD hS [3] [0, 1, 2] rfl rfl rfl rfl (by decide) rfl rfl hl.1 (Nat.le_of_ble_eq_true rfl) d_C_init_48 ⟨(by first | exact Nat.le_of_ble_eq_true rfl | (show _ ≤ Nb; omega)), (by first | exact Nat.le_of_ble_eq_true rfl | (show _ ≤ Nb; omega))⟩ (fun u H locs _ hP hD hS => ?_)
        obtain ⟨h_b, rfl⟩ : ∃ z, z = u := ⟨_, rfl⟩
        have hP : va_P D gCl [(h_c, .inr (2, [.ref h_w, .ref h_r, .null, .null, .null, .int (nI 0)])), (h_w, .inl (cI, 8, .inl vw)), (h_r, .inl (cI, 4, .inl (fun _ => 0))), (h_t, .inr (1, [.ref h_b, .int (nI 0), .int (nI 0)])), (h_b, .inl (cI, 256, .inl (fun _ => 0)))] H := hP
        have hD : va_D A [(h_c, .inr (2, [.ref h_w, .ref h_r, .null, .null, .null, .int (nI 0)])), (h_w, .inl (cI, 8, .inl vw)), (h_r, .inl (cI, 4, .inl (fun _ => 0))), (h_t, .inr (1, [.ref h_b, .int (nI 0), .int (nI 0)])), (h_b, .inl (cI, 256, .inl (fun _ => 0)))] := hD
        refine gPutF fx hnm hK hP hD hS 0 rfl inC tyC nmC rfl (k := 2) (by decide) w_57 rfl rfl rfl rfl (Nat.le_of_ble_eq_true rfl) d_C_init_51 (fun H locs hP hD hS => ?_)
        have hP : va_P D gCl [(h_c, .inr (2, [.ref h_w, .ref h_r, .ref h_t, .null, .null, .int (nI 0)])), (h_w, .inl (cI, 8, .inl vw)), (h_r, .inl (cI, 4, .inl (fun _ => 0))), (h_t, .inr (1, [.ref h_b, .int (nI 0), .int (nI 0)])), (h_b, .inl (cI, 256, .inl (fun _ => 0)))] H := hP
        have hD : va_D A [(h_c, .inr (2, [.ref h_w, .ref h_r, .ref h_t, .null, .null, .int (nI 0)])), (h_w, .inl (cI, 8, .inl vw)), (h_r, .inl (cI, 4, .inl (fun _ => 0))), (h_t, .inr (1, [.ref h_b, .int (nI 0), .int (nI 0)])), (h_b, .inl (cI, 256, .inl (fun _ => 0)))] := hD
        refine lv_aload_n hx hb d_C_init_54 rfl (lv_at hl 1 rfl) ?_
        refine gNew (ci := 1) (fs := [.null, .int (nI 0), .int (nI 0)]) (N := 3) fx hK hA hP hD hS inT tyT rfl w_15 w_16 w_2 (fun j hj => by rcases (show j = 0 ∨ j = 1 ∨ j = 2 by omega) with rfl | rfl | rfl <;> rfl) (by first | exact Nat.le_of_ble_eq_true rfl | (show _ ≤ Nb; omega)) (by first | exact Nat.le_of_ble_eq_true rfl | (show _ ≤ Nb; omega)) d_C_init_55 (fun h_k H hP hD hS => ?_)
        have hP : va_P D gCl [(h_c, .inr (2, [.ref h_w, .ref h_r, .ref h_t, .null, .null, .int (nI 0)])), (h_w, .inl (cI, 8, .inl vw)), (h_r, .inl (cI, 4, .inl (fun _ => 0))), (h_t, .inr (1, [.ref h_b, .int (nI 0), .int (nI 0)])), (h_b, .inl (cI, 256, .inl (fun _ => 0))), (h_k, .inr (1, [.null, .int (nI 0), .int (nI 0)]))] H := hP
        have hD : va_D A [(h_c, .inr (2, [.ref h_w, .ref h_r, .ref h_t, .null, .null, .int (nI 0)])), (h_w, .inl (cI, 8, .inl vw)), (h_r, .inl (cI, 4, .inl (fun _ => 0))), (h_t, .inr (1, [.ref h_b, .int (nI 0), .int (nI 0)])), (h_b, .inl (cI, 256, .inl (fun _ => 0))), (h_k, .inr (1, [.null, .int (nI 0), .int (nI 0)]))] := hD
        refine lv_dup hx hb d_C_init_58 rfl ?_
        refine lv_bipush (v := (nI 12)) hx hb d_C_init_59 (by decide) ?_
        refine g_cI (wr := [(h_c, .inr (2, [.ref h_w, .ref h_r, .ref h_t, .null, .null, .int (nI 0)])), (h_w, .inl (cI, 8, .inl vw)), (h_r, .inl (cI, 4, .inl (fun _ => 0))), (h_t, .inr (1, [.ref h_b, .int (nI 0), .int (nI 0)])), (h_b, .inl (cI, 256, .inl (fun _ => 0)))]) fx (c_T_init l D cI h_k 12 (by decide)) mf_T_init w_17 ⟨rfl, rfl⟩ ⟨Nat.le_of_ble_eq_true rfl, Nat.le_of_ble_eq_true rfl⟩ hN hK hA hP hD hS [5] [0, 1, 2, 3, 4] rfl rfl rfl rfl (by decide) rfl rfl hl.1 (Nat.le_of_ble_eq_true rfl) d_C_init_61 ⟨(by first | exact Nat.le_of_ble_eq_true rfl | (show _ ≤ Nb; omega)), (by first | exact Nat.le_of_ble_eq_true rfl | (show _ ≤ Nb; omega))⟩ (fun u H locs _ hP hD hS => ?_)
        obtain ⟨h_kb, rfl⟩ : ∃ z, z = u := ⟨_, rfl⟩
        have hP : va_P D gCl [(h_c, .inr (2, [.ref h_w, .ref h_r, .ref h_t, .null, .null, .int (nI 0)])), (h_w, .inl (cI, 8, .inl vw)), (h_r, .inl (cI, 4, .inl (fun _ => 0))), (h_t, .inr (1, [.ref h_b, .int (nI 0), .int (nI 0)])), (h_b, .inl (cI, 256, .inl (fun _ => 0))), (h_k, .inr (1, [.ref h_kb, .int (nI 0), .int (nI 0)])), (h_kb, .inl (cI, 12, .inl (fun _ => 0)))] H := hP
        have hD : va_D A [(h_c, .inr (2, [.ref h_w, .ref h_r, .ref h_t, .null, .null, .int (nI 0)])), (h_w, .inl (cI, 8, .inl vw)), (h_r, .inl (cI, 4, .inl (fun _ => 0))), (h_t, .inr (1, [.ref h_b, .int (nI 0), .int (nI 0)])), (h_b, .inl (cI, 256, .inl (fun _ => 0))), (h_k, .inr (1, [.ref h_kb, .int (nI 0), .int (nI 0)])), (h_kb, .inl (cI, 12, .inl (fun _ => 0)))] := hD
        refine gPutF fx hnm hK hP hD hS 0 rfl inC tyC nmC rfl (k := 3) (by decide) w_58 rfl rfl rfl rfl (Nat.le_of_ble_eq_true rfl) d_C_init_64 (fun H locs hP hD hS => ?_)
        have hP : va_P D gCl [(h_c, .inr (2, [.ref h_w, .ref h_r, .ref h_t, .ref h_k, .null, .int (nI 0)])), (h_w, .inl (cI, 8, .inl vw)), (h_r, .inl (cI, 4, .inl (fun _ => 0))), (h_t, .inr (1, [.ref h_b, .int (nI 0), .int (nI 0)])), (h_b, .inl (cI, 256, .inl (fun _ => 0))), (h_k, .inr (1, [.ref h_kb, .int (nI 0), .int (nI 0)])), (h_kb, .inl (cI, 12, .inl (fun _ => 0)))] H := hP
        have hD : va_D A [(h_c, .inr (2, [.ref h_w, .ref h_r, .ref h_t, .ref h_k, .null, .int (nI 0)])), (h_w, .inl (cI, 8, .inl vw)), (h_r, .inl (cI, 4, .inl (fun _ => 0))), (h_t, .inr (1, [.ref h_b, .int (nI 0), .int (nI 0)])), (h_b, .inl (cI, 256, .inl (fun _ => 0))), (h_k, .inr (1, [.ref h_kb, .int (nI 0), .int (nI 0)])), (h_kb, .inl (cI, 12, .inl (fun _ => 0)))] := hD
        refine lv_aload_n hx hb d_C_init_67 rfl (lv_at hl 1 rfl) ?_
        refine gNew (ci := 0) (fs := [.int (nI 0), .int (nI 0), .int (nI 0), .int (nI 0)]) (N := 4) fx hK hA hP hD hS inY tyY rfl w_32 w_33 w_3 (fun j hj => by rcases (show j = 0 ∨ j = 1 ∨ j = 2 ∨ j = 3 by omega) with rfl | rfl | rfl | rfl <;> rfl) (by first | exact Nat.le_of_ble_eq_true rfl | (show _ ≤ Nb; omega)) (by first | exact Nat.le_of_ble_eq_true rfl | (show _ ≤ Nb; omega)) d_C_init_68 (fun h_y H hP hD hS => ?_)
        have hP : va_P D gCl [(h_c, .inr (2, [.ref h_w, .ref h_r, .ref h_t, .ref h_k, .null, .int (nI 0)])), (h_w, .inl (cI, 8, .inl vw)), (h_r, .inl (cI, 4, .inl (fun _ => 0))), (h_t, .inr (1, [.ref h_b, .int (nI 0), .int (nI 0)])), (h_b, .inl (cI, 256, .inl (fun _ => 0))), (h_k, .inr (1, [.ref h_kb, .int (nI 0), .int (nI 0)])), (h_kb, .inl (cI, 12, .inl (fun _ => 0))), (h_y, .inr (0, [.int (nI 0), .int (nI 0), .int (nI 0), .int (nI 0)]))] H := hP
        have hD : va_D A [(h_c, .inr (2, [.ref h_w, .ref h_r, .ref h_t, .ref h_k, .null, .int (nI 0)])), (h_w, .inl (cI, 8, .inl vw)), (h_r, .inl (cI, 4, .inl (fun _ => 0))), (h_t, .inr (1, [.ref h_b, .int (nI 0), .int (nI 0)])), (h_b, .inl (cI, 256, .inl (fun _ => 0))), (h_k, .inr (1, [.ref h_kb, .int (nI 0), .int (nI 0)])), (h_kb, .inl (cI, 12, .inl (fun _ => 0))), (h_y, .inr (0, [.int (nI 0), .int (nI 0), .int (nI 0), .int (nI 0)]))] := hD
        refine lv_dup hx hb d_C_init_71 rfl ?_
        refine g_cIN (wr := [(h_c, .inr (2, [.ref h_w, .ref h_r, .ref h_t, .ref h_k, .null, .int (nI 0)])), (h_w, .inl (cI, 8, .inl vw)), (h_r, .inl (cI, 4, .inl (fun _ => 0))), (h_t, .inr (1, [.ref h_b, .int (nI 0), .int (nI 0)])), (h_b, .inl (cI, 256, .inl (fun _ => 0))), (h_k, .inr (1, [.ref h_kb, .int (nI 0), .int (nI 0)])), (h_kb, .inl (cI, 12, .inl (fun _ => 0)))]) fx (c_Y_init l D cI h_y) mf_Y_init gN_0 ⟨rfl, rfl⟩ ⟨Nat.le_of_ble_eq_true rfl, Nat.le_of_ble_eq_true rfl⟩ hN hK hA hP hD hS [7] [0, 1, 2, 3, 4, 5, 6] rfl rfl rfl rfl (by decide) rfl rfl hl.1 (Nat.le_of_ble_eq_true rfl) d_C_init_72 ⟨(by first | exact Nat.le_of_ble_eq_true rfl | (show _ ≤ Nb; omega)), (by first | exact Nat.le_of_ble_eq_true rfl | (show _ ≤ Nb; omega))⟩ (fun u H locs _ hP hD hS => ?_)
        have hP : va_P D gCl [(h_c, .inr (2, [.ref h_w, .ref h_r, .ref h_t, .ref h_k, .null, .int (nI 0)])), (h_w, .inl (cI, 8, .inl vw)), (h_r, .inl (cI, 4, .inl (fun _ => 0))), (h_t, .inr (1, [.ref h_b, .int (nI 0), .int (nI 0)])), (h_b, .inl (cI, 256, .inl (fun _ => 0))), (h_k, .inr (1, [.ref h_kb, .int (nI 0), .int (nI 0)])), (h_kb, .inl (cI, 12, .inl (fun _ => 0))), (h_y, .inr (0, [.int (nI 0), .int (nI 0), .int (nI 0), .int (nI 0)]))] H := hP
        have hD : va_D A [(h_c, .inr (2, [.ref h_w, .ref h_r, .ref h_t, .ref h_k, .null, .int (nI 0)])), (h_w, .inl (cI, 8, .inl vw)), (h_r, .inl (cI, 4, .inl (fun _ => 0))), (h_t, .inr (1, [.ref h_b, .int (nI 0), .int (nI 0)])), (h_b, .inl (cI, 256, .inl (fun _ => 0))), (h_k, .inr (1, [.ref h_kb, .int (nI 0), .int (nI 0)])), (h_kb, .inl (cI, 12, .inl (fun _ => 0))), (h_y, .inr (0, [.int (nI 0), .int (nI 0), .int (nI 0), .int (nI 0)]))] := hD
        refine gPutF fx hnm hK hP hD hS 0 rfl inC tyC nmC rfl (k := 4) (by decide) w_59 rfl rfl rfl rfl (Nat.le_of_ble_eq_true rfl) d_C_init_75 (fun H locs hP hD hS => ?_)
        have hP : va_P D gCl [(h_c, .inr (2, [.ref h_w, .ref h_r, .ref h_t, .ref h_k, .ref h_y, .int (nI 0)])), (h_w, .inl (cI, 8, .inl vw)), (h_r, .inl (cI, 4, .inl (fun _ => 0))), (h_t, .inr (1, [.ref h_b, .int (nI 0), .int (nI 0)])), (h_b, .inl (cI, 256, .inl (fun _ => 0))), (h_k, .inr (1, [.ref h_kb, .int (nI 0), .int (nI 0)])), (h_kb, .inl (cI, 12, .inl (fun _ => 0))), (h_y, .inr (0, [.int (nI 0), .int (nI 0), .int (nI 0), .int (nI 0)]))] H := hP
        have hD : va_D A [(h_c, .inr (2, [.ref h_w, .ref h_r, .ref h_t, .ref h_k, .ref h_y, .int (nI 0)])), (h_w, .inl (cI, 8, .inl vw)), (h_r, .inl (cI, 4, .inl (fun _ => 0))), (h_t, .inr (1, [.ref h_b, .int (nI 0), .int (nI 0)])), (h_b, .inl (cI, 256, .inl (fun _ => 0))), (h_k, .inr (1, [.ref h_kb, .int (nI 0), .int (nI 0)])), (h_kb, .inl (cI, 12, .inl (fun _ => 0))), (h_y, .inr (0, [.int (nI 0), .int (nI 0), .int (nI 0), .int (nI 0)]))] := hD
        refine lv_aload_n hx hb d_C_init_78 rfl (lv_at hl 1 rfl) ?_
        refine lv_iconst (v := (nI 0)) hx hb d_C_init_79 (by decide) ?_
        refine gPut fx hK hP hD hS 0 rfl inC tyC nmC rfl (k := 5) (by decide) w_60 rfl rfl rfl (Nat.le_of_ble_eq_true rfl) d_C_init_80 (fun H locs hP hD hS => ?_)
        have hP : va_P D gCl [(h_c, .inr (2, [.ref h_w, .ref h_r, .ref h_t, .ref h_k, .ref h_y, .int (nI 0)])), (h_w, .inl (cI, 8, .inl vw)), (h_r, .inl (cI, 4, .inl (fun _ => 0))), (h_t, .inr (1, [.ref h_b, .int (nI 0), .int (nI 0)])), (h_b, .inl (cI, 256, .inl (fun _ => 0))), (h_k, .inr (1, [.ref h_kb, .int (nI 0), .int (nI 0)])), (h_kb, .inl (cI, 12, .inl (fun _ => 0))), (h_y, .inr (0, [.int (nI 0), .int (nI 0), .int (nI 0), .int (nI 0)]))] H := hP
        have hD : va_D A [(h_c, .inr (2, [.ref h_w, .ref h_r, .ref h_t, .ref h_k, .ref h_y, .int (nI 0)])), (h_w, .inl (cI, 8, .inl vw)), (h_r, .inl (cI, 4, .inl (fun _ => 0))), (h_t, .inr (1, [.ref h_b, .int (nI 0), .int (nI 0)])), (h_b, .inl (cI, 256, .inl (fun _ => 0))), (h_k, .inr (1, [.ref h_kb, .int (nI 0), .int (nI 0)])), (h_kb, .inl (cI, 12, .inl (fun _ => 0))), (h_y, .inr (0, [.int (nI 0), .int (nI 0), .int (nI 0), .int (nI 0)]))] := hD
        refine W.widen (k := 7) (n := 290) (by first | exact Nat.le_of_ble_eq_true rfl | (show _ ≤ Nb; omega)) (by first | exact Nat.le_of_ble_eq_true rfl | (show _ ≤ Nb; omega)) ?_
        exact hret _ _ (h_w, h_r, h_t, h_b, h_k, h_kb, h_y, vw) _ _ hw hP hD hS d_C_init_83
      · have hw := hw.2 c17
        refine lv_aload_n hx hb d_C_init_20 rfl (lv_at hl 1 rfl) ?_
        refine gGet fx hK hP 0 rfl inC rfl (k := 0) (by decide) w_55 rfl d_C_init_21 ?_
        refine lv_iload_n hx hb d_C_init_24 rfl (lv_at hl 0 rfl) ?_
        refine lv_iconst (v := (nI 1)) hx hb d_C_init_25 (by decide) ?_
        refine va_iast hx hb hK hP hD hS 1 0 rfl rfl hw.1 d_C_init_26 (fun H locs hP hD hS => ?_)
        have hw := hw.2
        have hP : va_P D gCl [(h_c, .inr (2, [.ref h_w, .null, .null, .null, .null, .int (nI 0)])), (h_w, .inl (cI, 8, .inl (upd vw (x1).toNatClampNeg (nI 1))))] H := hP
        have hD : va_D A [(h_c, .inr (2, [.ref h_w, .null, .null, .null, .null, .int (nI 0)])), (h_w, .inl (cI, 8, .inl (upd vw (x1).toNatClampNeg (nI 1))))] := hD
        refine lv_iinc (v := (x1 + (nI 1))) (lv' := [(1, .int (x1 + (nI 1))), (0, .ref h_c)]) hx hb d_C_init_27 hl (k := 0) rfl rfl (by decide) rfl (fun ls hl => ?_)
        refine lv_goto (tgt := 14) hx hb d_C_init_30 (by decide) ?_
        exact ih_14 _ _ hw _ _ _ hP hD hS (lv_sub hl [0, 1] rfl)
  exact k_14 n_14 _ _ hw _ _ _ hP hD hS (lv_sub hl [0, 1] rfl)
def wpF_M_init_39 (post : (Nat → Int32) → Prop) (K_39 : (Nat → Int32) → Int32 → Prop) (vw : Nat → Int32) (x1 : Int32) : Prop :=
  (((nI 8) ≤ x1 → post vw) ∧ (¬ (nI 8) ≤ x1 → (vp_in x1 8 ∧ K_39 (upd vw (x1).toNatClampNeg (nI 1)) (x1 + (nI 1)))))
def wp_M_init (post : (Nat → Int32) → Prop) : Prop :=
  (∃ n, gL2 (wpF_M_init_39 post) n (fun _ => 0) (nI 0))
abbrev rm_M_init : Room := { frames := 1, cells := 4, slots := 524, locals := 20 }
theorem mf_M_init : gFI y_M_init b_M_init 2 0 := ⟨w_222, w_4, ⟨by decide, by decide, by decide +kernel⟩, w_221, rfl⟩
set_option maxHeartbeats 4000000 in
set_option maxRecDepth 100000 in
theorem c_M_init (l : Launch) (D : va_G) (cI : ClassId) (h_o : Nat) (post : (Nat → Int32) → Prop) (hw : wp_M_init post) :
    gMc l D [(cI, .int)] y_M_init b_M_init 2 rm_M_init [.ref h_o] [(h_o, .inr (3, [.null, .null, .int (nI 0), .int (nI 0), .null, .int (nI 0), .int (nI 0), .int (nI 0), .null, .int (nI 0), .int (nI 0), .int (nI 0)]))] (S := Nat × Nat × Nat × Nat × (Nat → Int32)) (fun u => [(h_o, .inr (3, [.ref u.1, .ref u.2.1, .int (nI 0), .int (nI 0), .ref u.2.2.1, .int (nI 0), .int (nI 0), .int (nI 0), .ref u.2.2.2.1, .int (nI 0), .int (nI 0), .int (nI 0)])), (u.1, .inl (cI, 8, .inl u.2.2.2.2)), (u.2.1, .inl (cI, 256, .inl (fun _ => 0))), (u.2.2.1, .inl (cI, 256, .inl (fun _ => 0))), (u.2.2.2.1, .inl (cI, 4, .inl (fun _ => 0)))]) (fun u => post u.2.2.2.2) 4 524 := by
  rw [wp_M_init] at hw
  refine gMc.of (by decide) (Nat.le_of_ble_eq_true rfl) (fun p e s m args below meth c A Q ls hx hb hml hown hts hN hK hA hP hD hnm hret hl => ?_)
  have hnm : meth.name = "<init>" := hnm
  have fx : CallFix p m c b_M_init 2 s args gG "TapeCounterModel" := ⟨hx, hb, hml, hown, hts⟩
  have hl : lv_has ls 2 [(0, .ref h_o)] := hl
  have hS : va_S A s.heap s.heap [] := va_S.rf
  refine lv_aload_n hx hb d_M_init_0 rfl (lv_at hl 0 rfl) ?_
  refine gObj fx hl.1 w_223 w_13 w_14 (Nat.le_of_ble_eq_true rfl) (Nat.le_of_ble_eq_true rfl) d_M_init_1 ?_
  refine lv_aload_n hx hb d_M_init_4 rfl (lv_at hl 0 rfl) ?_
  refine lv_bipush (v := (nI 8)) hx hb d_M_init_5 (by decide) ?_
  refine gNewa (N' := 8) fx w_31 hK hA hP hD hS (by decide) (by decide) (by decide) (by first | exact Nat.le_of_ble_eq_true rfl | (show _ ≤ Nb; omega)) (by first | exact Nat.le_of_ble_eq_true rfl | (show _ ≤ Nb; omega)) d_M_init_7 (fun h_w H hP hD hS => ?_)
  have hP : va_P D gCl [(h_o, .inr (3, [.null, .null, .int (nI 0), .int (nI 0), .null, .int (nI 0), .int (nI 0), .int (nI 0), .null, .int (nI 0), .int (nI 0), .int (nI 0)])), (h_w, .inl (cI, 8, .inl (fun _ => 0)))] H := hP
  have hD : va_D A [(h_o, .inr (3, [.null, .null, .int (nI 0), .int (nI 0), .null, .int (nI 0), .int (nI 0), .int (nI 0), .null, .int (nI 0), .int (nI 0), .int (nI 0)])), (h_w, .inl (cI, 8, .inl (fun _ => 0)))] := hD
  refine gPutF fx hnm hK hP hD hS 0 rfl inM tyM nmM rfl (k := 0) (by decide) w_224 rfl rfl rfl rfl (Nat.le_of_ble_eq_true rfl) d_M_init_9 (fun H locs hP hD hS => ?_)
  have hP : va_P D gCl [(h_o, .inr (3, [.ref h_w, .null, .int (nI 0), .int (nI 0), .null, .int (nI 0), .int (nI 0), .int (nI 0), .null, .int (nI 0), .int (nI 0), .int (nI 0)])), (h_w, .inl (cI, 8, .inl (fun _ => 0)))] H := hP
  have hD : va_D A [(h_o, .inr (3, [.ref h_w, .null, .int (nI 0), .int (nI 0), .null, .int (nI 0), .int (nI 0), .int (nI 0), .null, .int (nI 0), .int (nI 0), .int (nI 0)])), (h_w, .inl (cI, 8, .inl (fun _ => 0)))] := hD
  refine lv_aload_n hx hb d_M_init_12 rfl (lv_at hl 0 rfl) ?_
  refine lv_sipush (v := (nI 256)) hx hb d_M_init_13 (by decide) ?_
  refine gNewa (N' := 256) fx w_31 hK hA hP hD hS (by decide) (by decide) (by decide) (by first | exact Nat.le_of_ble_eq_true rfl | (show _ ≤ Nb; omega)) (by first | exact Nat.le_of_ble_eq_true rfl | (show _ ≤ Nb; omega)) d_M_init_16 (fun h_q H hP hD hS => ?_)
  have hP : va_P D gCl [(h_o, .inr (3, [.ref h_w, .null, .int (nI 0), .int (nI 0), .null, .int (nI 0), .int (nI 0), .int (nI 0), .null, .int (nI 0), .int (nI 0), .int (nI 0)])), (h_w, .inl (cI, 8, .inl (fun _ => 0))), (h_q, .inl (cI, 256, .inl (fun _ => 0)))] H := hP
  have hD : va_D A [(h_o, .inr (3, [.ref h_w, .null, .int (nI 0), .int (nI 0), .null, .int (nI 0), .int (nI 0), .int (nI 0), .null, .int (nI 0), .int (nI 0), .int (nI 0)])), (h_w, .inl (cI, 8, .inl (fun _ => 0))), (h_q, .inl (cI, 256, .inl (fun _ => 0)))] := hD
  refine gPutF fx hnm hK hP hD hS 0 rfl inM tyM nmM rfl (k := 1) (by decide) w_225 rfl rfl rfl rfl (Nat.le_of_ble_eq_true rfl) d_M_init_18 (fun H locs hP hD hS => ?_)
  have hP : va_P D gCl [(h_o, .inr (3, [.ref h_w, .ref h_q, .int (nI 0), .int (nI 0), .null, .int (nI 0), .int (nI 0), .int (nI 0), .null, .int (nI 0), .int (nI 0), .int (nI 0)])), (h_w, .inl (cI, 8, .inl (fun _ => 0))), (h_q, .inl (cI, 256, .inl (fun _ => 0)))] H := hP
  have hD : va_D A [(h_o, .inr (3, [.ref h_w, .ref h_q, .int (nI 0), .int (nI 0), .null, .int (nI 0), .int (nI 0), .int (nI 0), .null, .int (nI 0), .int (nI 0), .int (nI 0)])), (h_w, .inl (cI, 8, .inl (fun _ => 0))), (h_q, .inl (cI, 256, .inl (fun _ => 0)))] := hD
  refine lv_aload_n hx hb d_M_init_21 rfl (lv_at hl 0 rfl) ?_
  refine lv_sipush (v := (nI 256)) hx hb d_M_init_22 (by decide) ?_
  refine gNewa (N' := 256) fx w_31 hK hA hP hD hS (by decide) (by decide) (by decide) (by first | exact Nat.le_of_ble_eq_true rfl | (show _ ≤ Nb; omega)) (by first | exact Nat.le_of_ble_eq_true rfl | (show _ ≤ Nb; omega)) d_M_init_25 (fun h_b H hP hD hS => ?_)
  have hP : va_P D gCl [(h_o, .inr (3, [.ref h_w, .ref h_q, .int (nI 0), .int (nI 0), .null, .int (nI 0), .int (nI 0), .int (nI 0), .null, .int (nI 0), .int (nI 0), .int (nI 0)])), (h_w, .inl (cI, 8, .inl (fun _ => 0))), (h_q, .inl (cI, 256, .inl (fun _ => 0))), (h_b, .inl (cI, 256, .inl (fun _ => 0)))] H := hP
  have hD : va_D A [(h_o, .inr (3, [.ref h_w, .ref h_q, .int (nI 0), .int (nI 0), .null, .int (nI 0), .int (nI 0), .int (nI 0), .null, .int (nI 0), .int (nI 0), .int (nI 0)])), (h_w, .inl (cI, 8, .inl (fun _ => 0))), (h_q, .inl (cI, 256, .inl (fun _ => 0))), (h_b, .inl (cI, 256, .inl (fun _ => 0)))] := hD
  refine gPutF fx hnm hK hP hD hS 0 rfl inM tyM nmM rfl (k := 4) (by decide) w_228 rfl rfl rfl rfl (Nat.le_of_ble_eq_true rfl) d_M_init_27 (fun H locs hP hD hS => ?_)
  have hP : va_P D gCl [(h_o, .inr (3, [.ref h_w, .ref h_q, .int (nI 0), .int (nI 0), .ref h_b, .int (nI 0), .int (nI 0), .int (nI 0), .null, .int (nI 0), .int (nI 0), .int (nI 0)])), (h_w, .inl (cI, 8, .inl (fun _ => 0))), (h_q, .inl (cI, 256, .inl (fun _ => 0))), (h_b, .inl (cI, 256, .inl (fun _ => 0)))] H := hP
  have hD : va_D A [(h_o, .inr (3, [.ref h_w, .ref h_q, .int (nI 0), .int (nI 0), .ref h_b, .int (nI 0), .int (nI 0), .int (nI 0), .null, .int (nI 0), .int (nI 0), .int (nI 0)])), (h_w, .inl (cI, 8, .inl (fun _ => 0))), (h_q, .inl (cI, 256, .inl (fun _ => 0))), (h_b, .inl (cI, 256, .inl (fun _ => 0)))] := hD
  refine lv_aload_n hx hb d_M_init_30 rfl (lv_at hl 0 rfl) ?_
  refine lv_iconst (v := (nI 4)) hx hb d_M_init_31 (by decide) ?_
  refine gNewa (N' := 4) fx w_31 hK hA hP hD hS (by decide) (by decide) (by decide) (by first | exact Nat.le_of_ble_eq_true rfl | (show _ ≤ Nb; omega)) (by first | exact Nat.le_of_ble_eq_true rfl | (show _ ≤ Nb; omega)) d_M_init_32 (fun h_r H hP hD hS => ?_)
  have hP : va_P D gCl [(h_o, .inr (3, [.ref h_w, .ref h_q, .int (nI 0), .int (nI 0), .ref h_b, .int (nI 0), .int (nI 0), .int (nI 0), .null, .int (nI 0), .int (nI 0), .int (nI 0)])), (h_w, .inl (cI, 8, .inl (fun _ => 0))), (h_q, .inl (cI, 256, .inl (fun _ => 0))), (h_b, .inl (cI, 256, .inl (fun _ => 0))), (h_r, .inl (cI, 4, .inl (fun _ => 0)))] H := hP
  have hD : va_D A [(h_o, .inr (3, [.ref h_w, .ref h_q, .int (nI 0), .int (nI 0), .ref h_b, .int (nI 0), .int (nI 0), .int (nI 0), .null, .int (nI 0), .int (nI 0), .int (nI 0)])), (h_w, .inl (cI, 8, .inl (fun _ => 0))), (h_q, .inl (cI, 256, .inl (fun _ => 0))), (h_b, .inl (cI, 256, .inl (fun _ => 0))), (h_r, .inl (cI, 4, .inl (fun _ => 0)))] := hD
  refine gPutF fx hnm hK hP hD hS 0 rfl inM tyM nmM rfl (k := 8) (by decide) w_232 rfl rfl rfl rfl (Nat.le_of_ble_eq_true rfl) d_M_init_34 (fun H locs hP hD hS => ?_)
  have hP : va_P D gCl [(h_o, .inr (3, [.ref h_w, .ref h_q, .int (nI 0), .int (nI 0), .ref h_b, .int (nI 0), .int (nI 0), .int (nI 0), .ref h_r, .int (nI 0), .int (nI 0), .int (nI 0)])), (h_w, .inl (cI, 8, .inl (fun _ => 0))), (h_q, .inl (cI, 256, .inl (fun _ => 0))), (h_b, .inl (cI, 256, .inl (fun _ => 0))), (h_r, .inl (cI, 4, .inl (fun _ => 0)))] H := hP
  have hD : va_D A [(h_o, .inr (3, [.ref h_w, .ref h_q, .int (nI 0), .int (nI 0), .ref h_b, .int (nI 0), .int (nI 0), .int (nI 0), .ref h_r, .int (nI 0), .int (nI 0), .int (nI 0)])), (h_w, .inl (cI, 8, .inl (fun _ => 0))), (h_q, .inl (cI, 256, .inl (fun _ => 0))), (h_b, .inl (cI, 256, .inl (fun _ => 0))), (h_r, .inl (cI, 4, .inl (fun _ => 0)))] := hD
  refine lv_iconst (v := (nI 0)) hx hb d_M_init_37 (by decide) ?_
  refine lv_istore_n (lv' := [(1, .int (nI 0)), (0, .ref h_o)]) hx hb d_M_init_38 rfl hl (by decide) rfl (fun ls hl => ?_)
  obtain ⟨n_39, hw⟩ := hw
  have k_39 : ∀ (n_39 : Nat) (vw : Nat → Int32) (x1 : Int32), gL2 (wpF_M_init_39 post) n_39 vw x1 → ∀ (H : Heap) (locs : List Loc) (ls : Array Slot), va_P D gCl [(h_o, .inr (3, [.ref h_w, .ref h_q, .int (nI 0), .int (nI 0), .ref h_b, .int (nI 0), .int (nI 0), .int (nI 0), .ref h_r, .int (nI 0), .int (nI 0), .int (nI 0)])), (h_w, .inl (cI, 8, .inl vw)), (h_q, .inl (cI, 256, .inl (fun _ => 0))), (h_b, .inl (cI, 256, .inl (fun _ => 0))), (h_r, .inl (cI, 4, .inl (fun _ => 0)))] H → va_D A [(h_o, .inr (3, [.ref h_w, .ref h_q, .int (nI 0), .int (nI 0), .ref h_b, .int (nI 0), .int (nI 0), .int (nI 0), .ref h_r, .int (nI 0), .int (nI 0), .int (nI 0)])), (h_w, .inl (cI, 8, .inl vw)), (h_q, .inl (cI, 256, .inl (fun _ => 0))), (h_b, .inl (cI, 256, .inl (fun _ => 0))), (h_r, .inl (cI, 4, .inl (fun _ => 0)))] → va_S A s.heap H locs → lv_has ls 2 [(1, .int x1), (0, .ref h_o)] → W p l e rm_M_init s m args below meth c H locs ((((0 + 1) + 1) + 1) + 1) ((((0 + 8) + 256) + 256) + 4) Q (F0 m 39 ls []) := by
    clear hw hP hD hS hl
    intro n_39
    induction n_39 with
    | zero => exact fun _ _ h => h.elim
    | succ n_39 ih_39 =>
      intro vw x1 hw H locs ls hP hD hS hl
      have hw : wpF_M_init_39 post (gL2 (wpF_M_init_39 post) n_39) vw x1 := hw
      rw [wpF_M_init_39] at hw
      refine lv_iload_n hx hb d_M_init_39 rfl (lv_at hl 0 rfl) ?_
      refine lv_bipush (v := (nI 8)) hx hb d_M_init_40 (by decide) ?_
      refine lv_icmp_ge (tgt := 58) hx hb d_M_init_42 (by decide) (fun c42 => ?_) (fun c42 => ?_)
      · have hw := hw.1 c42
        refine W.widen (k := 4) (n := 524) (by first | exact Nat.le_of_ble_eq_true rfl | (show _ ≤ Nb; omega)) (by first | exact Nat.le_of_ble_eq_true rfl | (show _ ≤ Nb; omega)) ?_
        exact hret _ _ (h_w, h_q, h_b, h_r, vw) _ _ hw hP hD hS d_M_init_58
      · have hw := hw.2 c42
        refine lv_aload_n hx hb d_M_init_45 rfl (lv_at hl 1 rfl) ?_
        refine gGet fx hK hP 0 rfl inM rfl (k := 0) (by decide) w_224 rfl d_M_init_46 ?_
        refine lv_iload_n hx hb d_M_init_49 rfl (lv_at hl 0 rfl) ?_
        refine lv_iconst (v := (nI 1)) hx hb d_M_init_50 (by decide) ?_
        refine va_iast hx hb hK hP hD hS 1 0 rfl rfl hw.1 d_M_init_51 (fun H locs hP hD hS => ?_)
        have hw := hw.2
        have hP : va_P D gCl [(h_o, .inr (3, [.ref h_w, .ref h_q, .int (nI 0), .int (nI 0), .ref h_b, .int (nI 0), .int (nI 0), .int (nI 0), .ref h_r, .int (nI 0), .int (nI 0), .int (nI 0)])), (h_w, .inl (cI, 8, .inl (upd vw (x1).toNatClampNeg (nI 1)))), (h_q, .inl (cI, 256, .inl (fun _ => 0))), (h_b, .inl (cI, 256, .inl (fun _ => 0))), (h_r, .inl (cI, 4, .inl (fun _ => 0)))] H := hP
        have hD : va_D A [(h_o, .inr (3, [.ref h_w, .ref h_q, .int (nI 0), .int (nI 0), .ref h_b, .int (nI 0), .int (nI 0), .int (nI 0), .ref h_r, .int (nI 0), .int (nI 0), .int (nI 0)])), (h_w, .inl (cI, 8, .inl (upd vw (x1).toNatClampNeg (nI 1)))), (h_q, .inl (cI, 256, .inl (fun _ => 0))), (h_b, .inl (cI, 256, .inl (fun _ => 0))), (h_r, .inl (cI, 4, .inl (fun _ => 0)))] := hD
        refine lv_iinc (v := (x1 + (nI 1))) (lv' := [(1, .int (x1 + (nI 1))), (0, .ref h_o)]) hx hb d_M_init_52 hl (k := 0) rfl rfl (by decide) rfl (fun ls hl => ?_)
        refine lv_goto (tgt := 39) hx hb d_M_init_55 (by decide) ?_
        exact ih_39 _ _ hw _ _ _ hP hD hS (lv_sub hl [0, 1] rfl)
  exact k_39 n_39 _ _ hw _ _ _ hP hD hS (lv_sub hl [0, 1] rfl)
end
section
/-! THE CLAIM OUT OF ONE WALK OF THE LAW'S BODY. Your part is whole_start (and what it stands on); all else here is the same for every law, but numbers. -/
def R_law : String := "TapeCounterLaw"
def lw_P (b : Addr) (xs : List Int32) (args : Array Value) (s : State) : Prop := args = #[.ref b] ∧ s.IntsAt b xs ∧ xs.length ≤ 3072 ∧ (Jvm.Cond.and given_1 narrow_1).before args s = true
def lw_Q (_ : Array Value) (s : State) (o : Outcome) (t : State) : Prop := o = .returned (some (.int 1)) ∧ Framed s o t [] 600000 7302250
def lw_Z (below : List Frame) (a : Array Value) (s : State) : State → Prop := fun t => ∃ o, t.status = .running ∧ Ended t below o ∧ lw_Q a s o t
/-- the law's own end, with 1 on the stack, nothing written that was there before, its room as the claim has it -/
theorem lw_ret {p : Program} {l : Launch} {e : Env} {s : State} {m : MethodId} {below : List Frame} {meth : Method} {c : Code} {b : Nat} (hx : p.tables.exec = Jvm.exec) (hb : c.code = code) (hr : meth.sig.returnType = ret) (hlocks : meth.locks = false) {pc : Nat} {H : Heap} {ls : Array Slot} (hdg : decode code pc = .ok (.ireturn, 1)) : W p l e room_1 s m #[Value.ref b] below meth c H [] 600000 7302250 (lw_Z below #[Value.ref b] s) (F0 m pc ls [.int 1]) := by
  intro T hT X
  obtain ⟨fs, hret, hrun, hended, hW, hframe⟩ := X.leave (v := some (.int 1)) (hlocks := hlocks) (fun h => by rw [hr] at h; cases h)
  have hmeth' : T.vm.method? m = some meth := X.method'
  refine ⟨T.setFrames fs, ?_, .returned (some (.int 1)), hrun, hended, rfl, ⟨_, rfl⟩, hW, hframe⟩
  jvm_step X.here [X.here.top, hx, hb, hdg, hmeth', hr, ret, narrow_b1]
  (try refine ⟨rfl, ?_⟩); (try refine ⟨rfl, ?_⟩)
  first | (intro acts; rw [hret _ acts rfl rfl rfl]) | rw [hret _ _ rfl rfl rfl]
  exact Steps.refl _
/-- what holds at the law's entry: the machine, the code, the tables' words (any of lw_tbl by 'hts w (by decide +kernel)'), the script of L ints xs at the cell b, what the Statement gives of the start (any of its parts by flat_of_before) -/
def lw_At (p : Program) (s : State) (m : MethodId) (meth : Method) (c : Code) (b L : Nat) (xs : Nat → Int32) : Prop :=
  p.tables.exec = Jvm.exec ∧ c.code = code ∧ meth.sig.returnType = ret ∧ c.maxLocals = 4 ∧ s.vm.findClass R_law = some m.cls ∧ (∀ w ∈ lw_tbl, w.before #[Value.ref b] s = true) ∧ va_X b L xs s s.heap ∧ b < s.heap.size ∧ meth.locks = false ∧ (Jvm.Cond.and given_1 narrow_1).before #[Value.ref b] s = true
end
section
def wpF_L_law_18 (sL : Nat) (xs : Nat → Int32) (K_18 : Int32 → (Nat → Int32) → (Nat → Int32) → Int32 → Int32 → (Nat → Int32) → Int32 → Int32 → (Nat → Int32) → Int32 → Int32 → Int32 → Int32 → Int32 → Int32 → Int32 → Int32 → Int32 → Int32 → Int32 → Int32 → (Nat → Int32) → (Nat → Int32) → (Nat → Int32) → (Nat → Int32) → Int32 → Prop) (c_latestSpent : Int32) (vw : Nat → Int32) (vr : Nat → Int32) (t_size : Int32) (t_at : Int32) (vb : Nat → Int32) (k_size : Int32) (k_at : Int32) (vkb : Nat → Int32) (y_hits : Int32) (y_runOuts : Int32) (y_bitsRead : Int32) (y_fewestBits : Int32) (o_length : Int32) (o_spent : Int32) (o_many : Int32) (o_at : Int32) (o_isOut : Int32) (o_values : Int32) (o_failures : Int32) (o_works : Int32) (vow : Nat → Int32) (voq : Nat → Int32) (vob : Nat → Int32) (vor : Nat → Int32) (x3 : Int32) : Prop :=
  ((((nI sL) - (nI 6)) < x3 → True) ∧ (¬ ((nI sL) - (nI 6)) < x3 → (vp_in x3 sL ∧ ((((xs (x3).toNatClampNeg) &&& (nI 15)) = nI 0 → (vp_in (x3 + (nI 1)) sL ∧ (vp_in (x3 + (nI 2)) sL ∧ wp_C_weigh (fun r_3 vw_4 => (vp_in (x3 + (nI 1)) sL ∧ (vp_in (x3 + (nI 2)) sL ∧ wp_M_weigh (fun r_5 vw_6 => ((r_3 = r_5 → K_18 c_latestSpent vw_4 vr t_size t_at vb k_size k_at vkb y_hits y_runOuts y_bitsRead y_fewestBits o_length o_spent o_many o_at o_isOut o_values o_failures o_works vw_6 voq vob vor (x3 + (nI 6))) ∧ (¬ r_3 = r_5 → False))) o_length o_spent o_many o_at o_isOut o_values o_failures o_works vow (xs ((x3 + (nI 1))).toNatClampNeg) (xs ((x3 + (nI 2))).toNatClampNeg)))) c_latestSpent vw (xs ((x3 + (nI 1))).toNatClampNeg) (xs ((x3 + (nI 2))).toNatClampNeg)))) ∧ (¬ ((xs (x3).toNatClampNeg) &&& (nI 15)) = nI 0 → ((((xs (x3).toNatClampNeg) &&& (nI 15)) = nI 1 → (vp_in (x3 + (nI 1)) sL ∧ wp_C_weight (fun r_7 => (vp_in (x3 + (nI 1)) sL ∧ wp_M_weight (fun r_8 => ((r_7 = r_8 → K_18 c_latestSpent vw vr t_size t_at vb k_size k_at vkb y_hits y_runOuts y_bitsRead y_fewestBits o_length o_spent o_many o_at o_isOut o_values o_failures o_works vow voq vob vor (x3 + (nI 6))) ∧ (¬ r_7 = r_8 → False))) o_length o_spent o_many o_at o_isOut o_values o_failures o_works vow (xs ((x3 + (nI 1))).toNatClampNeg))) c_latestSpent vw (xs ((x3 + (nI 1))).toNatClampNeg))) ∧ (¬ ((xs (x3).toNatClampNeg) &&& (nI 15)) = nI 1 → ((((xs (x3).toNatClampNeg) &&& (nI 15)) = nI 2 → (vp_in (x3 + (nI 1)) sL ∧ (vp_in (x3 + (nI 2)) sL ∧ wp_C_feed (fun r_9 tsize_10 vb_11 => (vp_in (x3 + (nI 1)) sL ∧ (vp_in (x3 + (nI 2)) sL ∧ wp_M_feed (fun r_12 olength_13 vq_14 => ((r_9 = r_12 → K_18 c_latestSpent vw vr tsize_10 t_at vb_11 k_size k_at vkb y_hits y_runOuts y_bitsRead y_fewestBits olength_13 o_spent o_many o_at o_isOut o_values o_failures o_works vow vq_14 vob vor (x3 + (nI 6))) ∧ (¬ r_9 = r_12 → False))) o_length o_spent o_many o_at o_isOut o_values o_failures o_works voq (xs ((x3 + (nI 1))).toNatClampNeg) (xs ((x3 + (nI 2))).toNatClampNeg)))) 256 c_latestSpent t_size t_at vb (xs ((x3 + (nI 1))).toNatClampNeg) (xs ((x3 + (nI 2))).toNatClampNeg)))) ∧ (¬ ((xs (x3).toNatClampNeg) &&& (nI 15)) = nI 2 → ((((xs (x3).toNatClampNeg) &&& (nI 15)) = nI 3 → wp_C_left (fun r_15 => wp_M_left (fun r_16 => ((r_15 = r_16 → K_18 c_latestSpent vw vr t_size t_at vb k_size k_at vkb y_hits y_runOuts y_bitsRead y_fewestBits o_length o_spent o_many o_at o_isOut o_values o_failures o_works vow voq vob vor (x3 + (nI 6))) ∧ (¬ r_15 = r_16 → False))) o_length o_spent o_many o_at o_isOut o_values o_failures o_works) 256 c_latestSpent t_size t_at vb) ∧ (¬ ((xs (x3).toNatClampNeg) &&& (nI 15)) = nI 3 → ((((xs (x3).toNatClampNeg) &&& (nI 15)) = nI 4 → (vp_in (x3 + (nI 1)) sL ∧ (vp_in (x3 + (nI 2)) sL ∧ (vp_in (x3 + (nI 3)) sL ∧ wp_C_isOne (fun r_17 => (vp_in (x3 + (nI 1)) sL ∧ (vp_in (x3 + (nI 2)) sL ∧ (vp_in (x3 + (nI 3)) sL ∧ wp_M_isOne (fun r_18 => ((r_17 = r_18 → K_18 c_latestSpent vw vr t_size t_at vb k_size k_at vkb y_hits y_runOuts y_bitsRead y_fewestBits o_length o_spent o_many o_at o_isOut o_values o_failures o_works vow voq vob vor (x3 + (nI 6))) ∧ (¬ r_17 = r_18 → False))) o_length o_spent o_many o_at o_isOut o_values o_failures o_works vow (xs ((x3 + (nI 1))).toNatClampNeg) (xs ((x3 + (nI 2))).toNatClampNeg) (xs ((x3 + (nI 3))).toNatClampNeg))))) c_latestSpent vw (xs ((x3 + (nI 1))).toNatClampNeg) (xs ((x3 + (nI 2))).toNatClampNeg) (xs ((x3 + (nI 3))).toNatClampNeg))))) ∧ (¬ ((xs (x3).toNatClampNeg) &&& (nI 15)) = nI 4 → ((((xs (x3).toNatClampNeg) &&& (nI 15)) = nI 5 → (vp_in (x3 + (nI 1)) sL ∧ (vp_in (x3 + (nI 2)) sL ∧ (vp_in (x3 + (nI 3)) sL ∧ wp_C_draw (fun r_19 clatestSpent_20 vr_21 tsize_22 tat_23 vb_24 => (vp_in (x3 + (nI 1)) sL ∧ (vp_in (x3 + (nI 2)) sL ∧ (vp_in (x3 + (nI 3)) sL ∧ wp_M_draw (fun r_25 olength_26 ospent_27 omany_28 oat_29 oisOut_30 vb_31 vr_32 vq_33 => ((r_19 = r_25 → K_18 clatestSpent_20 vw vr_21 tsize_22 tat_23 vb_24 k_size k_at vkb y_hits y_runOuts y_bitsRead y_fewestBits olength_26 ospent_27 omany_28 oat_29 oisOut_30 o_values o_failures o_works vow vq_33 vb_31 vr_32 (x3 + (nI 6))) ∧ (¬ r_19 = r_25 → False))) o_length o_spent o_many o_at o_isOut o_values o_failures o_works vob vor vow voq (xs ((x3 + (nI 1))).toNatClampNeg) (xs ((x3 + (nI 2))).toNatClampNeg) (xs ((x3 + (nI 3))).toNatClampNeg))))) 256 c_latestSpent vw vr t_size t_at vb (xs ((x3 + (nI 1))).toNatClampNeg) (xs ((x3 + (nI 2))).toNatClampNeg) (xs ((x3 + (nI 3))).toNatClampNeg))))) ∧ (¬ ((xs (x3).toNatClampNeg) &&& (nI 15)) = nI 5 → ((((xs (x3).toNatClampNeg) &&& (nI 15)) = nI 6 → wp_C_spent (fun r_34 => wp_M_spent (fun r_35 => ((r_34 = r_35 → K_18 c_latestSpent vw vr t_size t_at vb k_size k_at vkb y_hits y_runOuts y_bitsRead y_fewestBits o_length o_spent o_many o_at o_isOut o_values o_failures o_works vow voq vob vor (x3 + (nI 6))) ∧ (¬ r_34 = r_35 → False))) o_length o_spent o_many o_at o_isOut o_values o_failures o_works) c_latestSpent) ∧ (¬ ((xs (x3).toNatClampNeg) &&& (nI 15)) = nI 6 → ((((xs (x3).toNatClampNeg) &&& (nI 15)) = nI 7 → (vp_in (x3 + (nI 1)) sL ∧ (vp_in (x3 + (nI 2)) sL ∧ (vp_in (x3 + (nI 3)) sL ∧ (vp_in (x3 + (nI 4)) sL ∧ (vp_in (x3 + (nI 5)) sL ∧ wp_C_count (fun r_36 vr_37 tsize_38 tat_39 vb_40 yhits_41 yrunOuts_42 ybitsRead_43 yfewestBits_44 => (vp_in (x3 + (nI 1)) sL ∧ (vp_in (x3 + (nI 2)) sL ∧ (vp_in (x3 + (nI 3)) sL ∧ (vp_in (x3 + (nI 4)) sL ∧ (vp_in (x3 + (nI 5)) sL ∧ wp_M_count (fun r_45 omany_46 oat_47 oisOut_48 ovalues_49 ofailures_50 oworks_51 vb_52 vr_53 => ((r_36 = r_45 → K_18 c_latestSpent vw vr_37 t_size t_at vb tsize_38 tat_39 vb_40 yhits_41 yrunOuts_42 ybitsRead_43 yfewestBits_44 o_length o_spent omany_46 oat_47 oisOut_48 ovalues_49 ofailures_50 oworks_51 vow voq vb_52 vr_53 (x3 + (nI 6))) ∧ (¬ r_36 = r_45 → False))) o_length o_spent o_many o_at o_isOut o_values o_failures o_works vob vor vow (xs ((x3 + (nI 1))).toNatClampNeg) (xs ((x3 + (nI 2))).toNatClampNeg) (xs ((x3 + (nI 3))).toNatClampNeg) (xs ((x3 + (nI 4))).toNatClampNeg) (xs ((x3 + (nI 5))).toNatClampNeg))))))) 12 c_latestSpent vw vr k_size k_at vkb y_hits y_runOuts y_bitsRead y_fewestBits (xs ((x3 + (nI 1))).toNatClampNeg) (xs ((x3 + (nI 2))).toNatClampNeg) (xs ((x3 + (nI 3))).toNatClampNeg) (xs ((x3 + (nI 4))).toNatClampNeg) (xs ((x3 + (nI 5))).toNatClampNeg))))))) ∧ (¬ ((xs (x3).toNatClampNeg) &&& (nI 15)) = nI 7 → ((((xs (x3).toNatClampNeg) &&& (nI 15)) = nI 8 → (vp_in (x3 + (nI 1)) sL ∧ (vp_in (x3 + (nI 2)) sL ∧ (vp_in (x3 + (nI 3)) sL ∧ (vp_in (x3 + (nI 4)) sL ∧ wp_C_fails (fun r_54 vr_55 tsize_56 tat_57 vb_58 yhits_59 yrunOuts_60 ybitsRead_61 yfewestBits_62 => (vp_in (x3 + (nI 1)) sL ∧ (vp_in (x3 + (nI 2)) sL ∧ (vp_in (x3 + (nI 3)) sL ∧ (vp_in (x3 + (nI 4)) sL ∧ wp_M_fails (fun r_63 omany_64 oat_65 oisOut_66 ovalues_67 ofailures_68 oworks_69 vb_70 vr_71 => ((r_54 = r_63 → K_18 c_latestSpent vw vr_55 t_size t_at vb tsize_56 tat_57 vb_58 yhits_59 yrunOuts_60 ybitsRead_61 yfewestBits_62 o_length o_spent omany_64 oat_65 oisOut_66 ovalues_67 ofailures_68 oworks_69 vow voq vb_70 vr_71 (x3 + (nI 6))) ∧ (¬ r_54 = r_63 → False))) o_length o_spent o_many o_at o_isOut o_values o_failures o_works vob vor vow (xs ((x3 + (nI 1))).toNatClampNeg) (xs ((x3 + (nI 2))).toNatClampNeg) (xs ((x3 + (nI 3))).toNatClampNeg) (xs ((x3 + (nI 4))).toNatClampNeg)))))) 12 c_latestSpent vw vr k_size k_at vkb y_hits y_runOuts y_bitsRead y_fewestBits (xs ((x3 + (nI 1))).toNatClampNeg) (xs ((x3 + (nI 2))).toNatClampNeg) (xs ((x3 + (nI 3))).toNatClampNeg) (xs ((x3 + (nI 4))).toNatClampNeg)))))) ∧ (¬ ((xs (x3).toNatClampNeg) &&& (nI 15)) = nI 8 → ((((xs (x3).toNatClampNeg) &&& (nI 15)) = nI 9 → (vp_in (x3 + (nI 1)) sL ∧ (vp_in (x3 + (nI 2)) sL ∧ (vp_in (x3 + (nI 3)) sL ∧ (vp_in (x3 + (nI 4)) sL ∧ wp_C_work (fun r_72 vr_73 tsize_74 tat_75 vb_76 yhits_77 yrunOuts_78 ybitsRead_79 yfewestBits_80 => (vp_in (x3 + (nI 1)) sL ∧ (vp_in (x3 + (nI 2)) sL ∧ (vp_in (x3 + (nI 3)) sL ∧ (vp_in (x3 + (nI 4)) sL ∧ wp_M_work (fun r_81 omany_82 oat_83 oisOut_84 ovalues_85 ofailures_86 oworks_87 vb_88 vr_89 => ((r_72 = r_81 → K_18 c_latestSpent vw vr_73 t_size t_at vb tsize_74 tat_75 vb_76 yhits_77 yrunOuts_78 ybitsRead_79 yfewestBits_80 o_length o_spent omany_82 oat_83 oisOut_84 ovalues_85 ofailures_86 oworks_87 vow voq vb_88 vr_89 (x3 + (nI 6))) ∧ (¬ r_72 = r_81 → False))) o_length o_spent o_many o_at o_isOut o_values o_failures o_works vob vor vow (xs ((x3 + (nI 1))).toNatClampNeg) (xs ((x3 + (nI 2))).toNatClampNeg) (xs ((x3 + (nI 3))).toNatClampNeg) (xs ((x3 + (nI 4))).toNatClampNeg)))))) 12 c_latestSpent vw vr k_size k_at vkb y_hits y_runOuts y_bitsRead y_fewestBits (xs ((x3 + (nI 1))).toNatClampNeg) (xs ((x3 + (nI 2))).toNatClampNeg) (xs ((x3 + (nI 3))).toNatClampNeg) (xs ((x3 + (nI 4))).toNatClampNeg)))))) ∧ (¬ ((xs (x3).toNatClampNeg) &&& (nI 15)) = nI 9 → ((((xs (x3).toNatClampNeg) &&& (nI 15)) = nI 10 → (vp_in (x3 + (nI 1)) sL ∧ (vp_in (x3 + (nI 2)) sL ∧ (vp_in (x3 + (nI 3)) sL ∧ (vp_in (x3 + (nI 4)) sL ∧ wp_C_first (fun r_90 vr_91 tsize_92 tat_93 vb_94 yhits_95 yrunOuts_96 ybitsRead_97 yfewestBits_98 => (vp_in (x3 + (nI 1)) sL ∧ (vp_in (x3 + (nI 2)) sL ∧ (vp_in (x3 + (nI 3)) sL ∧ (vp_in (x3 + (nI 4)) sL ∧ wp_M_first (fun r_99 omany_100 oat_101 oisOut_102 ovalues_103 ofailures_104 oworks_105 vb_106 vr_107 => ((r_90 = r_99 → K_18 c_latestSpent vw vr_91 t_size t_at vb tsize_92 tat_93 vb_94 yhits_95 yrunOuts_96 ybitsRead_97 yfewestBits_98 o_length o_spent omany_100 oat_101 oisOut_102 ovalues_103 ofailures_104 oworks_105 vow voq vb_106 vr_107 (x3 + (nI 6))) ∧ (¬ r_90 = r_99 → False))) o_length o_spent o_many o_at o_isOut o_values o_failures o_works vob vor vow (xs ((x3 + (nI 1))).toNatClampNeg) (xs ((x3 + (nI 2))).toNatClampNeg) (xs ((x3 + (nI 3))).toNatClampNeg) (xs ((x3 + (nI 4))).toNatClampNeg)))))) 12 c_latestSpent vw vr k_size k_at vkb y_hits y_runOuts y_bitsRead y_fewestBits (xs ((x3 + (nI 1))).toNatClampNeg) (xs ((x3 + (nI 2))).toNatClampNeg) (xs ((x3 + (nI 3))).toNatClampNeg) (xs ((x3 + (nI 4))).toNatClampNeg)))))) ∧ (¬ ((xs (x3).toNatClampNeg) &&& (nI 15)) = nI 10 → K_18 c_latestSpent vw vr t_size t_at vb k_size k_at vkb y_hits y_runOuts y_bitsRead y_fewestBits o_length o_spent o_many o_at o_isOut o_values o_failures o_works vow voq vob vor (x3 + (nI 6)))))))))))))))))))))))))))
def wp_L_law (sL : Nat) (xs : Nat → Int32) : Prop :=
  wp_C_init (fun vw_1 => wp_M_init (fun vow_2 => (∃ n, gL26 (wpF_L_law_18 sL xs) n (nI 0) vw_1 (fun _ => 0) (nI 0) (nI 0) (fun _ => 0) (nI 0) (nI 0) (fun _ => 0) (nI 0) (nI 0) (nI 0) (nI 0) (nI 0) (nI 0) (nI 0) (nI 0) (nI 0) (nI 0) (nI 0) (nI 0) vow_2 (fun _ => 0) (fun _ => 0) (fun _ => 0) (nI 0))))
set_option maxHeartbeats 4000000 in
set_option maxRecDepth 100000 in
theorem law_walk {p : Program} {e : Env} {s : State} {m : MethodId} {below : List Frame} {meth : Method} {c : Code} (l : Launch) {b_s sL : Nat} {xs : Nat → Int32} {D : va_G} {cI : ClassId} (hx : p.tables.exec = Jvm.exec) (hb : c.code = b_L_law) (hr : meth.sig.returnType = ret) (hml : c.maxLocals = 4) (hown : s.vm.findClass "TapeCounterLaw" = some m.cls) (hts : ∀ w ∈ gG, w.before #[Value.ref b_s] s = true) (hN : gNest s) (hX : va_X b_s sL xs s s.heap) (hbl : b_s < s.heap.size) (hlocks : meth.locks = false) (hK : va_K D gCl [(cI, .int)] s) (hw : wp_L_law sL xs) (ls : Array Slot) (hl : lv_has ls 4 [(0, .ref b_s)]) :
    W p l e room_1 s m #[Value.ref b_s] below meth c s.heap [] 0 0 (lw_Z below #[Value.ref b_s] s) (F0 m 0 ls []) := by
  rw [wp_L_law] at hw
  have hA0 : ∃ A : Nat → Prop, (∀ q, s.heap.size ≤ q → A q) ∧ (∀ q, A q → s.heap.size ≤ q) := ⟨fun q => s.heap.size ≤ q, fun _ h => h, fun _ h => h⟩
  obtain ⟨A, hA, hA2⟩ := hA0
  have hbA : ¬ A b_s := fun h => absurd (hA2 _ h) (Nat.not_le.mpr hbl)
  have fx : CallFix p m c b_L_law 4 s #[Value.ref b_s] gG "TapeCounterLaw" := ⟨hx, hb, hml, hown, hts⟩
  have hP : va_P D gCl [] s.heap := fun k q h => by simp at h
  have hD : va_D A [] := ⟨fun i j p q h => by simp at h, fun k q h => by simp at h⟩
  have hS : va_S A s.heap s.heap [] := va_S.rf
  refine gNew (ci := 2) (fs := [.null, .null, .null, .null, .null, .int (nI 0)]) (N := 6) fx hK hA hP hD hS inC tyC rfl w_7 w_8 w_1 (fun j hj => by rcases (show j = 0 ∨ j = 1 ∨ j = 2 ∨ j = 3 ∨ j = 4 ∨ j = 5 by omega) with rfl | rfl | rfl | rfl | rfl | rfl <;> rfl) (by first | exact Nat.le_of_ble_eq_true rfl | (show _ ≤ Nb; omega)) (by first | exact Nat.le_of_ble_eq_true rfl | (show _ ≤ Nb; omega)) d_L_law_0 (fun h_c H hP hD hS => ?_)
  have hP : va_P D gCl [(h_c, .inr (2, [.null, .null, .null, .null, .null, .int (nI 0)]))] H := hP
  have hD : va_D A [(h_c, .inr (2, [.null, .null, .null, .null, .null, .int (nI 0)]))] := hD
  refine lv_dup hx hb d_L_law_3 rfl ?_
  refine g_cI (wr := []) fx (c_C_init l D cI h_c _ hw) mf_C_init w_9 ⟨rfl, rfl⟩ ⟨Nat.le_of_ble_eq_true rfl, Nat.le_of_ble_eq_true rfl⟩ hN hK hA hP hD hS [0] [] rfl rfl rfl rfl (by decide) rfl rfl hl.1 (Nat.le_of_ble_eq_true rfl) d_L_law_4 ⟨(by first | exact Nat.le_of_ble_eq_true rfl | (show _ ≤ Nb; omega)), (by first | exact Nat.le_of_ble_eq_true rfl | (show _ ≤ Nb; omega))⟩ (fun u H locs hw hP hD hS => ?_)
  obtain ⟨h_w, h_r, h_t, h_b, h_k, h_kb, h_y, vw_1⟩ := u
  try dsimp only at hw
  have hP : va_P D gCl [(h_c, .inr (2, [.ref h_w, .ref h_r, .ref h_t, .ref h_k, .ref h_y, .int (nI 0)])), (h_w, .inl (cI, 8, .inl vw_1)), (h_r, .inl (cI, 4, .inl (fun _ => 0))), (h_t, .inr (1, [.ref h_b, .int (nI 0), .int (nI 0)])), (h_b, .inl (cI, 256, .inl (fun _ => 0))), (h_k, .inr (1, [.ref h_kb, .int (nI 0), .int (nI 0)])), (h_kb, .inl (cI, 12, .inl (fun _ => 0))), (h_y, .inr (0, [.int (nI 0), .int (nI 0), .int (nI 0), .int (nI 0)]))] H := hP
  have hD : va_D A [(h_c, .inr (2, [.ref h_w, .ref h_r, .ref h_t, .ref h_k, .ref h_y, .int (nI 0)])), (h_w, .inl (cI, 8, .inl vw_1)), (h_r, .inl (cI, 4, .inl (fun _ => 0))), (h_t, .inr (1, [.ref h_b, .int (nI 0), .int (nI 0)])), (h_b, .inl (cI, 256, .inl (fun _ => 0))), (h_k, .inr (1, [.ref h_kb, .int (nI 0), .int (nI 0)])), (h_kb, .inl (cI, 12, .inl (fun _ => 0))), (h_y, .inr (0, [.int (nI 0), .int (nI 0), .int (nI 0), .int (nI 0)]))] := hD
  refine lv_astore_n (lv' := [(1, .ref h_c), (0, .ref b_s)]) hx hb d_L_law_7 rfl hl (by decide) rfl (fun ls hl => ?_)
  refine gNew (ci := 3) (fs := [.null, .null, .int (nI 0), .int (nI 0), .null, .int (nI 0), .int (nI 0), .int (nI 0), .null, .int (nI 0), .int (nI 0), .int (nI 0)]) (N := 12) fx hK hA hP hD hS inM tyM rfl w_218 w_219 w_4 (fun j hj => by rcases (show j = 0 ∨ j = 1 ∨ j = 2 ∨ j = 3 ∨ j = 4 ∨ j = 5 ∨ j = 6 ∨ j = 7 ∨ j = 8 ∨ j = 9 ∨ j = 10 ∨ j = 11 by omega) with rfl | rfl | rfl | rfl | rfl | rfl | rfl | rfl | rfl | rfl | rfl | rfl <;> rfl) (by first | exact Nat.le_of_ble_eq_true rfl | (show _ ≤ Nb; omega)) (by first | exact Nat.le_of_ble_eq_true rfl | (show _ ≤ Nb; omega)) d_L_law_8 (fun h_o H hP hD hS => ?_)
  have hP : va_P D gCl [(h_c, .inr (2, [.ref h_w, .ref h_r, .ref h_t, .ref h_k, .ref h_y, .int (nI 0)])), (h_w, .inl (cI, 8, .inl vw_1)), (h_r, .inl (cI, 4, .inl (fun _ => 0))), (h_t, .inr (1, [.ref h_b, .int (nI 0), .int (nI 0)])), (h_b, .inl (cI, 256, .inl (fun _ => 0))), (h_k, .inr (1, [.ref h_kb, .int (nI 0), .int (nI 0)])), (h_kb, .inl (cI, 12, .inl (fun _ => 0))), (h_y, .inr (0, [.int (nI 0), .int (nI 0), .int (nI 0), .int (nI 0)])), (h_o, .inr (3, [.null, .null, .int (nI 0), .int (nI 0), .null, .int (nI 0), .int (nI 0), .int (nI 0), .null, .int (nI 0), .int (nI 0), .int (nI 0)]))] H := hP
  have hD : va_D A [(h_c, .inr (2, [.ref h_w, .ref h_r, .ref h_t, .ref h_k, .ref h_y, .int (nI 0)])), (h_w, .inl (cI, 8, .inl vw_1)), (h_r, .inl (cI, 4, .inl (fun _ => 0))), (h_t, .inr (1, [.ref h_b, .int (nI 0), .int (nI 0)])), (h_b, .inl (cI, 256, .inl (fun _ => 0))), (h_k, .inr (1, [.ref h_kb, .int (nI 0), .int (nI 0)])), (h_kb, .inl (cI, 12, .inl (fun _ => 0))), (h_y, .inr (0, [.int (nI 0), .int (nI 0), .int (nI 0), .int (nI 0)])), (h_o, .inr (3, [.null, .null, .int (nI 0), .int (nI 0), .null, .int (nI 0), .int (nI 0), .int (nI 0), .null, .int (nI 0), .int (nI 0), .int (nI 0)]))] := hD
  refine lv_dup hx hb d_L_law_11 rfl ?_
  refine g_cI (wr := [(h_c, .inr (2, [.ref h_w, .ref h_r, .ref h_t, .ref h_k, .ref h_y, .int (nI 0)])), (h_w, .inl (cI, 8, .inl vw_1)), (h_r, .inl (cI, 4, .inl (fun _ => 0))), (h_t, .inr (1, [.ref h_b, .int (nI 0), .int (nI 0)])), (h_b, .inl (cI, 256, .inl (fun _ => 0))), (h_k, .inr (1, [.ref h_kb, .int (nI 0), .int (nI 0)])), (h_kb, .inl (cI, 12, .inl (fun _ => 0))), (h_y, .inr (0, [.int (nI 0), .int (nI 0), .int (nI 0), .int (nI 0)]))]) fx (c_M_init l D cI h_o _ hw) mf_M_init w_220 ⟨rfl, rfl⟩ ⟨Nat.le_of_ble_eq_true rfl, Nat.le_of_ble_eq_true rfl⟩ hN hK hA hP hD hS [8] [0, 1, 2, 3, 4, 5, 6, 7] rfl rfl rfl rfl (by decide) rfl rfl hl.1 (Nat.le_of_ble_eq_true rfl) d_L_law_12 ⟨(by first | exact Nat.le_of_ble_eq_true rfl | (show _ ≤ Nb; omega)), (by first | exact Nat.le_of_ble_eq_true rfl | (show _ ≤ Nb; omega))⟩ (fun u H locs hw hP hD hS => ?_)
  obtain ⟨h_ow, h_oq, h_ob, h_or, vow_2⟩ := u
  try dsimp only at hw
  have hP : va_P D gCl [(h_c, .inr (2, [.ref h_w, .ref h_r, .ref h_t, .ref h_k, .ref h_y, .int (nI 0)])), (h_w, .inl (cI, 8, .inl vw_1)), (h_r, .inl (cI, 4, .inl (fun _ => 0))), (h_t, .inr (1, [.ref h_b, .int (nI 0), .int (nI 0)])), (h_b, .inl (cI, 256, .inl (fun _ => 0))), (h_k, .inr (1, [.ref h_kb, .int (nI 0), .int (nI 0)])), (h_kb, .inl (cI, 12, .inl (fun _ => 0))), (h_y, .inr (0, [.int (nI 0), .int (nI 0), .int (nI 0), .int (nI 0)])), (h_o, .inr (3, [.ref h_ow, .ref h_oq, .int (nI 0), .int (nI 0), .ref h_ob, .int (nI 0), .int (nI 0), .int (nI 0), .ref h_or, .int (nI 0), .int (nI 0), .int (nI 0)])), (h_ow, .inl (cI, 8, .inl vow_2)), (h_oq, .inl (cI, 256, .inl (fun _ => 0))), (h_ob, .inl (cI, 256, .inl (fun _ => 0))), (h_or, .inl (cI, 4, .inl (fun _ => 0)))] H := hP
  have hD : va_D A [(h_c, .inr (2, [.ref h_w, .ref h_r, .ref h_t, .ref h_k, .ref h_y, .int (nI 0)])), (h_w, .inl (cI, 8, .inl vw_1)), (h_r, .inl (cI, 4, .inl (fun _ => 0))), (h_t, .inr (1, [.ref h_b, .int (nI 0), .int (nI 0)])), (h_b, .inl (cI, 256, .inl (fun _ => 0))), (h_k, .inr (1, [.ref h_kb, .int (nI 0), .int (nI 0)])), (h_kb, .inl (cI, 12, .inl (fun _ => 0))), (h_y, .inr (0, [.int (nI 0), .int (nI 0), .int (nI 0), .int (nI 0)])), (h_o, .inr (3, [.ref h_ow, .ref h_oq, .int (nI 0), .int (nI 0), .ref h_ob, .int (nI 0), .int (nI 0), .int (nI 0), .ref h_or, .int (nI 0), .int (nI 0), .int (nI 0)])), (h_ow, .inl (cI, 8, .inl vow_2)), (h_oq, .inl (cI, 256, .inl (fun _ => 0))), (h_ob, .inl (cI, 256, .inl (fun _ => 0))), (h_or, .inl (cI, 4, .inl (fun _ => 0)))] := hD
  refine lv_astore_n (lv' := [(2, .ref h_o), (1, .ref h_c), (0, .ref b_s)]) hx hb d_L_law_15 rfl hl (by decide) rfl (fun ls hl => ?_)
  refine lv_iconst (v := (nI 0)) hx hb d_L_law_16 (by decide) ?_
  refine lv_istore_n (lv' := [(3, .int (nI 0)), (2, .ref h_o), (1, .ref h_c), (0, .ref b_s)]) hx hb d_L_law_17 rfl hl (by decide) rfl (fun ls hl => ?_)
  obtain ⟨n_18, hw⟩ := hw
  have k_18 : ∀ (n_18 : Nat) (c_latestSpent : Int32) (vw : Nat → Int32) (vr : Nat → Int32) (t_size : Int32) (t_at : Int32) (vb : Nat → Int32) (k_size : Int32) (k_at : Int32) (vkb : Nat → Int32) (y_hits : Int32) (y_runOuts : Int32) (y_bitsRead : Int32) (y_fewestBits : Int32) (o_length : Int32) (o_spent : Int32) (o_many : Int32) (o_at : Int32) (o_isOut : Int32) (o_values : Int32) (o_failures : Int32) (o_works : Int32) (vow : Nat → Int32) (voq : Nat → Int32) (vob : Nat → Int32) (vor : Nat → Int32) (x3 : Int32), gL26 (wpF_L_law_18 sL xs) n_18 c_latestSpent vw vr t_size t_at vb k_size k_at vkb y_hits y_runOuts y_bitsRead y_fewestBits o_length o_spent o_many o_at o_isOut o_values o_failures o_works vow voq vob vor x3 → ∀ (H : Heap) (locs : List Loc) (ls : Array Slot), va_P D gCl [(h_c, .inr (2, [.ref h_w, .ref h_r, .ref h_t, .ref h_k, .ref h_y, .int c_latestSpent])), (h_w, .inl (cI, 8, .inl vw)), (h_r, .inl (cI, 4, .inl vr)), (h_t, .inr (1, [.ref h_b, .int t_size, .int t_at])), (h_b, .inl (cI, 256, .inl vb)), (h_k, .inr (1, [.ref h_kb, .int k_size, .int k_at])), (h_kb, .inl (cI, 12, .inl vkb)), (h_y, .inr (0, [.int y_hits, .int y_runOuts, .int y_bitsRead, .int y_fewestBits])), (h_o, .inr (3, [.ref h_ow, .ref h_oq, .int o_length, .int o_spent, .ref h_ob, .int o_many, .int o_at, .int o_isOut, .ref h_or, .int o_values, .int o_failures, .int o_works])), (h_ow, .inl (cI, 8, .inl vow)), (h_oq, .inl (cI, 256, .inl voq)), (h_ob, .inl (cI, 256, .inl vob)), (h_or, .inl (cI, 4, .inl vor))] H → va_D A [(h_c, .inr (2, [.ref h_w, .ref h_r, .ref h_t, .ref h_k, .ref h_y, .int c_latestSpent])), (h_w, .inl (cI, 8, .inl vw)), (h_r, .inl (cI, 4, .inl vr)), (h_t, .inr (1, [.ref h_b, .int t_size, .int t_at])), (h_b, .inl (cI, 256, .inl vb)), (h_k, .inr (1, [.ref h_kb, .int k_size, .int k_at])), (h_kb, .inl (cI, 12, .inl vkb)), (h_y, .inr (0, [.int y_hits, .int y_runOuts, .int y_bitsRead, .int y_fewestBits])), (h_o, .inr (3, [.ref h_ow, .ref h_oq, .int o_length, .int o_spent, .ref h_ob, .int o_many, .int o_at, .int o_isOut, .ref h_or, .int o_values, .int o_failures, .int o_works])), (h_ow, .inl (cI, 8, .inl vow)), (h_oq, .inl (cI, 256, .inl voq)), (h_ob, .inl (cI, 256, .inl vob)), (h_or, .inl (cI, 4, .inl vor))] → va_S A s.heap H locs → lv_has ls 4 [(3, .int x3), (2, .ref h_o), (1, .ref h_c), (0, .ref b_s)] → W p l e room_1 s m #[Value.ref b_s] below meth c H locs ((((0 + 1) + 7) + 1) + 4) ((((0 + 6) + 290) + 12) + 524) (lw_Z below #[Value.ref b_s] s) (F0 m 18 ls []) := by
    clear hw hP hD hS hl
    intro n_18
    induction n_18 with
    | zero => exact fun _ _ _ _ _ _ _ _ _ _ _ _ _ _ _ _ _ _ _ _ _ _ _ _ _ _ h => h.elim
    | succ n_18 ih_18 =>
      intro c_latestSpent vw vr t_size t_at vb k_size k_at vkb y_hits y_runOuts y_bitsRead y_fewestBits o_length o_spent o_many o_at o_isOut o_values o_failures o_works vow voq vob vor x3 hw H locs ls hP hD hS hl
      have hw : wpF_L_law_18 sL xs (gL26 (wpF_L_law_18 sL xs) n_18) c_latestSpent vw vr t_size t_at vb k_size k_at vkb y_hits y_runOuts y_bitsRead y_fewestBits o_length o_spent o_many o_at o_isOut o_values o_failures o_works vow voq vob vor x3 := hw
      rw [wpF_L_law_18] at hw
      refine lv_iload_n hx hb d_L_law_18 rfl (lv_at hl 0 rfl) ?_
      refine lv_aload_n hx hb d_L_law_19 rfl (lv_at hl 3 rfl) ?_
      refine va_slen hx hb hX hbl hbA hS d_L_law_20 ?_
      refine lv_bipush (v := (nI 6)) hx hb d_L_law_21 (by decide) ?_
      refine lv_isub hx hb d_L_law_23 ?_
      refine lv_icmp_gt (tgt := 521) hx hb d_L_law_24 (by decide) (fun c24 => ?_) (fun c24 => ?_)
      · have hw := hw.1 c24
        refine lv_iconst (v := (nI 1)) hx hb d_L_law_521 (by decide) ?_
        refine va_forget (fun q hq => hA2 _ (hS.2.2 q hq)) ?_
        refine W.widen (k := 600000) (n := 7302250) (Nat.le_of_ble_eq_true rfl) (Nat.le_of_ble_eq_true rfl) ?_
        exact lw_ret hx hb hr hlocks d_L_law_522
      · have hw := hw.2 c24
        refine lv_aload_n hx hb d_L_law_27 rfl (lv_at hl 3 rfl) ?_
        refine lv_iload_n hx hb d_L_law_28 rfl (lv_at hl 0 rfl) ?_
        refine va_sld hx hb hX hbl hbA hS hw.1 d_L_law_29 ?_
        have hw := hw.2
        refine lv_bipush (v := (nI 15)) hx hb d_L_law_30 (by decide) ?_
        refine lv_iand hx hb d_L_law_32 ?_
        rcases Classical.em (((xs (x3).toNatClampNeg) &&& (nI 15)) = nI 0) with c33_0 | c33_0
        · have hw := hw.1 c33_0
          refine g_sw (nI 0) (tgt := 92) hx hb d_L_law_33 c33_0 (by decide) (by decide) rfl (by decide) ?_
          refine lv_aload_n hx hb d_L_law_92 rfl (lv_at hl 2 rfl) ?_
          refine lv_aload_n hx hb d_L_law_93 rfl (lv_at hl 3 rfl) ?_
          refine lv_iload_n hx hb d_L_law_94 rfl (lv_at hl 0 rfl) ?_
          refine lv_iconst (v := (nI 1)) hx hb d_L_law_95 (by decide) ?_
          refine lv_iadd hx hb d_L_law_96 ?_
          refine va_sld hx hb hX hbl hbA hS hw.1 d_L_law_97 ?_
          have hw := hw.2
          refine lv_aload_n hx hb d_L_law_98 rfl (lv_at hl 3 rfl) ?_
          refine lv_iload_n hx hb d_L_law_99 rfl (lv_at hl 0 rfl) ?_
          refine lv_iconst (v := (nI 2)) hx hb d_L_law_100 (by decide) ?_
          refine lv_iadd hx hb d_L_law_101 ?_
          refine va_sld hx hb hX hbl hbA hS hw.1 d_L_law_102 ?_
          have hw := hw.2
          refine g_cVi (wr := [(h_r, .inl (cI, 4, .inl vr)), (h_t, .inr (1, [.ref h_b, .int t_size, .int t_at])), (h_b, .inl (cI, 256, .inl vb)), (h_k, .inr (1, [.ref h_kb, .int k_size, .int k_at])), (h_kb, .inl (cI, 12, .inl vkb)), (h_y, .inr (0, [.int y_hits, .int y_runOuts, .int y_bitsRead, .int y_fewestBits])), (h_o, .inr (3, [.ref h_ow, .ref h_oq, .int o_length, .int o_spent, .ref h_ob, .int o_many, .int o_at, .int o_isOut, .ref h_or, .int o_values, .int o_failures, .int o_works])), (h_ow, .inl (cI, 8, .inl vow)), (h_oq, .inl (cI, 256, .inl voq)), (h_ob, .inl (cI, 256, .inl vob)), (h_or, .inl (cI, 4, .inl vor))]) fx (c_C_weigh l D cI h_c h_w h_r h_t h_k h_y c_latestSpent vw (xs ((x3 + (nI 1))).toNatClampNeg) (xs ((x3 + (nI 2))).toNatClampNeg) _ hw) mf_C_weigh w_74 ⟨rfl, rfl⟩ ⟨Nat.le_of_ble_eq_true rfl, Nat.le_of_ble_eq_true rfl⟩ hN hK hA hP hD hS [0, 1] [2, 3, 4, 5, 6, 7, 8, 9, 10, 11, 12] rfl rfl rfl rfl (by decide) 0 rfl rfl rfl rfl hl.1 (Nat.le_of_ble_eq_true rfl) d_L_law_103 ⟨Nat.le_of_ble_eq_true rfl, Nat.le_of_ble_eq_true rfl⟩ (fun r_3 u H locs hw hP hD hS => ?_)
          obtain ⟨vw_4, rfl⟩ : ∃ z, z = u := ⟨_, rfl⟩
          try dsimp only at hw
          have hP : va_P D gCl [(h_r, .inl (cI, 4, .inl vr)), (h_t, .inr (1, [.ref h_b, .int t_size, .int t_at])), (h_b, .inl (cI, 256, .inl vb)), (h_k, .inr (1, [.ref h_kb, .int k_size, .int k_at])), (h_kb, .inl (cI, 12, .inl vkb)), (h_y, .inr (0, [.int y_hits, .int y_runOuts, .int y_bitsRead, .int y_fewestBits])), (h_o, .inr (3, [.ref h_ow, .ref h_oq, .int o_length, .int o_spent, .ref h_ob, .int o_many, .int o_at, .int o_isOut, .ref h_or, .int o_values, .int o_failures, .int o_works])), (h_ow, .inl (cI, 8, .inl vow)), (h_oq, .inl (cI, 256, .inl voq)), (h_ob, .inl (cI, 256, .inl vob)), (h_or, .inl (cI, 4, .inl vor)), (h_c, .inr (2, [.ref h_w, .ref h_r, .ref h_t, .ref h_k, .ref h_y, .int c_latestSpent])), (h_w, .inl (cI, 8, .inl vw_4))] H := hP
          have hD : va_D A [(h_r, .inl (cI, 4, .inl vr)), (h_t, .inr (1, [.ref h_b, .int t_size, .int t_at])), (h_b, .inl (cI, 256, .inl vb)), (h_k, .inr (1, [.ref h_kb, .int k_size, .int k_at])), (h_kb, .inl (cI, 12, .inl vkb)), (h_y, .inr (0, [.int y_hits, .int y_runOuts, .int y_bitsRead, .int y_fewestBits])), (h_o, .inr (3, [.ref h_ow, .ref h_oq, .int o_length, .int o_spent, .ref h_ob, .int o_many, .int o_at, .int o_isOut, .ref h_or, .int o_values, .int o_failures, .int o_works])), (h_ow, .inl (cI, 8, .inl vow)), (h_oq, .inl (cI, 256, .inl voq)), (h_ob, .inl (cI, 256, .inl vob)), (h_or, .inl (cI, 4, .inl vor)), (h_c, .inr (2, [.ref h_w, .ref h_r, .ref h_t, .ref h_k, .ref h_y, .int c_latestSpent])), (h_w, .inl (cI, 8, .inl vw_4))] := hD
          refine lv_aload_n hx hb d_L_law_106 rfl (lv_at hl 1 rfl) ?_
          refine lv_aload_n hx hb d_L_law_107 rfl (lv_at hl 3 rfl) ?_
          refine lv_iload_n hx hb d_L_law_108 rfl (lv_at hl 0 rfl) ?_
          refine lv_iconst (v := (nI 1)) hx hb d_L_law_109 (by decide) ?_
          refine lv_iadd hx hb d_L_law_110 ?_
          refine va_sld hx hb hX hbl hbA hS hw.1 d_L_law_111 ?_
          have hw := hw.2
          refine lv_aload_n hx hb d_L_law_112 rfl (lv_at hl 3 rfl) ?_
          refine lv_iload_n hx hb d_L_law_113 rfl (lv_at hl 0 rfl) ?_
          refine lv_iconst (v := (nI 2)) hx hb d_L_law_114 (by decide) ?_
          refine lv_iadd hx hb d_L_law_115 ?_
          refine va_sld hx hb hX hbl hbA hS hw.1 d_L_law_116 ?_
          have hw := hw.2
          refine g_cVi (wr := [(h_r, .inl (cI, 4, .inl vr)), (h_t, .inr (1, [.ref h_b, .int t_size, .int t_at])), (h_b, .inl (cI, 256, .inl vb)), (h_k, .inr (1, [.ref h_kb, .int k_size, .int k_at])), (h_kb, .inl (cI, 12, .inl vkb)), (h_y, .inr (0, [.int y_hits, .int y_runOuts, .int y_bitsRead, .int y_fewestBits])), (h_oq, .inl (cI, 256, .inl voq)), (h_ob, .inl (cI, 256, .inl vob)), (h_or, .inl (cI, 4, .inl vor)), (h_c, .inr (2, [.ref h_w, .ref h_r, .ref h_t, .ref h_k, .ref h_y, .int c_latestSpent])), (h_w, .inl (cI, 8, .inl vw_4))]) fx (c_M_weigh l D cI h_o h_ow h_oq h_ob h_or o_length o_spent o_many o_at o_isOut o_values o_failures o_works vow (xs ((x3 + (nI 1))).toNatClampNeg) (xs ((x3 + (nI 2))).toNatClampNeg) _ hw) mf_M_weigh w_261 ⟨rfl, rfl⟩ ⟨Nat.le_of_ble_eq_true rfl, Nat.le_of_ble_eq_true rfl⟩ hN hK hA hP hD hS [6, 7] [0, 1, 2, 3, 4, 5, 8, 9, 10, 11, 12] rfl rfl rfl rfl (by decide) 0 rfl rfl rfl rfl hl.1 (Nat.le_of_ble_eq_true rfl) d_L_law_117 ⟨Nat.le_of_ble_eq_true rfl, Nat.le_of_ble_eq_true rfl⟩ (fun r_5 u H locs hw hP hD hS => ?_)
          obtain ⟨vw_6, rfl⟩ : ∃ z, z = u := ⟨_, rfl⟩
          try dsimp only at hw
          have hP : va_P D gCl [(h_r, .inl (cI, 4, .inl vr)), (h_t, .inr (1, [.ref h_b, .int t_size, .int t_at])), (h_b, .inl (cI, 256, .inl vb)), (h_k, .inr (1, [.ref h_kb, .int k_size, .int k_at])), (h_kb, .inl (cI, 12, .inl vkb)), (h_y, .inr (0, [.int y_hits, .int y_runOuts, .int y_bitsRead, .int y_fewestBits])), (h_oq, .inl (cI, 256, .inl voq)), (h_ob, .inl (cI, 256, .inl vob)), (h_or, .inl (cI, 4, .inl vor)), (h_c, .inr (2, [.ref h_w, .ref h_r, .ref h_t, .ref h_k, .ref h_y, .int c_latestSpent])), (h_w, .inl (cI, 8, .inl vw_4)), (h_o, .inr (3, [.ref h_ow, .ref h_oq, .int o_length, .int o_spent, .ref h_ob, .int o_many, .int o_at, .int o_isOut, .ref h_or, .int o_values, .int o_failures, .int o_works])), (h_ow, .inl (cI, 8, .inl vw_6))] H := hP
          have hD : va_D A [(h_r, .inl (cI, 4, .inl vr)), (h_t, .inr (1, [.ref h_b, .int t_size, .int t_at])), (h_b, .inl (cI, 256, .inl vb)), (h_k, .inr (1, [.ref h_kb, .int k_size, .int k_at])), (h_kb, .inl (cI, 12, .inl vkb)), (h_y, .inr (0, [.int y_hits, .int y_runOuts, .int y_bitsRead, .int y_fewestBits])), (h_oq, .inl (cI, 256, .inl voq)), (h_ob, .inl (cI, 256, .inl vob)), (h_or, .inl (cI, 4, .inl vor)), (h_c, .inr (2, [.ref h_w, .ref h_r, .ref h_t, .ref h_k, .ref h_y, .int c_latestSpent])), (h_w, .inl (cI, 8, .inl vw_4)), (h_o, .inr (3, [.ref h_ow, .ref h_oq, .int o_length, .int o_spent, .ref h_ob, .int o_many, .int o_at, .int o_isOut, .ref h_or, .int o_values, .int o_failures, .int o_works])), (h_ow, .inl (cI, 8, .inl vw_6))] := hD
          refine lv_icmp_eq (tgt := 515) hx hb d_L_law_120 (by decide) (fun c120 => ?_) (fun c120 => ?_)
          · have hw := hw.1 c120
            refine lv_iinc (v := (x3 + (nI 6))) (lv' := [(3, .int (x3 + (nI 6))), (2, .ref h_o), (1, .ref h_c), (0, .ref b_s)]) hx hb d_L_law_515 hl (k := 0) rfl rfl (by decide) rfl (fun ls hl => ?_)
            refine lv_goto (tgt := 18) hx hb d_L_law_518 (by decide) ?_
            exact ih_18 _ _ _ _ _ _ _ _ _ _ _ _ _ _ _ _ _ _ _ _ _ _ _ _ _ _ hw _ _ _ (gSubP hP [9, 10, 0, 1, 2, 3, 4, 5, 11, 12, 6, 7, 8] rfl) (hD.sub [9, 10, 0, 1, 2, 3, 4, 5, 11, 12, 6, 7, 8] rfl rfl) hS (lv_sub hl [0, 1, 2, 3] rfl)
          · have hw := hw.2 c120
            refine lv_iconst (v := (nI 0)) hx hb d_L_law_123 (by decide) ?_
            exact hw.elim
        · have hw := hw.2 c33_0
          rcases Classical.em (((xs (x3).toNatClampNeg) &&& (nI 15)) = nI 1) with c33_1 | c33_1
          · have hw := hw.1 c33_1
            refine g_sw (nI 1) (tgt := 125) hx hb d_L_law_33 c33_1 (by decide) (by decide) rfl (by decide) ?_
            refine lv_aload_n hx hb d_L_law_125 rfl (lv_at hl 2 rfl) ?_
            refine lv_aload_n hx hb d_L_law_126 rfl (lv_at hl 3 rfl) ?_
            refine lv_iload_n hx hb d_L_law_127 rfl (lv_at hl 0 rfl) ?_
            refine lv_iconst (v := (nI 1)) hx hb d_L_law_128 (by decide) ?_
            refine lv_iadd hx hb d_L_law_129 ?_
            refine va_sld hx hb hX hbl hbA hS hw.1 d_L_law_130 ?_
            have hw := hw.2
            refine g_cVi (wr := [(h_r, .inl (cI, 4, .inl vr)), (h_t, .inr (1, [.ref h_b, .int t_size, .int t_at])), (h_b, .inl (cI, 256, .inl vb)), (h_k, .inr (1, [.ref h_kb, .int k_size, .int k_at])), (h_kb, .inl (cI, 12, .inl vkb)), (h_y, .inr (0, [.int y_hits, .int y_runOuts, .int y_bitsRead, .int y_fewestBits])), (h_o, .inr (3, [.ref h_ow, .ref h_oq, .int o_length, .int o_spent, .ref h_ob, .int o_many, .int o_at, .int o_isOut, .ref h_or, .int o_values, .int o_failures, .int o_works])), (h_ow, .inl (cI, 8, .inl vow)), (h_oq, .inl (cI, 256, .inl voq)), (h_ob, .inl (cI, 256, .inl vob)), (h_or, .inl (cI, 4, .inl vor))]) fx (c_C_weight l D cI h_c h_w h_r h_t h_k h_y c_latestSpent vw (xs ((x3 + (nI 1))).toNatClampNeg) _ hw) mf_C_weight w_81 ⟨rfl, rfl⟩ ⟨Nat.le_of_ble_eq_true rfl, Nat.le_of_ble_eq_true rfl⟩ hN hK hA hP hD hS [0, 1] [2, 3, 4, 5, 6, 7, 8, 9, 10, 11, 12] rfl rfl rfl rfl (by decide) 0 rfl rfl rfl rfl hl.1 (Nat.le_of_ble_eq_true rfl) d_L_law_131 ⟨Nat.le_of_ble_eq_true rfl, Nat.le_of_ble_eq_true rfl⟩ (fun r_7 u H locs hw hP hD hS => ?_)
            try dsimp only at hw
            have hP : va_P D gCl [(h_r, .inl (cI, 4, .inl vr)), (h_t, .inr (1, [.ref h_b, .int t_size, .int t_at])), (h_b, .inl (cI, 256, .inl vb)), (h_k, .inr (1, [.ref h_kb, .int k_size, .int k_at])), (h_kb, .inl (cI, 12, .inl vkb)), (h_y, .inr (0, [.int y_hits, .int y_runOuts, .int y_bitsRead, .int y_fewestBits])), (h_o, .inr (3, [.ref h_ow, .ref h_oq, .int o_length, .int o_spent, .ref h_ob, .int o_many, .int o_at, .int o_isOut, .ref h_or, .int o_values, .int o_failures, .int o_works])), (h_ow, .inl (cI, 8, .inl vow)), (h_oq, .inl (cI, 256, .inl voq)), (h_ob, .inl (cI, 256, .inl vob)), (h_or, .inl (cI, 4, .inl vor)), (h_c, .inr (2, [.ref h_w, .ref h_r, .ref h_t, .ref h_k, .ref h_y, .int c_latestSpent])), (h_w, .inl (cI, 8, .inl vw))] H := hP
            have hD : va_D A [(h_r, .inl (cI, 4, .inl vr)), (h_t, .inr (1, [.ref h_b, .int t_size, .int t_at])), (h_b, .inl (cI, 256, .inl vb)), (h_k, .inr (1, [.ref h_kb, .int k_size, .int k_at])), (h_kb, .inl (cI, 12, .inl vkb)), (h_y, .inr (0, [.int y_hits, .int y_runOuts, .int y_bitsRead, .int y_fewestBits])), (h_o, .inr (3, [.ref h_ow, .ref h_oq, .int o_length, .int o_spent, .ref h_ob, .int o_many, .int o_at, .int o_isOut, .ref h_or, .int o_values, .int o_failures, .int o_works])), (h_ow, .inl (cI, 8, .inl vow)), (h_oq, .inl (cI, 256, .inl voq)), (h_ob, .inl (cI, 256, .inl vob)), (h_or, .inl (cI, 4, .inl vor)), (h_c, .inr (2, [.ref h_w, .ref h_r, .ref h_t, .ref h_k, .ref h_y, .int c_latestSpent])), (h_w, .inl (cI, 8, .inl vw))] := hD
            refine lv_aload_n hx hb d_L_law_134 rfl (lv_at hl 1 rfl) ?_
            refine lv_aload_n hx hb d_L_law_135 rfl (lv_at hl 3 rfl) ?_
            refine lv_iload_n hx hb d_L_law_136 rfl (lv_at hl 0 rfl) ?_
            refine lv_iconst (v := (nI 1)) hx hb d_L_law_137 (by decide) ?_
            refine lv_iadd hx hb d_L_law_138 ?_
            refine va_sld hx hb hX hbl hbA hS hw.1 d_L_law_139 ?_
            have hw := hw.2
            refine g_cVi (wr := [(h_r, .inl (cI, 4, .inl vr)), (h_t, .inr (1, [.ref h_b, .int t_size, .int t_at])), (h_b, .inl (cI, 256, .inl vb)), (h_k, .inr (1, [.ref h_kb, .int k_size, .int k_at])), (h_kb, .inl (cI, 12, .inl vkb)), (h_y, .inr (0, [.int y_hits, .int y_runOuts, .int y_bitsRead, .int y_fewestBits])), (h_oq, .inl (cI, 256, .inl voq)), (h_ob, .inl (cI, 256, .inl vob)), (h_or, .inl (cI, 4, .inl vor)), (h_c, .inr (2, [.ref h_w, .ref h_r, .ref h_t, .ref h_k, .ref h_y, .int c_latestSpent])), (h_w, .inl (cI, 8, .inl vw))]) fx (c_M_weight l D cI h_o h_ow h_oq h_ob h_or o_length o_spent o_many o_at o_isOut o_values o_failures o_works vow (xs ((x3 + (nI 1))).toNatClampNeg) _ hw) mf_M_weight w_265 ⟨rfl, rfl⟩ ⟨Nat.le_of_ble_eq_true rfl, Nat.le_of_ble_eq_true rfl⟩ hN hK hA hP hD hS [6, 7] [0, 1, 2, 3, 4, 5, 8, 9, 10, 11, 12] rfl rfl rfl rfl (by decide) 0 rfl rfl rfl rfl hl.1 (Nat.le_of_ble_eq_true rfl) d_L_law_140 ⟨Nat.le_of_ble_eq_true rfl, Nat.le_of_ble_eq_true rfl⟩ (fun r_8 u H locs hw hP hD hS => ?_)
            try dsimp only at hw
            have hP : va_P D gCl [(h_r, .inl (cI, 4, .inl vr)), (h_t, .inr (1, [.ref h_b, .int t_size, .int t_at])), (h_b, .inl (cI, 256, .inl vb)), (h_k, .inr (1, [.ref h_kb, .int k_size, .int k_at])), (h_kb, .inl (cI, 12, .inl vkb)), (h_y, .inr (0, [.int y_hits, .int y_runOuts, .int y_bitsRead, .int y_fewestBits])), (h_oq, .inl (cI, 256, .inl voq)), (h_ob, .inl (cI, 256, .inl vob)), (h_or, .inl (cI, 4, .inl vor)), (h_c, .inr (2, [.ref h_w, .ref h_r, .ref h_t, .ref h_k, .ref h_y, .int c_latestSpent])), (h_w, .inl (cI, 8, .inl vw)), (h_o, .inr (3, [.ref h_ow, .ref h_oq, .int o_length, .int o_spent, .ref h_ob, .int o_many, .int o_at, .int o_isOut, .ref h_or, .int o_values, .int o_failures, .int o_works])), (h_ow, .inl (cI, 8, .inl vow))] H := hP
            have hD : va_D A [(h_r, .inl (cI, 4, .inl vr)), (h_t, .inr (1, [.ref h_b, .int t_size, .int t_at])), (h_b, .inl (cI, 256, .inl vb)), (h_k, .inr (1, [.ref h_kb, .int k_size, .int k_at])), (h_kb, .inl (cI, 12, .inl vkb)), (h_y, .inr (0, [.int y_hits, .int y_runOuts, .int y_bitsRead, .int y_fewestBits])), (h_oq, .inl (cI, 256, .inl voq)), (h_ob, .inl (cI, 256, .inl vob)), (h_or, .inl (cI, 4, .inl vor)), (h_c, .inr (2, [.ref h_w, .ref h_r, .ref h_t, .ref h_k, .ref h_y, .int c_latestSpent])), (h_w, .inl (cI, 8, .inl vw)), (h_o, .inr (3, [.ref h_ow, .ref h_oq, .int o_length, .int o_spent, .ref h_ob, .int o_many, .int o_at, .int o_isOut, .ref h_or, .int o_values, .int o_failures, .int o_works])), (h_ow, .inl (cI, 8, .inl vow))] := hD
            refine lv_icmp_eq (tgt := 515) hx hb d_L_law_143 (by decide) (fun c143 => ?_) (fun c143 => ?_)
            · have hw := hw.1 c143
              refine lv_iinc (v := (x3 + (nI 6))) (lv' := [(3, .int (x3 + (nI 6))), (2, .ref h_o), (1, .ref h_c), (0, .ref b_s)]) hx hb d_L_law_515 hl (k := 0) rfl rfl (by decide) rfl (fun ls hl => ?_)
              refine lv_goto (tgt := 18) hx hb d_L_law_518 (by decide) ?_
              exact ih_18 _ _ _ _ _ _ _ _ _ _ _ _ _ _ _ _ _ _ _ _ _ _ _ _ _ _ hw _ _ _ (gSubP hP [9, 10, 0, 1, 2, 3, 4, 5, 11, 12, 6, 7, 8] rfl) (hD.sub [9, 10, 0, 1, 2, 3, 4, 5, 11, 12, 6, 7, 8] rfl rfl) hS (lv_sub hl [0, 1, 2, 3] rfl)
            · have hw := hw.2 c143
              refine lv_iconst (v := (nI 0)) hx hb d_L_law_146 (by decide) ?_
              exact hw.elim
          · have hw := hw.2 c33_1
            rcases Classical.em (((xs (x3).toNatClampNeg) &&& (nI 15)) = nI 2) with c33_2 | c33_2
            · have hw := hw.1 c33_2
              refine g_sw (nI 2) (tgt := 148) hx hb d_L_law_33 c33_2 (by decide) (by decide) rfl (by decide) ?_
              refine lv_aload_n hx hb d_L_law_148 rfl (lv_at hl 2 rfl) ?_
              refine lv_aload_n hx hb d_L_law_149 rfl (lv_at hl 3 rfl) ?_
              refine lv_iload_n hx hb d_L_law_150 rfl (lv_at hl 0 rfl) ?_
              refine lv_iconst (v := (nI 1)) hx hb d_L_law_151 (by decide) ?_
              refine lv_iadd hx hb d_L_law_152 ?_
              refine va_sld hx hb hX hbl hbA hS hw.1 d_L_law_153 ?_
              have hw := hw.2
              refine lv_aload_n hx hb d_L_law_154 rfl (lv_at hl 3 rfl) ?_
              refine lv_iload_n hx hb d_L_law_155 rfl (lv_at hl 0 rfl) ?_
              refine lv_iconst (v := (nI 2)) hx hb d_L_law_156 (by decide) ?_
              refine lv_iadd hx hb d_L_law_157 ?_
              refine va_sld hx hb hX hbl hbA hS hw.1 d_L_law_158 ?_
              have hw := hw.2
              refine g_cVi (wr := [(h_w, .inl (cI, 8, .inl vw)), (h_r, .inl (cI, 4, .inl vr)), (h_k, .inr (1, [.ref h_kb, .int k_size, .int k_at])), (h_kb, .inl (cI, 12, .inl vkb)), (h_y, .inr (0, [.int y_hits, .int y_runOuts, .int y_bitsRead, .int y_fewestBits])), (h_o, .inr (3, [.ref h_ow, .ref h_oq, .int o_length, .int o_spent, .ref h_ob, .int o_many, .int o_at, .int o_isOut, .ref h_or, .int o_values, .int o_failures, .int o_works])), (h_ow, .inl (cI, 8, .inl vow)), (h_oq, .inl (cI, 256, .inl voq)), (h_ob, .inl (cI, 256, .inl vob)), (h_or, .inl (cI, 4, .inl vor))]) fx (c_C_feed l D cI h_c h_t h_b h_w h_r h_k h_y 256 c_latestSpent t_size t_at vb (xs ((x3 + (nI 1))).toNatClampNeg) (xs ((x3 + (nI 2))).toNatClampNeg) _ hw) mf_C_feed w_85 ⟨rfl, rfl⟩ ⟨Nat.le_of_ble_eq_true rfl, Nat.le_of_ble_eq_true rfl⟩ hN hK hA hP hD hS [0, 3, 4] [1, 2, 5, 6, 7, 8, 9, 10, 11, 12] rfl rfl rfl rfl (by decide) 0 rfl rfl rfl rfl hl.1 (Nat.le_of_ble_eq_true rfl) d_L_law_159 ⟨Nat.le_of_ble_eq_true rfl, Nat.le_of_ble_eq_true rfl⟩ (fun r_9 u H locs hw hP hD hS => ?_)
              obtain ⟨tsize_10, vb_11⟩ := u
              try dsimp only at hw
              have hP : va_P D gCl [(h_w, .inl (cI, 8, .inl vw)), (h_r, .inl (cI, 4, .inl vr)), (h_k, .inr (1, [.ref h_kb, .int k_size, .int k_at])), (h_kb, .inl (cI, 12, .inl vkb)), (h_y, .inr (0, [.int y_hits, .int y_runOuts, .int y_bitsRead, .int y_fewestBits])), (h_o, .inr (3, [.ref h_ow, .ref h_oq, .int o_length, .int o_spent, .ref h_ob, .int o_many, .int o_at, .int o_isOut, .ref h_or, .int o_values, .int o_failures, .int o_works])), (h_ow, .inl (cI, 8, .inl vow)), (h_oq, .inl (cI, 256, .inl voq)), (h_ob, .inl (cI, 256, .inl vob)), (h_or, .inl (cI, 4, .inl vor)), (h_c, .inr (2, [.ref h_w, .ref h_r, .ref h_t, .ref h_k, .ref h_y, .int c_latestSpent])), (h_t, .inr (1, [.ref h_b, .int tsize_10, .int t_at])), (h_b, .inl (cI, 256, .inl vb_11))] H := hP
              have hD : va_D A [(h_w, .inl (cI, 8, .inl vw)), (h_r, .inl (cI, 4, .inl vr)), (h_k, .inr (1, [.ref h_kb, .int k_size, .int k_at])), (h_kb, .inl (cI, 12, .inl vkb)), (h_y, .inr (0, [.int y_hits, .int y_runOuts, .int y_bitsRead, .int y_fewestBits])), (h_o, .inr (3, [.ref h_ow, .ref h_oq, .int o_length, .int o_spent, .ref h_ob, .int o_many, .int o_at, .int o_isOut, .ref h_or, .int o_values, .int o_failures, .int o_works])), (h_ow, .inl (cI, 8, .inl vow)), (h_oq, .inl (cI, 256, .inl voq)), (h_ob, .inl (cI, 256, .inl vob)), (h_or, .inl (cI, 4, .inl vor)), (h_c, .inr (2, [.ref h_w, .ref h_r, .ref h_t, .ref h_k, .ref h_y, .int c_latestSpent])), (h_t, .inr (1, [.ref h_b, .int tsize_10, .int t_at])), (h_b, .inl (cI, 256, .inl vb_11))] := hD
              refine lv_aload_n hx hb d_L_law_162 rfl (lv_at hl 1 rfl) ?_
              refine lv_aload_n hx hb d_L_law_163 rfl (lv_at hl 3 rfl) ?_
              refine lv_iload_n hx hb d_L_law_164 rfl (lv_at hl 0 rfl) ?_
              refine lv_iconst (v := (nI 1)) hx hb d_L_law_165 (by decide) ?_
              refine lv_iadd hx hb d_L_law_166 ?_
              refine va_sld hx hb hX hbl hbA hS hw.1 d_L_law_167 ?_
              have hw := hw.2
              refine lv_aload_n hx hb d_L_law_168 rfl (lv_at hl 3 rfl) ?_
              refine lv_iload_n hx hb d_L_law_169 rfl (lv_at hl 0 rfl) ?_
              refine lv_iconst (v := (nI 2)) hx hb d_L_law_170 (by decide) ?_
              refine lv_iadd hx hb d_L_law_171 ?_
              refine va_sld hx hb hX hbl hbA hS hw.1 d_L_law_172 ?_
              have hw := hw.2
              refine g_cVi (wr := [(h_w, .inl (cI, 8, .inl vw)), (h_r, .inl (cI, 4, .inl vr)), (h_k, .inr (1, [.ref h_kb, .int k_size, .int k_at])), (h_kb, .inl (cI, 12, .inl vkb)), (h_y, .inr (0, [.int y_hits, .int y_runOuts, .int y_bitsRead, .int y_fewestBits])), (h_ow, .inl (cI, 8, .inl vow)), (h_ob, .inl (cI, 256, .inl vob)), (h_or, .inl (cI, 4, .inl vor)), (h_c, .inr (2, [.ref h_w, .ref h_r, .ref h_t, .ref h_k, .ref h_y, .int c_latestSpent])), (h_t, .inr (1, [.ref h_b, .int tsize_10, .int t_at])), (h_b, .inl (cI, 256, .inl vb_11))]) fx (c_M_feed l D cI h_o h_oq h_ow h_ob h_or o_length o_spent o_many o_at o_isOut o_values o_failures o_works voq (xs ((x3 + (nI 1))).toNatClampNeg) (xs ((x3 + (nI 2))).toNatClampNeg) _ hw) mf_M_feed w_269 ⟨rfl, rfl⟩ ⟨Nat.le_of_ble_eq_true rfl, Nat.le_of_ble_eq_true rfl⟩ hN hK hA hP hD hS [5, 7] [0, 1, 2, 3, 4, 6, 8, 9, 10, 11, 12] rfl rfl rfl rfl (by decide) 0 rfl rfl rfl rfl hl.1 (Nat.le_of_ble_eq_true rfl) d_L_law_173 ⟨Nat.le_of_ble_eq_true rfl, Nat.le_of_ble_eq_true rfl⟩ (fun r_12 u H locs hw hP hD hS => ?_)
              obtain ⟨olength_13, vq_14⟩ := u
              try dsimp only at hw
              have hP : va_P D gCl [(h_w, .inl (cI, 8, .inl vw)), (h_r, .inl (cI, 4, .inl vr)), (h_k, .inr (1, [.ref h_kb, .int k_size, .int k_at])), (h_kb, .inl (cI, 12, .inl vkb)), (h_y, .inr (0, [.int y_hits, .int y_runOuts, .int y_bitsRead, .int y_fewestBits])), (h_ow, .inl (cI, 8, .inl vow)), (h_ob, .inl (cI, 256, .inl vob)), (h_or, .inl (cI, 4, .inl vor)), (h_c, .inr (2, [.ref h_w, .ref h_r, .ref h_t, .ref h_k, .ref h_y, .int c_latestSpent])), (h_t, .inr (1, [.ref h_b, .int tsize_10, .int t_at])), (h_b, .inl (cI, 256, .inl vb_11)), (h_o, .inr (3, [.ref h_ow, .ref h_oq, .int olength_13, .int o_spent, .ref h_ob, .int o_many, .int o_at, .int o_isOut, .ref h_or, .int o_values, .int o_failures, .int o_works])), (h_oq, .inl (cI, 256, .inl vq_14))] H := hP
              have hD : va_D A [(h_w, .inl (cI, 8, .inl vw)), (h_r, .inl (cI, 4, .inl vr)), (h_k, .inr (1, [.ref h_kb, .int k_size, .int k_at])), (h_kb, .inl (cI, 12, .inl vkb)), (h_y, .inr (0, [.int y_hits, .int y_runOuts, .int y_bitsRead, .int y_fewestBits])), (h_ow, .inl (cI, 8, .inl vow)), (h_ob, .inl (cI, 256, .inl vob)), (h_or, .inl (cI, 4, .inl vor)), (h_c, .inr (2, [.ref h_w, .ref h_r, .ref h_t, .ref h_k, .ref h_y, .int c_latestSpent])), (h_t, .inr (1, [.ref h_b, .int tsize_10, .int t_at])), (h_b, .inl (cI, 256, .inl vb_11)), (h_o, .inr (3, [.ref h_ow, .ref h_oq, .int olength_13, .int o_spent, .ref h_ob, .int o_many, .int o_at, .int o_isOut, .ref h_or, .int o_values, .int o_failures, .int o_works])), (h_oq, .inl (cI, 256, .inl vq_14))] := hD
              refine lv_icmp_eq (tgt := 515) hx hb d_L_law_176 (by decide) (fun c176 => ?_) (fun c176 => ?_)
              · have hw := hw.1 c176
                refine lv_iinc (v := (x3 + (nI 6))) (lv' := [(3, .int (x3 + (nI 6))), (2, .ref h_o), (1, .ref h_c), (0, .ref b_s)]) hx hb d_L_law_515 hl (k := 0) rfl rfl (by decide) rfl (fun ls hl => ?_)
                refine lv_goto (tgt := 18) hx hb d_L_law_518 (by decide) ?_
                exact ih_18 _ _ _ _ _ _ _ _ _ _ _ _ _ _ _ _ _ _ _ _ _ _ _ _ _ _ hw _ _ _ (gSubP hP [8, 0, 1, 9, 10, 2, 3, 4, 11, 5, 12, 6, 7] rfl) (hD.sub [8, 0, 1, 9, 10, 2, 3, 4, 11, 5, 12, 6, 7] rfl rfl) hS (lv_sub hl [0, 1, 2, 3] rfl)
              · have hw := hw.2 c176
                refine lv_iconst (v := (nI 0)) hx hb d_L_law_179 (by decide) ?_
                exact hw.elim
            · have hw := hw.2 c33_2
              rcases Classical.em (((xs (x3).toNatClampNeg) &&& (nI 15)) = nI 3) with c33_3 | c33_3
              · have hw := hw.1 c33_3
                refine g_sw (nI 3) (tgt := 181) hx hb d_L_law_33 c33_3 (by decide) (by decide) rfl (by decide) ?_
                refine lv_aload_n hx hb d_L_law_181 rfl (lv_at hl 2 rfl) ?_
                refine g_cVi (wr := [(h_w, .inl (cI, 8, .inl vw)), (h_r, .inl (cI, 4, .inl vr)), (h_k, .inr (1, [.ref h_kb, .int k_size, .int k_at])), (h_kb, .inl (cI, 12, .inl vkb)), (h_y, .inr (0, [.int y_hits, .int y_runOuts, .int y_bitsRead, .int y_fewestBits])), (h_o, .inr (3, [.ref h_ow, .ref h_oq, .int o_length, .int o_spent, .ref h_ob, .int o_many, .int o_at, .int o_isOut, .ref h_or, .int o_values, .int o_failures, .int o_works])), (h_ow, .inl (cI, 8, .inl vow)), (h_oq, .inl (cI, 256, .inl voq)), (h_ob, .inl (cI, 256, .inl vob)), (h_or, .inl (cI, 4, .inl vor))]) fx (c_C_left l D cI h_c h_t h_b h_w h_r h_k h_y 256 c_latestSpent t_size t_at vb _ hw) mf_C_left w_97 ⟨rfl, rfl⟩ ⟨Nat.le_of_ble_eq_true rfl, Nat.le_of_ble_eq_true rfl⟩ hN hK hA hP hD hS [0, 3, 4] [1, 2, 5, 6, 7, 8, 9, 10, 11, 12] rfl rfl rfl rfl (by decide) 0 rfl rfl rfl rfl hl.1 (Nat.le_of_ble_eq_true rfl) d_L_law_182 ⟨Nat.le_of_ble_eq_true rfl, Nat.le_of_ble_eq_true rfl⟩ (fun r_15 u H locs hw hP hD hS => ?_)
                try dsimp only at hw
                have hP : va_P D gCl [(h_w, .inl (cI, 8, .inl vw)), (h_r, .inl (cI, 4, .inl vr)), (h_k, .inr (1, [.ref h_kb, .int k_size, .int k_at])), (h_kb, .inl (cI, 12, .inl vkb)), (h_y, .inr (0, [.int y_hits, .int y_runOuts, .int y_bitsRead, .int y_fewestBits])), (h_o, .inr (3, [.ref h_ow, .ref h_oq, .int o_length, .int o_spent, .ref h_ob, .int o_many, .int o_at, .int o_isOut, .ref h_or, .int o_values, .int o_failures, .int o_works])), (h_ow, .inl (cI, 8, .inl vow)), (h_oq, .inl (cI, 256, .inl voq)), (h_ob, .inl (cI, 256, .inl vob)), (h_or, .inl (cI, 4, .inl vor)), (h_c, .inr (2, [.ref h_w, .ref h_r, .ref h_t, .ref h_k, .ref h_y, .int c_latestSpent])), (h_t, .inr (1, [.ref h_b, .int t_size, .int t_at])), (h_b, .inl (cI, 256, .inl vb))] H := hP
                have hD : va_D A [(h_w, .inl (cI, 8, .inl vw)), (h_r, .inl (cI, 4, .inl vr)), (h_k, .inr (1, [.ref h_kb, .int k_size, .int k_at])), (h_kb, .inl (cI, 12, .inl vkb)), (h_y, .inr (0, [.int y_hits, .int y_runOuts, .int y_bitsRead, .int y_fewestBits])), (h_o, .inr (3, [.ref h_ow, .ref h_oq, .int o_length, .int o_spent, .ref h_ob, .int o_many, .int o_at, .int o_isOut, .ref h_or, .int o_values, .int o_failures, .int o_works])), (h_ow, .inl (cI, 8, .inl vow)), (h_oq, .inl (cI, 256, .inl voq)), (h_ob, .inl (cI, 256, .inl vob)), (h_or, .inl (cI, 4, .inl vor)), (h_c, .inr (2, [.ref h_w, .ref h_r, .ref h_t, .ref h_k, .ref h_y, .int c_latestSpent])), (h_t, .inr (1, [.ref h_b, .int t_size, .int t_at])), (h_b, .inl (cI, 256, .inl vb))] := hD
                refine lv_aload_n hx hb d_L_law_185 rfl (lv_at hl 1 rfl) ?_
                refine g_cVi (wr := [(h_w, .inl (cI, 8, .inl vw)), (h_r, .inl (cI, 4, .inl vr)), (h_k, .inr (1, [.ref h_kb, .int k_size, .int k_at])), (h_kb, .inl (cI, 12, .inl vkb)), (h_y, .inr (0, [.int y_hits, .int y_runOuts, .int y_bitsRead, .int y_fewestBits])), (h_ow, .inl (cI, 8, .inl vow)), (h_oq, .inl (cI, 256, .inl voq)), (h_ob, .inl (cI, 256, .inl vob)), (h_or, .inl (cI, 4, .inl vor)), (h_c, .inr (2, [.ref h_w, .ref h_r, .ref h_t, .ref h_k, .ref h_y, .int c_latestSpent])), (h_t, .inr (1, [.ref h_b, .int t_size, .int t_at])), (h_b, .inl (cI, 256, .inl vb))]) fx (c_M_left l D cI h_o h_ow h_oq h_ob h_or o_length o_spent o_many o_at o_isOut o_values o_failures o_works _ hw) mf_M_left w_273 ⟨rfl, rfl⟩ ⟨Nat.le_of_ble_eq_true rfl, Nat.le_of_ble_eq_true rfl⟩ hN hK hA hP hD hS [5] [0, 1, 2, 3, 4, 6, 7, 8, 9, 10, 11, 12] rfl rfl rfl rfl (by decide) 0 rfl rfl rfl rfl hl.1 (Nat.le_of_ble_eq_true rfl) d_L_law_186 ⟨Nat.le_of_ble_eq_true rfl, Nat.le_of_ble_eq_true rfl⟩ (fun r_16 u H locs hw hP hD hS => ?_)
                try dsimp only at hw
                have hP : va_P D gCl [(h_w, .inl (cI, 8, .inl vw)), (h_r, .inl (cI, 4, .inl vr)), (h_k, .inr (1, [.ref h_kb, .int k_size, .int k_at])), (h_kb, .inl (cI, 12, .inl vkb)), (h_y, .inr (0, [.int y_hits, .int y_runOuts, .int y_bitsRead, .int y_fewestBits])), (h_ow, .inl (cI, 8, .inl vow)), (h_oq, .inl (cI, 256, .inl voq)), (h_ob, .inl (cI, 256, .inl vob)), (h_or, .inl (cI, 4, .inl vor)), (h_c, .inr (2, [.ref h_w, .ref h_r, .ref h_t, .ref h_k, .ref h_y, .int c_latestSpent])), (h_t, .inr (1, [.ref h_b, .int t_size, .int t_at])), (h_b, .inl (cI, 256, .inl vb)), (h_o, .inr (3, [.ref h_ow, .ref h_oq, .int o_length, .int o_spent, .ref h_ob, .int o_many, .int o_at, .int o_isOut, .ref h_or, .int o_values, .int o_failures, .int o_works]))] H := hP
                have hD : va_D A [(h_w, .inl (cI, 8, .inl vw)), (h_r, .inl (cI, 4, .inl vr)), (h_k, .inr (1, [.ref h_kb, .int k_size, .int k_at])), (h_kb, .inl (cI, 12, .inl vkb)), (h_y, .inr (0, [.int y_hits, .int y_runOuts, .int y_bitsRead, .int y_fewestBits])), (h_ow, .inl (cI, 8, .inl vow)), (h_oq, .inl (cI, 256, .inl voq)), (h_ob, .inl (cI, 256, .inl vob)), (h_or, .inl (cI, 4, .inl vor)), (h_c, .inr (2, [.ref h_w, .ref h_r, .ref h_t, .ref h_k, .ref h_y, .int c_latestSpent])), (h_t, .inr (1, [.ref h_b, .int t_size, .int t_at])), (h_b, .inl (cI, 256, .inl vb)), (h_o, .inr (3, [.ref h_ow, .ref h_oq, .int o_length, .int o_spent, .ref h_ob, .int o_many, .int o_at, .int o_isOut, .ref h_or, .int o_values, .int o_failures, .int o_works]))] := hD
                refine lv_icmp_eq (tgt := 515) hx hb d_L_law_189 (by decide) (fun c189 => ?_) (fun c189 => ?_)
                · have hw := hw.1 c189
                  refine lv_iinc (v := (x3 + (nI 6))) (lv' := [(3, .int (x3 + (nI 6))), (2, .ref h_o), (1, .ref h_c), (0, .ref b_s)]) hx hb d_L_law_515 hl (k := 0) rfl rfl (by decide) rfl (fun ls hl => ?_)
                  refine lv_goto (tgt := 18) hx hb d_L_law_518 (by decide) ?_
                  exact ih_18 _ _ _ _ _ _ _ _ _ _ _ _ _ _ _ _ _ _ _ _ _ _ _ _ _ _ hw _ _ _ (gSubP hP [9, 0, 1, 10, 11, 2, 3, 4, 12, 5, 6, 7, 8] rfl) (hD.sub [9, 0, 1, 10, 11, 2, 3, 4, 12, 5, 6, 7, 8] rfl rfl) hS (lv_sub hl [0, 1, 2, 3] rfl)
                · have hw := hw.2 c189
                  refine lv_iconst (v := (nI 0)) hx hb d_L_law_192 (by decide) ?_
                  exact hw.elim
              · have hw := hw.2 c33_3
                rcases Classical.em (((xs (x3).toNatClampNeg) &&& (nI 15)) = nI 4) with c33_4 | c33_4
                · have hw := hw.1 c33_4
                  refine g_sw (nI 4) (tgt := 194) hx hb d_L_law_33 c33_4 (by decide) (by decide) rfl (by decide) ?_
                  refine lv_aload_n hx hb d_L_law_194 rfl (lv_at hl 2 rfl) ?_
                  refine lv_aload_n hx hb d_L_law_195 rfl (lv_at hl 3 rfl) ?_
                  refine lv_iload_n hx hb d_L_law_196 rfl (lv_at hl 0 rfl) ?_
                  refine lv_iconst (v := (nI 1)) hx hb d_L_law_197 (by decide) ?_
                  refine lv_iadd hx hb d_L_law_198 ?_
                  refine va_sld hx hb hX hbl hbA hS hw.1 d_L_law_199 ?_
                  have hw := hw.2
                  refine lv_aload_n hx hb d_L_law_200 rfl (lv_at hl 3 rfl) ?_
                  refine lv_iload_n hx hb d_L_law_201 rfl (lv_at hl 0 rfl) ?_
                  refine lv_iconst (v := (nI 2)) hx hb d_L_law_202 (by decide) ?_
                  refine lv_iadd hx hb d_L_law_203 ?_
                  refine va_sld hx hb hX hbl hbA hS hw.1 d_L_law_204 ?_
                  have hw := hw.2
                  refine lv_aload_n hx hb d_L_law_205 rfl (lv_at hl 3 rfl) ?_
                  refine lv_iload_n hx hb d_L_law_206 rfl (lv_at hl 0 rfl) ?_
                  refine lv_iconst (v := (nI 3)) hx hb d_L_law_207 (by decide) ?_
                  refine lv_iadd hx hb d_L_law_208 ?_
                  refine va_sld hx hb hX hbl hbA hS hw.1 d_L_law_209 ?_
                  have hw := hw.2
                  refine g_cVi (wr := [(h_r, .inl (cI, 4, .inl vr)), (h_t, .inr (1, [.ref h_b, .int t_size, .int t_at])), (h_b, .inl (cI, 256, .inl vb)), (h_k, .inr (1, [.ref h_kb, .int k_size, .int k_at])), (h_kb, .inl (cI, 12, .inl vkb)), (h_y, .inr (0, [.int y_hits, .int y_runOuts, .int y_bitsRead, .int y_fewestBits])), (h_o, .inr (3, [.ref h_ow, .ref h_oq, .int o_length, .int o_spent, .ref h_ob, .int o_many, .int o_at, .int o_isOut, .ref h_or, .int o_values, .int o_failures, .int o_works])), (h_ow, .inl (cI, 8, .inl vow)), (h_oq, .inl (cI, 256, .inl voq)), (h_ob, .inl (cI, 256, .inl vob)), (h_or, .inl (cI, 4, .inl vor))]) fx (c_C_isOne l D cI h_c h_w h_r h_t h_k h_y c_latestSpent vw (xs ((x3 + (nI 1))).toNatClampNeg) (xs ((x3 + (nI 2))).toNatClampNeg) (xs ((x3 + (nI 3))).toNatClampNeg) _ hw) mf_C_isOne w_101 ⟨rfl, rfl⟩ ⟨Nat.le_of_ble_eq_true rfl, Nat.le_of_ble_eq_true rfl⟩ hN hK hA hP hD hS [0, 1] [2, 3, 4, 5, 6, 7, 8, 9, 10, 11, 12] rfl rfl rfl rfl (by decide) 0 rfl rfl rfl rfl hl.1 (Nat.le_of_ble_eq_true rfl) d_L_law_210 ⟨Nat.le_of_ble_eq_true rfl, Nat.le_of_ble_eq_true rfl⟩ (fun r_17 u H locs hw hP hD hS => ?_)
                  try dsimp only at hw
                  have hP : va_P D gCl [(h_r, .inl (cI, 4, .inl vr)), (h_t, .inr (1, [.ref h_b, .int t_size, .int t_at])), (h_b, .inl (cI, 256, .inl vb)), (h_k, .inr (1, [.ref h_kb, .int k_size, .int k_at])), (h_kb, .inl (cI, 12, .inl vkb)), (h_y, .inr (0, [.int y_hits, .int y_runOuts, .int y_bitsRead, .int y_fewestBits])), (h_o, .inr (3, [.ref h_ow, .ref h_oq, .int o_length, .int o_spent, .ref h_ob, .int o_many, .int o_at, .int o_isOut, .ref h_or, .int o_values, .int o_failures, .int o_works])), (h_ow, .inl (cI, 8, .inl vow)), (h_oq, .inl (cI, 256, .inl voq)), (h_ob, .inl (cI, 256, .inl vob)), (h_or, .inl (cI, 4, .inl vor)), (h_c, .inr (2, [.ref h_w, .ref h_r, .ref h_t, .ref h_k, .ref h_y, .int c_latestSpent])), (h_w, .inl (cI, 8, .inl vw))] H := hP
                  have hD : va_D A [(h_r, .inl (cI, 4, .inl vr)), (h_t, .inr (1, [.ref h_b, .int t_size, .int t_at])), (h_b, .inl (cI, 256, .inl vb)), (h_k, .inr (1, [.ref h_kb, .int k_size, .int k_at])), (h_kb, .inl (cI, 12, .inl vkb)), (h_y, .inr (0, [.int y_hits, .int y_runOuts, .int y_bitsRead, .int y_fewestBits])), (h_o, .inr (3, [.ref h_ow, .ref h_oq, .int o_length, .int o_spent, .ref h_ob, .int o_many, .int o_at, .int o_isOut, .ref h_or, .int o_values, .int o_failures, .int o_works])), (h_ow, .inl (cI, 8, .inl vow)), (h_oq, .inl (cI, 256, .inl voq)), (h_ob, .inl (cI, 256, .inl vob)), (h_or, .inl (cI, 4, .inl vor)), (h_c, .inr (2, [.ref h_w, .ref h_r, .ref h_t, .ref h_k, .ref h_y, .int c_latestSpent])), (h_w, .inl (cI, 8, .inl vw))] := hD
                  refine lv_aload_n hx hb d_L_law_213 rfl (lv_at hl 1 rfl) ?_
                  refine lv_aload_n hx hb d_L_law_214 rfl (lv_at hl 3 rfl) ?_
                  refine lv_iload_n hx hb d_L_law_215 rfl (lv_at hl 0 rfl) ?_
                  refine lv_iconst (v := (nI 1)) hx hb d_L_law_216 (by decide) ?_
                  refine lv_iadd hx hb d_L_law_217 ?_
                  refine va_sld hx hb hX hbl hbA hS hw.1 d_L_law_218 ?_
                  have hw := hw.2
                  refine lv_aload_n hx hb d_L_law_219 rfl (lv_at hl 3 rfl) ?_
                  refine lv_iload_n hx hb d_L_law_220 rfl (lv_at hl 0 rfl) ?_
                  refine lv_iconst (v := (nI 2)) hx hb d_L_law_221 (by decide) ?_
                  refine lv_iadd hx hb d_L_law_222 ?_
                  refine va_sld hx hb hX hbl hbA hS hw.1 d_L_law_223 ?_
                  have hw := hw.2
                  refine lv_aload_n hx hb d_L_law_224 rfl (lv_at hl 3 rfl) ?_
                  refine lv_iload_n hx hb d_L_law_225 rfl (lv_at hl 0 rfl) ?_
                  refine lv_iconst (v := (nI 3)) hx hb d_L_law_226 (by decide) ?_
                  refine lv_iadd hx hb d_L_law_227 ?_
                  refine va_sld hx hb hX hbl hbA hS hw.1 d_L_law_228 ?_
                  have hw := hw.2
                  refine g_cVi (wr := [(h_r, .inl (cI, 4, .inl vr)), (h_t, .inr (1, [.ref h_b, .int t_size, .int t_at])), (h_b, .inl (cI, 256, .inl vb)), (h_k, .inr (1, [.ref h_kb, .int k_size, .int k_at])), (h_kb, .inl (cI, 12, .inl vkb)), (h_y, .inr (0, [.int y_hits, .int y_runOuts, .int y_bitsRead, .int y_fewestBits])), (h_oq, .inl (cI, 256, .inl voq)), (h_ob, .inl (cI, 256, .inl vob)), (h_or, .inl (cI, 4, .inl vor)), (h_c, .inr (2, [.ref h_w, .ref h_r, .ref h_t, .ref h_k, .ref h_y, .int c_latestSpent])), (h_w, .inl (cI, 8, .inl vw))]) fx (c_M_isOne l D cI h_o h_ow h_oq h_ob h_or o_length o_spent o_many o_at o_isOut o_values o_failures o_works vow (xs ((x3 + (nI 1))).toNatClampNeg) (xs ((x3 + (nI 2))).toNatClampNeg) (xs ((x3 + (nI 3))).toNatClampNeg) _ hw) mf_M_isOne w_277 ⟨rfl, rfl⟩ ⟨Nat.le_of_ble_eq_true rfl, Nat.le_of_ble_eq_true rfl⟩ hN hK hA hP hD hS [6, 7] [0, 1, 2, 3, 4, 5, 8, 9, 10, 11, 12] rfl rfl rfl rfl (by decide) 0 rfl rfl rfl rfl hl.1 (Nat.le_of_ble_eq_true rfl) d_L_law_229 ⟨Nat.le_of_ble_eq_true rfl, Nat.le_of_ble_eq_true rfl⟩ (fun r_18 u H locs hw hP hD hS => ?_)
                  try dsimp only at hw
                  have hP : va_P D gCl [(h_r, .inl (cI, 4, .inl vr)), (h_t, .inr (1, [.ref h_b, .int t_size, .int t_at])), (h_b, .inl (cI, 256, .inl vb)), (h_k, .inr (1, [.ref h_kb, .int k_size, .int k_at])), (h_kb, .inl (cI, 12, .inl vkb)), (h_y, .inr (0, [.int y_hits, .int y_runOuts, .int y_bitsRead, .int y_fewestBits])), (h_oq, .inl (cI, 256, .inl voq)), (h_ob, .inl (cI, 256, .inl vob)), (h_or, .inl (cI, 4, .inl vor)), (h_c, .inr (2, [.ref h_w, .ref h_r, .ref h_t, .ref h_k, .ref h_y, .int c_latestSpent])), (h_w, .inl (cI, 8, .inl vw)), (h_o, .inr (3, [.ref h_ow, .ref h_oq, .int o_length, .int o_spent, .ref h_ob, .int o_many, .int o_at, .int o_isOut, .ref h_or, .int o_values, .int o_failures, .int o_works])), (h_ow, .inl (cI, 8, .inl vow))] H := hP
                  have hD : va_D A [(h_r, .inl (cI, 4, .inl vr)), (h_t, .inr (1, [.ref h_b, .int t_size, .int t_at])), (h_b, .inl (cI, 256, .inl vb)), (h_k, .inr (1, [.ref h_kb, .int k_size, .int k_at])), (h_kb, .inl (cI, 12, .inl vkb)), (h_y, .inr (0, [.int y_hits, .int y_runOuts, .int y_bitsRead, .int y_fewestBits])), (h_oq, .inl (cI, 256, .inl voq)), (h_ob, .inl (cI, 256, .inl vob)), (h_or, .inl (cI, 4, .inl vor)), (h_c, .inr (2, [.ref h_w, .ref h_r, .ref h_t, .ref h_k, .ref h_y, .int c_latestSpent])), (h_w, .inl (cI, 8, .inl vw)), (h_o, .inr (3, [.ref h_ow, .ref h_oq, .int o_length, .int o_spent, .ref h_ob, .int o_many, .int o_at, .int o_isOut, .ref h_or, .int o_values, .int o_failures, .int o_works])), (h_ow, .inl (cI, 8, .inl vow))] := hD
                  refine lv_icmp_eq (tgt := 515) hx hb d_L_law_232 (by decide) (fun c232 => ?_) (fun c232 => ?_)
                  · have hw := hw.1 c232
                    refine lv_iinc (v := (x3 + (nI 6))) (lv' := [(3, .int (x3 + (nI 6))), (2, .ref h_o), (1, .ref h_c), (0, .ref b_s)]) hx hb d_L_law_515 hl (k := 0) rfl rfl (by decide) rfl (fun ls hl => ?_)
                    refine lv_goto (tgt := 18) hx hb d_L_law_518 (by decide) ?_
                    exact ih_18 _ _ _ _ _ _ _ _ _ _ _ _ _ _ _ _ _ _ _ _ _ _ _ _ _ _ hw _ _ _ (gSubP hP [9, 10, 0, 1, 2, 3, 4, 5, 11, 12, 6, 7, 8] rfl) (hD.sub [9, 10, 0, 1, 2, 3, 4, 5, 11, 12, 6, 7, 8] rfl rfl) hS (lv_sub hl [0, 1, 2, 3] rfl)
                  · have hw := hw.2 c232
                    refine lv_iconst (v := (nI 0)) hx hb d_L_law_235 (by decide) ?_
                    exact hw.elim
                · have hw := hw.2 c33_4
                  rcases Classical.em (((xs (x3).toNatClampNeg) &&& (nI 15)) = nI 5) with c33_5 | c33_5
                  · have hw := hw.1 c33_5
                    refine g_sw (nI 5) (tgt := 237) hx hb d_L_law_33 c33_5 (by decide) (by decide) rfl (by decide) ?_
                    refine lv_aload_n hx hb d_L_law_237 rfl (lv_at hl 2 rfl) ?_
                    refine lv_aload_n hx hb d_L_law_238 rfl (lv_at hl 3 rfl) ?_
                    refine lv_iload_n hx hb d_L_law_239 rfl (lv_at hl 0 rfl) ?_
                    refine lv_iconst (v := (nI 1)) hx hb d_L_law_240 (by decide) ?_
                    refine lv_iadd hx hb d_L_law_241 ?_
                    refine va_sld hx hb hX hbl hbA hS hw.1 d_L_law_242 ?_
                    have hw := hw.2
                    refine lv_aload_n hx hb d_L_law_243 rfl (lv_at hl 3 rfl) ?_
                    refine lv_iload_n hx hb d_L_law_244 rfl (lv_at hl 0 rfl) ?_
                    refine lv_iconst (v := (nI 2)) hx hb d_L_law_245 (by decide) ?_
                    refine lv_iadd hx hb d_L_law_246 ?_
                    refine va_sld hx hb hX hbl hbA hS hw.1 d_L_law_247 ?_
                    have hw := hw.2
                    refine lv_aload_n hx hb d_L_law_248 rfl (lv_at hl 3 rfl) ?_
                    refine lv_iload_n hx hb d_L_law_249 rfl (lv_at hl 0 rfl) ?_
                    refine lv_iconst (v := (nI 3)) hx hb d_L_law_250 (by decide) ?_
                    refine lv_iadd hx hb d_L_law_251 ?_
                    refine va_sld hx hb hX hbl hbA hS hw.1 d_L_law_252 ?_
                    have hw := hw.2
                    refine g_cVi (wr := [(h_k, .inr (1, [.ref h_kb, .int k_size, .int k_at])), (h_kb, .inl (cI, 12, .inl vkb)), (h_y, .inr (0, [.int y_hits, .int y_runOuts, .int y_bitsRead, .int y_fewestBits])), (h_o, .inr (3, [.ref h_ow, .ref h_oq, .int o_length, .int o_spent, .ref h_ob, .int o_many, .int o_at, .int o_isOut, .ref h_or, .int o_values, .int o_failures, .int o_works])), (h_ow, .inl (cI, 8, .inl vow)), (h_oq, .inl (cI, 256, .inl voq)), (h_ob, .inl (cI, 256, .inl vob)), (h_or, .inl (cI, 4, .inl vor))]) fx (c_C_draw l D cI h_c h_w h_r h_t h_b h_k h_y 256 c_latestSpent vw vr t_size t_at vb (xs ((x3 + (nI 1))).toNatClampNeg) (xs ((x3 + (nI 2))).toNatClampNeg) (xs ((x3 + (nI 3))).toNatClampNeg) _ hw) mf_C_draw w_109 ⟨rfl, rfl⟩ ⟨Nat.le_of_ble_eq_true rfl, Nat.le_of_ble_eq_true rfl⟩ hN hK hA hP hD hS [0, 1, 2, 3, 4] [5, 6, 7, 8, 9, 10, 11, 12] rfl rfl rfl rfl (by decide) 0 rfl rfl rfl rfl hl.1 (Nat.le_of_ble_eq_true rfl) d_L_law_253 ⟨Nat.le_of_ble_eq_true rfl, Nat.le_of_ble_eq_true rfl⟩ (fun r_19 u H locs hw hP hD hS => ?_)
                    obtain ⟨clatestSpent_20, vr_21, tsize_22, tat_23, vb_24⟩ := u
                    try dsimp only at hw
                    have hP : va_P D gCl [(h_k, .inr (1, [.ref h_kb, .int k_size, .int k_at])), (h_kb, .inl (cI, 12, .inl vkb)), (h_y, .inr (0, [.int y_hits, .int y_runOuts, .int y_bitsRead, .int y_fewestBits])), (h_o, .inr (3, [.ref h_ow, .ref h_oq, .int o_length, .int o_spent, .ref h_ob, .int o_many, .int o_at, .int o_isOut, .ref h_or, .int o_values, .int o_failures, .int o_works])), (h_ow, .inl (cI, 8, .inl vow)), (h_oq, .inl (cI, 256, .inl voq)), (h_ob, .inl (cI, 256, .inl vob)), (h_or, .inl (cI, 4, .inl vor)), (h_c, .inr (2, [.ref h_w, .ref h_r, .ref h_t, .ref h_k, .ref h_y, .int clatestSpent_20])), (h_w, .inl (cI, 8, .inl vw)), (h_r, .inl (cI, 4, .inl vr_21)), (h_t, .inr (1, [.ref h_b, .int tsize_22, .int tat_23])), (h_b, .inl (cI, 256, .inl vb_24))] H := hP
                    have hD : va_D A [(h_k, .inr (1, [.ref h_kb, .int k_size, .int k_at])), (h_kb, .inl (cI, 12, .inl vkb)), (h_y, .inr (0, [.int y_hits, .int y_runOuts, .int y_bitsRead, .int y_fewestBits])), (h_o, .inr (3, [.ref h_ow, .ref h_oq, .int o_length, .int o_spent, .ref h_ob, .int o_many, .int o_at, .int o_isOut, .ref h_or, .int o_values, .int o_failures, .int o_works])), (h_ow, .inl (cI, 8, .inl vow)), (h_oq, .inl (cI, 256, .inl voq)), (h_ob, .inl (cI, 256, .inl vob)), (h_or, .inl (cI, 4, .inl vor)), (h_c, .inr (2, [.ref h_w, .ref h_r, .ref h_t, .ref h_k, .ref h_y, .int clatestSpent_20])), (h_w, .inl (cI, 8, .inl vw)), (h_r, .inl (cI, 4, .inl vr_21)), (h_t, .inr (1, [.ref h_b, .int tsize_22, .int tat_23])), (h_b, .inl (cI, 256, .inl vb_24))] := hD
                    refine lv_aload_n hx hb d_L_law_256 rfl (lv_at hl 1 rfl) ?_
                    refine lv_aload_n hx hb d_L_law_257 rfl (lv_at hl 3 rfl) ?_
                    refine lv_iload_n hx hb d_L_law_258 rfl (lv_at hl 0 rfl) ?_
                    refine lv_iconst (v := (nI 1)) hx hb d_L_law_259 (by decide) ?_
                    refine lv_iadd hx hb d_L_law_260 ?_
                    refine va_sld hx hb hX hbl hbA hS hw.1 d_L_law_261 ?_
                    have hw := hw.2
                    refine lv_aload_n hx hb d_L_law_262 rfl (lv_at hl 3 rfl) ?_
                    refine lv_iload_n hx hb d_L_law_263 rfl (lv_at hl 0 rfl) ?_
                    refine lv_iconst (v := (nI 2)) hx hb d_L_law_264 (by decide) ?_
                    refine lv_iadd hx hb d_L_law_265 ?_
                    refine va_sld hx hb hX hbl hbA hS hw.1 d_L_law_266 ?_
                    have hw := hw.2
                    refine lv_aload_n hx hb d_L_law_267 rfl (lv_at hl 3 rfl) ?_
                    refine lv_iload_n hx hb d_L_law_268 rfl (lv_at hl 0 rfl) ?_
                    refine lv_iconst (v := (nI 3)) hx hb d_L_law_269 (by decide) ?_
                    refine lv_iadd hx hb d_L_law_270 ?_
                    refine va_sld hx hb hX hbl hbA hS hw.1 d_L_law_271 ?_
                    have hw := hw.2
                    refine g_cVi (wr := [(h_k, .inr (1, [.ref h_kb, .int k_size, .int k_at])), (h_kb, .inl (cI, 12, .inl vkb)), (h_y, .inr (0, [.int y_hits, .int y_runOuts, .int y_bitsRead, .int y_fewestBits])), (h_c, .inr (2, [.ref h_w, .ref h_r, .ref h_t, .ref h_k, .ref h_y, .int clatestSpent_20])), (h_w, .inl (cI, 8, .inl vw)), (h_r, .inl (cI, 4, .inl vr_21)), (h_t, .inr (1, [.ref h_b, .int tsize_22, .int tat_23])), (h_b, .inl (cI, 256, .inl vb_24))]) fx (c_M_draw l D cI h_o h_ob h_or h_ow h_oq o_length o_spent o_many o_at o_isOut o_values o_failures o_works vob vor vow voq (xs ((x3 + (nI 1))).toNatClampNeg) (xs ((x3 + (nI 2))).toNatClampNeg) (xs ((x3 + (nI 3))).toNatClampNeg) _ hw) mf_M_draw w_285 ⟨rfl, rfl⟩ ⟨Nat.le_of_ble_eq_true rfl, Nat.le_of_ble_eq_true rfl⟩ hN hK hA hP hD hS [3, 6, 7, 4, 5] [0, 1, 2, 8, 9, 10, 11, 12] rfl rfl rfl rfl (by decide) 0 rfl rfl rfl rfl hl.1 (Nat.le_of_ble_eq_true rfl) d_L_law_272 ⟨Nat.le_of_ble_eq_true rfl, Nat.le_of_ble_eq_true rfl⟩ (fun r_25 u H locs hw hP hD hS => ?_)
                    obtain ⟨olength_26, ospent_27, omany_28, oat_29, oisOut_30, vb_31, vr_32, vq_33⟩ := u
                    try dsimp only at hw
                    have hP : va_P D gCl [(h_k, .inr (1, [.ref h_kb, .int k_size, .int k_at])), (h_kb, .inl (cI, 12, .inl vkb)), (h_y, .inr (0, [.int y_hits, .int y_runOuts, .int y_bitsRead, .int y_fewestBits])), (h_c, .inr (2, [.ref h_w, .ref h_r, .ref h_t, .ref h_k, .ref h_y, .int clatestSpent_20])), (h_w, .inl (cI, 8, .inl vw)), (h_r, .inl (cI, 4, .inl vr_21)), (h_t, .inr (1, [.ref h_b, .int tsize_22, .int tat_23])), (h_b, .inl (cI, 256, .inl vb_24)), (h_o, .inr (3, [.ref h_ow, .ref h_oq, .int olength_26, .int ospent_27, .ref h_ob, .int omany_28, .int oat_29, .int oisOut_30, .ref h_or, .int o_values, .int o_failures, .int o_works])), (h_ob, .inl (cI, 256, .inl vb_31)), (h_or, .inl (cI, 4, .inl vr_32)), (h_ow, .inl (cI, 8, .inl vow)), (h_oq, .inl (cI, 256, .inl vq_33))] H := hP
                    have hD : va_D A [(h_k, .inr (1, [.ref h_kb, .int k_size, .int k_at])), (h_kb, .inl (cI, 12, .inl vkb)), (h_y, .inr (0, [.int y_hits, .int y_runOuts, .int y_bitsRead, .int y_fewestBits])), (h_c, .inr (2, [.ref h_w, .ref h_r, .ref h_t, .ref h_k, .ref h_y, .int clatestSpent_20])), (h_w, .inl (cI, 8, .inl vw)), (h_r, .inl (cI, 4, .inl vr_21)), (h_t, .inr (1, [.ref h_b, .int tsize_22, .int tat_23])), (h_b, .inl (cI, 256, .inl vb_24)), (h_o, .inr (3, [.ref h_ow, .ref h_oq, .int olength_26, .int ospent_27, .ref h_ob, .int omany_28, .int oat_29, .int oisOut_30, .ref h_or, .int o_values, .int o_failures, .int o_works])), (h_ob, .inl (cI, 256, .inl vb_31)), (h_or, .inl (cI, 4, .inl vr_32)), (h_ow, .inl (cI, 8, .inl vow)), (h_oq, .inl (cI, 256, .inl vq_33))] := hD
                    refine lv_icmp_eq (tgt := 515) hx hb d_L_law_275 (by decide) (fun c275 => ?_) (fun c275 => ?_)
                    · have hw := hw.1 c275
                      refine lv_iinc (v := (x3 + (nI 6))) (lv' := [(3, .int (x3 + (nI 6))), (2, .ref h_o), (1, .ref h_c), (0, .ref b_s)]) hx hb d_L_law_515 hl (k := 0) rfl rfl (by decide) rfl (fun ls hl => ?_)
                      refine lv_goto (tgt := 18) hx hb d_L_law_518 (by decide) ?_
                      exact ih_18 _ _ _ _ _ _ _ _ _ _ _ _ _ _ _ _ _ _ _ _ _ _ _ _ _ _ hw _ _ _ (gSubP hP [3, 4, 5, 6, 7, 0, 1, 2, 8, 11, 12, 9, 10] rfl) (hD.sub [3, 4, 5, 6, 7, 0, 1, 2, 8, 11, 12, 9, 10] rfl rfl) hS (lv_sub hl [0, 1, 2, 3] rfl)
                    · have hw := hw.2 c275
                      refine lv_iconst (v := (nI 0)) hx hb d_L_law_278 (by decide) ?_
                      exact hw.elim
                  · have hw := hw.2 c33_5
                    rcases Classical.em (((xs (x3).toNatClampNeg) &&& (nI 15)) = nI 6) with c33_6 | c33_6
                    · have hw := hw.1 c33_6
                      refine g_sw (nI 6) (tgt := 280) hx hb d_L_law_33 c33_6 (by decide) (by decide) rfl (by decide) ?_
                      refine lv_aload_n hx hb d_L_law_280 rfl (lv_at hl 2 rfl) ?_
                      refine g_cVi (wr := [(h_w, .inl (cI, 8, .inl vw)), (h_r, .inl (cI, 4, .inl vr)), (h_t, .inr (1, [.ref h_b, .int t_size, .int t_at])), (h_b, .inl (cI, 256, .inl vb)), (h_k, .inr (1, [.ref h_kb, .int k_size, .int k_at])), (h_kb, .inl (cI, 12, .inl vkb)), (h_y, .inr (0, [.int y_hits, .int y_runOuts, .int y_bitsRead, .int y_fewestBits])), (h_o, .inr (3, [.ref h_ow, .ref h_oq, .int o_length, .int o_spent, .ref h_ob, .int o_many, .int o_at, .int o_isOut, .ref h_or, .int o_values, .int o_failures, .int o_works])), (h_ow, .inl (cI, 8, .inl vow)), (h_oq, .inl (cI, 256, .inl voq)), (h_ob, .inl (cI, 256, .inl vob)), (h_or, .inl (cI, 4, .inl vor))]) fx (c_C_spent l D cI h_c h_w h_r h_t h_k h_y c_latestSpent _ hw) mf_C_spent w_175 ⟨rfl, rfl⟩ ⟨Nat.le_of_ble_eq_true rfl, Nat.le_of_ble_eq_true rfl⟩ hN hK hA hP hD hS [0] [1, 2, 3, 4, 5, 6, 7, 8, 9, 10, 11, 12] rfl rfl rfl rfl (by decide) 0 rfl rfl rfl rfl hl.1 (Nat.le_of_ble_eq_true rfl) d_L_law_281 ⟨Nat.le_of_ble_eq_true rfl, Nat.le_of_ble_eq_true rfl⟩ (fun r_34 u H locs hw hP hD hS => ?_)
                      try dsimp only at hw
                      have hP : va_P D gCl [(h_w, .inl (cI, 8, .inl vw)), (h_r, .inl (cI, 4, .inl vr)), (h_t, .inr (1, [.ref h_b, .int t_size, .int t_at])), (h_b, .inl (cI, 256, .inl vb)), (h_k, .inr (1, [.ref h_kb, .int k_size, .int k_at])), (h_kb, .inl (cI, 12, .inl vkb)), (h_y, .inr (0, [.int y_hits, .int y_runOuts, .int y_bitsRead, .int y_fewestBits])), (h_o, .inr (3, [.ref h_ow, .ref h_oq, .int o_length, .int o_spent, .ref h_ob, .int o_many, .int o_at, .int o_isOut, .ref h_or, .int o_values, .int o_failures, .int o_works])), (h_ow, .inl (cI, 8, .inl vow)), (h_oq, .inl (cI, 256, .inl voq)), (h_ob, .inl (cI, 256, .inl vob)), (h_or, .inl (cI, 4, .inl vor)), (h_c, .inr (2, [.ref h_w, .ref h_r, .ref h_t, .ref h_k, .ref h_y, .int c_latestSpent]))] H := hP
                      have hD : va_D A [(h_w, .inl (cI, 8, .inl vw)), (h_r, .inl (cI, 4, .inl vr)), (h_t, .inr (1, [.ref h_b, .int t_size, .int t_at])), (h_b, .inl (cI, 256, .inl vb)), (h_k, .inr (1, [.ref h_kb, .int k_size, .int k_at])), (h_kb, .inl (cI, 12, .inl vkb)), (h_y, .inr (0, [.int y_hits, .int y_runOuts, .int y_bitsRead, .int y_fewestBits])), (h_o, .inr (3, [.ref h_ow, .ref h_oq, .int o_length, .int o_spent, .ref h_ob, .int o_many, .int o_at, .int o_isOut, .ref h_or, .int o_values, .int o_failures, .int o_works])), (h_ow, .inl (cI, 8, .inl vow)), (h_oq, .inl (cI, 256, .inl voq)), (h_ob, .inl (cI, 256, .inl vob)), (h_or, .inl (cI, 4, .inl vor)), (h_c, .inr (2, [.ref h_w, .ref h_r, .ref h_t, .ref h_k, .ref h_y, .int c_latestSpent]))] := hD
                      refine lv_aload_n hx hb d_L_law_284 rfl (lv_at hl 1 rfl) ?_
                      refine g_cVi (wr := [(h_w, .inl (cI, 8, .inl vw)), (h_r, .inl (cI, 4, .inl vr)), (h_t, .inr (1, [.ref h_b, .int t_size, .int t_at])), (h_b, .inl (cI, 256, .inl vb)), (h_k, .inr (1, [.ref h_kb, .int k_size, .int k_at])), (h_kb, .inl (cI, 12, .inl vkb)), (h_y, .inr (0, [.int y_hits, .int y_runOuts, .int y_bitsRead, .int y_fewestBits])), (h_ow, .inl (cI, 8, .inl vow)), (h_oq, .inl (cI, 256, .inl voq)), (h_ob, .inl (cI, 256, .inl vob)), (h_or, .inl (cI, 4, .inl vor)), (h_c, .inr (2, [.ref h_w, .ref h_r, .ref h_t, .ref h_k, .ref h_y, .int c_latestSpent]))]) fx (c_M_spent l D cI h_o h_ow h_oq h_ob h_or o_length o_spent o_many o_at o_isOut o_values o_failures o_works _ hw) mf_M_spent w_322 ⟨rfl, rfl⟩ ⟨Nat.le_of_ble_eq_true rfl, Nat.le_of_ble_eq_true rfl⟩ hN hK hA hP hD hS [7] [0, 1, 2, 3, 4, 5, 6, 8, 9, 10, 11, 12] rfl rfl rfl rfl (by decide) 0 rfl rfl rfl rfl hl.1 (Nat.le_of_ble_eq_true rfl) d_L_law_285 ⟨Nat.le_of_ble_eq_true rfl, Nat.le_of_ble_eq_true rfl⟩ (fun r_35 u H locs hw hP hD hS => ?_)
                      try dsimp only at hw
                      have hP : va_P D gCl [(h_w, .inl (cI, 8, .inl vw)), (h_r, .inl (cI, 4, .inl vr)), (h_t, .inr (1, [.ref h_b, .int t_size, .int t_at])), (h_b, .inl (cI, 256, .inl vb)), (h_k, .inr (1, [.ref h_kb, .int k_size, .int k_at])), (h_kb, .inl (cI, 12, .inl vkb)), (h_y, .inr (0, [.int y_hits, .int y_runOuts, .int y_bitsRead, .int y_fewestBits])), (h_ow, .inl (cI, 8, .inl vow)), (h_oq, .inl (cI, 256, .inl voq)), (h_ob, .inl (cI, 256, .inl vob)), (h_or, .inl (cI, 4, .inl vor)), (h_c, .inr (2, [.ref h_w, .ref h_r, .ref h_t, .ref h_k, .ref h_y, .int c_latestSpent])), (h_o, .inr (3, [.ref h_ow, .ref h_oq, .int o_length, .int o_spent, .ref h_ob, .int o_many, .int o_at, .int o_isOut, .ref h_or, .int o_values, .int o_failures, .int o_works]))] H := hP
                      have hD : va_D A [(h_w, .inl (cI, 8, .inl vw)), (h_r, .inl (cI, 4, .inl vr)), (h_t, .inr (1, [.ref h_b, .int t_size, .int t_at])), (h_b, .inl (cI, 256, .inl vb)), (h_k, .inr (1, [.ref h_kb, .int k_size, .int k_at])), (h_kb, .inl (cI, 12, .inl vkb)), (h_y, .inr (0, [.int y_hits, .int y_runOuts, .int y_bitsRead, .int y_fewestBits])), (h_ow, .inl (cI, 8, .inl vow)), (h_oq, .inl (cI, 256, .inl voq)), (h_ob, .inl (cI, 256, .inl vob)), (h_or, .inl (cI, 4, .inl vor)), (h_c, .inr (2, [.ref h_w, .ref h_r, .ref h_t, .ref h_k, .ref h_y, .int c_latestSpent])), (h_o, .inr (3, [.ref h_ow, .ref h_oq, .int o_length, .int o_spent, .ref h_ob, .int o_many, .int o_at, .int o_isOut, .ref h_or, .int o_values, .int o_failures, .int o_works]))] := hD
                      refine lv_icmp_eq (tgt := 515) hx hb d_L_law_288 (by decide) (fun c288 => ?_) (fun c288 => ?_)
                      · have hw := hw.1 c288
                        refine lv_iinc (v := (x3 + (nI 6))) (lv' := [(3, .int (x3 + (nI 6))), (2, .ref h_o), (1, .ref h_c), (0, .ref b_s)]) hx hb d_L_law_515 hl (k := 0) rfl rfl (by decide) rfl (fun ls hl => ?_)
                        refine lv_goto (tgt := 18) hx hb d_L_law_518 (by decide) ?_
                        exact ih_18 _ _ _ _ _ _ _ _ _ _ _ _ _ _ _ _ _ _ _ _ _ _ _ _ _ _ hw _ _ _ (gSubP hP [11, 0, 1, 2, 3, 4, 5, 6, 12, 7, 8, 9, 10] rfl) (hD.sub [11, 0, 1, 2, 3, 4, 5, 6, 12, 7, 8, 9, 10] rfl rfl) hS (lv_sub hl [0, 1, 2, 3] rfl)
                      · have hw := hw.2 c288
                        refine lv_iconst (v := (nI 0)) hx hb d_L_law_291 (by decide) ?_
                        exact hw.elim
                    · have hw := hw.2 c33_6
                      rcases Classical.em (((xs (x3).toNatClampNeg) &&& (nI 15)) = nI 7) with c33_7 | c33_7
                      · have hw := hw.1 c33_7
                        refine g_sw (nI 7) (tgt := 293) hx hb d_L_law_33 c33_7 (by decide) (by decide) rfl (by decide) ?_
                        refine lv_aload_n hx hb d_L_law_293 rfl (lv_at hl 2 rfl) ?_
                        refine lv_aload_n hx hb d_L_law_294 rfl (lv_at hl 3 rfl) ?_
                        refine lv_iload_n hx hb d_L_law_295 rfl (lv_at hl 0 rfl) ?_
                        refine lv_iconst (v := (nI 1)) hx hb d_L_law_296 (by decide) ?_
                        refine lv_iadd hx hb d_L_law_297 ?_
                        refine va_sld hx hb hX hbl hbA hS hw.1 d_L_law_298 ?_
                        have hw := hw.2
                        refine lv_aload_n hx hb d_L_law_299 rfl (lv_at hl 3 rfl) ?_
                        refine lv_iload_n hx hb d_L_law_300 rfl (lv_at hl 0 rfl) ?_
                        refine lv_iconst (v := (nI 2)) hx hb d_L_law_301 (by decide) ?_
                        refine lv_iadd hx hb d_L_law_302 ?_
                        refine va_sld hx hb hX hbl hbA hS hw.1 d_L_law_303 ?_
                        have hw := hw.2
                        refine lv_aload_n hx hb d_L_law_304 rfl (lv_at hl 3 rfl) ?_
                        refine lv_iload_n hx hb d_L_law_305 rfl (lv_at hl 0 rfl) ?_
                        refine lv_iconst (v := (nI 3)) hx hb d_L_law_306 (by decide) ?_
                        refine lv_iadd hx hb d_L_law_307 ?_
                        refine va_sld hx hb hX hbl hbA hS hw.1 d_L_law_308 ?_
                        have hw := hw.2
                        refine lv_aload_n hx hb d_L_law_309 rfl (lv_at hl 3 rfl) ?_
                        refine lv_iload_n hx hb d_L_law_310 rfl (lv_at hl 0 rfl) ?_
                        refine lv_iconst (v := (nI 4)) hx hb d_L_law_311 (by decide) ?_
                        refine lv_iadd hx hb d_L_law_312 ?_
                        refine va_sld hx hb hX hbl hbA hS hw.1 d_L_law_313 ?_
                        have hw := hw.2
                        refine lv_aload_n hx hb d_L_law_314 rfl (lv_at hl 3 rfl) ?_
                        refine lv_iload_n hx hb d_L_law_315 rfl (lv_at hl 0 rfl) ?_
                        refine lv_iconst (v := (nI 5)) hx hb d_L_law_316 (by decide) ?_
                        refine lv_iadd hx hb d_L_law_317 ?_
                        refine va_sld hx hb hX hbl hbA hS hw.1 d_L_law_318 ?_
                        have hw := hw.2
                        refine g_cVi (wr := [(h_t, .inr (1, [.ref h_b, .int t_size, .int t_at])), (h_b, .inl (cI, 256, .inl vb)), (h_o, .inr (3, [.ref h_ow, .ref h_oq, .int o_length, .int o_spent, .ref h_ob, .int o_many, .int o_at, .int o_isOut, .ref h_or, .int o_values, .int o_failures, .int o_works])), (h_ow, .inl (cI, 8, .inl vow)), (h_oq, .inl (cI, 256, .inl voq)), (h_ob, .inl (cI, 256, .inl vob)), (h_or, .inl (cI, 4, .inl vor))]) fx (c_C_count l D cI h_c h_w h_r h_k h_kb h_y h_t 12 c_latestSpent vw vr k_size k_at vkb y_hits y_runOuts y_bitsRead y_fewestBits (xs ((x3 + (nI 1))).toNatClampNeg) (xs ((x3 + (nI 2))).toNatClampNeg) (xs ((x3 + (nI 3))).toNatClampNeg) (xs ((x3 + (nI 4))).toNatClampNeg) (xs ((x3 + (nI 5))).toNatClampNeg) _ hw) mf_C_count w_179 ⟨rfl, rfl⟩ ⟨Nat.le_of_ble_eq_true rfl, Nat.le_of_ble_eq_true rfl⟩ hN hK hA hP hD hS [0, 1, 2, 5, 6, 7] [3, 4, 8, 9, 10, 11, 12] rfl rfl rfl rfl (by decide) 0 rfl rfl rfl rfl hl.1 (Nat.le_of_ble_eq_true rfl) d_L_law_319 ⟨Nat.le_of_ble_eq_true rfl, Nat.le_of_ble_eq_true rfl⟩ (fun r_36 u H locs hw hP hD hS => ?_)
                        obtain ⟨vr_37, tsize_38, tat_39, vb_40, yhits_41, yrunOuts_42, ybitsRead_43, yfewestBits_44⟩ := u
                        try dsimp only at hw
                        have hP : va_P D gCl [(h_t, .inr (1, [.ref h_b, .int t_size, .int t_at])), (h_b, .inl (cI, 256, .inl vb)), (h_o, .inr (3, [.ref h_ow, .ref h_oq, .int o_length, .int o_spent, .ref h_ob, .int o_many, .int o_at, .int o_isOut, .ref h_or, .int o_values, .int o_failures, .int o_works])), (h_ow, .inl (cI, 8, .inl vow)), (h_oq, .inl (cI, 256, .inl voq)), (h_ob, .inl (cI, 256, .inl vob)), (h_or, .inl (cI, 4, .inl vor)), (h_c, .inr (2, [.ref h_w, .ref h_r, .ref h_t, .ref h_k, .ref h_y, .int c_latestSpent])), (h_w, .inl (cI, 8, .inl vw)), (h_r, .inl (cI, 4, .inl vr_37)), (h_k, .inr (1, [.ref h_kb, .int tsize_38, .int tat_39])), (h_kb, .inl (cI, 12, .inl vb_40)), (h_y, .inr (0, [.int yhits_41, .int yrunOuts_42, .int ybitsRead_43, .int yfewestBits_44]))] H := hP
                        have hD : va_D A [(h_t, .inr (1, [.ref h_b, .int t_size, .int t_at])), (h_b, .inl (cI, 256, .inl vb)), (h_o, .inr (3, [.ref h_ow, .ref h_oq, .int o_length, .int o_spent, .ref h_ob, .int o_many, .int o_at, .int o_isOut, .ref h_or, .int o_values, .int o_failures, .int o_works])), (h_ow, .inl (cI, 8, .inl vow)), (h_oq, .inl (cI, 256, .inl voq)), (h_ob, .inl (cI, 256, .inl vob)), (h_or, .inl (cI, 4, .inl vor)), (h_c, .inr (2, [.ref h_w, .ref h_r, .ref h_t, .ref h_k, .ref h_y, .int c_latestSpent])), (h_w, .inl (cI, 8, .inl vw)), (h_r, .inl (cI, 4, .inl vr_37)), (h_k, .inr (1, [.ref h_kb, .int tsize_38, .int tat_39])), (h_kb, .inl (cI, 12, .inl vb_40)), (h_y, .inr (0, [.int yhits_41, .int yrunOuts_42, .int ybitsRead_43, .int yfewestBits_44]))] := hD
                        refine lv_aload_n hx hb d_L_law_322 rfl (lv_at hl 1 rfl) ?_
                        refine lv_aload_n hx hb d_L_law_323 rfl (lv_at hl 3 rfl) ?_
                        refine lv_iload_n hx hb d_L_law_324 rfl (lv_at hl 0 rfl) ?_
                        refine lv_iconst (v := (nI 1)) hx hb d_L_law_325 (by decide) ?_
                        refine lv_iadd hx hb d_L_law_326 ?_
                        refine va_sld hx hb hX hbl hbA hS hw.1 d_L_law_327 ?_
                        have hw := hw.2
                        refine lv_aload_n hx hb d_L_law_328 rfl (lv_at hl 3 rfl) ?_
                        refine lv_iload_n hx hb d_L_law_329 rfl (lv_at hl 0 rfl) ?_
                        refine lv_iconst (v := (nI 2)) hx hb d_L_law_330 (by decide) ?_
                        refine lv_iadd hx hb d_L_law_331 ?_
                        refine va_sld hx hb hX hbl hbA hS hw.1 d_L_law_332 ?_
                        have hw := hw.2
                        refine lv_aload_n hx hb d_L_law_333 rfl (lv_at hl 3 rfl) ?_
                        refine lv_iload_n hx hb d_L_law_334 rfl (lv_at hl 0 rfl) ?_
                        refine lv_iconst (v := (nI 3)) hx hb d_L_law_335 (by decide) ?_
                        refine lv_iadd hx hb d_L_law_336 ?_
                        refine va_sld hx hb hX hbl hbA hS hw.1 d_L_law_337 ?_
                        have hw := hw.2
                        refine lv_aload_n hx hb d_L_law_338 rfl (lv_at hl 3 rfl) ?_
                        refine lv_iload_n hx hb d_L_law_339 rfl (lv_at hl 0 rfl) ?_
                        refine lv_iconst (v := (nI 4)) hx hb d_L_law_340 (by decide) ?_
                        refine lv_iadd hx hb d_L_law_341 ?_
                        refine va_sld hx hb hX hbl hbA hS hw.1 d_L_law_342 ?_
                        have hw := hw.2
                        refine lv_aload_n hx hb d_L_law_343 rfl (lv_at hl 3 rfl) ?_
                        refine lv_iload_n hx hb d_L_law_344 rfl (lv_at hl 0 rfl) ?_
                        refine lv_iconst (v := (nI 5)) hx hb d_L_law_345 (by decide) ?_
                        refine lv_iadd hx hb d_L_law_346 ?_
                        refine va_sld hx hb hX hbl hbA hS hw.1 d_L_law_347 ?_
                        have hw := hw.2
                        refine g_cVi (wr := [(h_t, .inr (1, [.ref h_b, .int t_size, .int t_at])), (h_b, .inl (cI, 256, .inl vb)), (h_oq, .inl (cI, 256, .inl voq)), (h_c, .inr (2, [.ref h_w, .ref h_r, .ref h_t, .ref h_k, .ref h_y, .int c_latestSpent])), (h_w, .inl (cI, 8, .inl vw)), (h_r, .inl (cI, 4, .inl vr_37)), (h_k, .inr (1, [.ref h_kb, .int tsize_38, .int tat_39])), (h_kb, .inl (cI, 12, .inl vb_40)), (h_y, .inr (0, [.int yhits_41, .int yrunOuts_42, .int ybitsRead_43, .int yfewestBits_44]))]) fx (c_M_count l D cI h_o h_ob h_or h_ow h_oq o_length o_spent o_many o_at o_isOut o_values o_failures o_works vob vor vow (xs ((x3 + (nI 1))).toNatClampNeg) (xs ((x3 + (nI 2))).toNatClampNeg) (xs ((x3 + (nI 3))).toNatClampNeg) (xs ((x3 + (nI 4))).toNatClampNeg) (xs ((x3 + (nI 5))).toNatClampNeg) _ hw) mf_M_count w_326 ⟨rfl, rfl⟩ ⟨Nat.le_of_ble_eq_true rfl, Nat.le_of_ble_eq_true rfl⟩ hN hK hA hP hD hS [2, 5, 6, 3] [0, 1, 4, 7, 8, 9, 10, 11, 12] rfl rfl rfl rfl (by decide) 0 rfl rfl rfl rfl hl.1 (Nat.le_of_ble_eq_true rfl) d_L_law_348 ⟨Nat.le_of_ble_eq_true rfl, Nat.le_of_ble_eq_true rfl⟩ (fun r_45 u H locs hw hP hD hS => ?_)
                        obtain ⟨omany_46, oat_47, oisOut_48, ovalues_49, ofailures_50, oworks_51, vb_52, vr_53⟩ := u
                        try dsimp only at hw
                        have hP : va_P D gCl [(h_t, .inr (1, [.ref h_b, .int t_size, .int t_at])), (h_b, .inl (cI, 256, .inl vb)), (h_oq, .inl (cI, 256, .inl voq)), (h_c, .inr (2, [.ref h_w, .ref h_r, .ref h_t, .ref h_k, .ref h_y, .int c_latestSpent])), (h_w, .inl (cI, 8, .inl vw)), (h_r, .inl (cI, 4, .inl vr_37)), (h_k, .inr (1, [.ref h_kb, .int tsize_38, .int tat_39])), (h_kb, .inl (cI, 12, .inl vb_40)), (h_y, .inr (0, [.int yhits_41, .int yrunOuts_42, .int ybitsRead_43, .int yfewestBits_44])), (h_o, .inr (3, [.ref h_ow, .ref h_oq, .int o_length, .int o_spent, .ref h_ob, .int omany_46, .int oat_47, .int oisOut_48, .ref h_or, .int ovalues_49, .int ofailures_50, .int oworks_51])), (h_ob, .inl (cI, 256, .inl vb_52)), (h_or, .inl (cI, 4, .inl vr_53)), (h_ow, .inl (cI, 8, .inl vow))] H := hP
                        have hD : va_D A [(h_t, .inr (1, [.ref h_b, .int t_size, .int t_at])), (h_b, .inl (cI, 256, .inl vb)), (h_oq, .inl (cI, 256, .inl voq)), (h_c, .inr (2, [.ref h_w, .ref h_r, .ref h_t, .ref h_k, .ref h_y, .int c_latestSpent])), (h_w, .inl (cI, 8, .inl vw)), (h_r, .inl (cI, 4, .inl vr_37)), (h_k, .inr (1, [.ref h_kb, .int tsize_38, .int tat_39])), (h_kb, .inl (cI, 12, .inl vb_40)), (h_y, .inr (0, [.int yhits_41, .int yrunOuts_42, .int ybitsRead_43, .int yfewestBits_44])), (h_o, .inr (3, [.ref h_ow, .ref h_oq, .int o_length, .int o_spent, .ref h_ob, .int omany_46, .int oat_47, .int oisOut_48, .ref h_or, .int ovalues_49, .int ofailures_50, .int oworks_51])), (h_ob, .inl (cI, 256, .inl vb_52)), (h_or, .inl (cI, 4, .inl vr_53)), (h_ow, .inl (cI, 8, .inl vow))] := hD
                        refine lv_icmp_eq (tgt := 515) hx hb d_L_law_351 (by decide) (fun c351 => ?_) (fun c351 => ?_)
                        · have hw := hw.1 c351
                          refine lv_iinc (v := (x3 + (nI 6))) (lv' := [(3, .int (x3 + (nI 6))), (2, .ref h_o), (1, .ref h_c), (0, .ref b_s)]) hx hb d_L_law_515 hl (k := 0) rfl rfl (by decide) rfl (fun ls hl => ?_)
                          refine lv_goto (tgt := 18) hx hb d_L_law_518 (by decide) ?_
                          exact ih_18 _ _ _ _ _ _ _ _ _ _ _ _ _ _ _ _ _ _ _ _ _ _ _ _ _ _ hw _ _ _ (gSubP hP [3, 4, 5, 0, 1, 6, 7, 8, 9, 12, 2, 10, 11] rfl) (hD.sub [3, 4, 5, 0, 1, 6, 7, 8, 9, 12, 2, 10, 11] rfl rfl) hS (lv_sub hl [0, 1, 2, 3] rfl)
                        · have hw := hw.2 c351
                          refine lv_iconst (v := (nI 0)) hx hb d_L_law_354 (by decide) ?_
                          exact hw.elim
                      · have hw := hw.2 c33_7
                        rcases Classical.em (((xs (x3).toNatClampNeg) &&& (nI 15)) = nI 8) with c33_8 | c33_8
                        · have hw := hw.1 c33_8
                          refine g_sw (nI 8) (tgt := 356) hx hb d_L_law_33 c33_8 (by decide) (by decide) rfl (by decide) ?_
                          refine lv_aload_n hx hb d_L_law_356 rfl (lv_at hl 2 rfl) ?_
                          refine lv_aload_n hx hb d_L_law_357 rfl (lv_at hl 3 rfl) ?_
                          refine lv_iload_n hx hb d_L_law_358 rfl (lv_at hl 0 rfl) ?_
                          refine lv_iconst (v := (nI 1)) hx hb d_L_law_359 (by decide) ?_
                          refine lv_iadd hx hb d_L_law_360 ?_
                          refine va_sld hx hb hX hbl hbA hS hw.1 d_L_law_361 ?_
                          have hw := hw.2
                          refine lv_aload_n hx hb d_L_law_362 rfl (lv_at hl 3 rfl) ?_
                          refine lv_iload_n hx hb d_L_law_363 rfl (lv_at hl 0 rfl) ?_
                          refine lv_iconst (v := (nI 2)) hx hb d_L_law_364 (by decide) ?_
                          refine lv_iadd hx hb d_L_law_365 ?_
                          refine va_sld hx hb hX hbl hbA hS hw.1 d_L_law_366 ?_
                          have hw := hw.2
                          refine lv_aload_n hx hb d_L_law_367 rfl (lv_at hl 3 rfl) ?_
                          refine lv_iload_n hx hb d_L_law_368 rfl (lv_at hl 0 rfl) ?_
                          refine lv_iconst (v := (nI 3)) hx hb d_L_law_369 (by decide) ?_
                          refine lv_iadd hx hb d_L_law_370 ?_
                          refine va_sld hx hb hX hbl hbA hS hw.1 d_L_law_371 ?_
                          have hw := hw.2
                          refine lv_aload_n hx hb d_L_law_372 rfl (lv_at hl 3 rfl) ?_
                          refine lv_iload_n hx hb d_L_law_373 rfl (lv_at hl 0 rfl) ?_
                          refine lv_iconst (v := (nI 4)) hx hb d_L_law_374 (by decide) ?_
                          refine lv_iadd hx hb d_L_law_375 ?_
                          refine va_sld hx hb hX hbl hbA hS hw.1 d_L_law_376 ?_
                          have hw := hw.2
                          refine g_cVi (wr := [(h_t, .inr (1, [.ref h_b, .int t_size, .int t_at])), (h_b, .inl (cI, 256, .inl vb)), (h_o, .inr (3, [.ref h_ow, .ref h_oq, .int o_length, .int o_spent, .ref h_ob, .int o_many, .int o_at, .int o_isOut, .ref h_or, .int o_values, .int o_failures, .int o_works])), (h_ow, .inl (cI, 8, .inl vow)), (h_oq, .inl (cI, 256, .inl voq)), (h_ob, .inl (cI, 256, .inl vob)), (h_or, .inl (cI, 4, .inl vor))]) fx (c_C_fails l D cI h_c h_w h_r h_k h_kb h_y h_t 12 c_latestSpent vw vr k_size k_at vkb y_hits y_runOuts y_bitsRead y_fewestBits (xs ((x3 + (nI 1))).toNatClampNeg) (xs ((x3 + (nI 2))).toNatClampNeg) (xs ((x3 + (nI 3))).toNatClampNeg) (xs ((x3 + (nI 4))).toNatClampNeg) _ hw) mf_C_fails w_206 ⟨rfl, rfl⟩ ⟨Nat.le_of_ble_eq_true rfl, Nat.le_of_ble_eq_true rfl⟩ hN hK hA hP hD hS [0, 1, 2, 5, 6, 7] [3, 4, 8, 9, 10, 11, 12] rfl rfl rfl rfl (by decide) 0 rfl rfl rfl rfl hl.1 (Nat.le_of_ble_eq_true rfl) d_L_law_377 ⟨Nat.le_of_ble_eq_true rfl, Nat.le_of_ble_eq_true rfl⟩ (fun r_54 u H locs hw hP hD hS => ?_)
                          obtain ⟨vr_55, tsize_56, tat_57, vb_58, yhits_59, yrunOuts_60, ybitsRead_61, yfewestBits_62⟩ := u
                          try dsimp only at hw
                          have hP : va_P D gCl [(h_t, .inr (1, [.ref h_b, .int t_size, .int t_at])), (h_b, .inl (cI, 256, .inl vb)), (h_o, .inr (3, [.ref h_ow, .ref h_oq, .int o_length, .int o_spent, .ref h_ob, .int o_many, .int o_at, .int o_isOut, .ref h_or, .int o_values, .int o_failures, .int o_works])), (h_ow, .inl (cI, 8, .inl vow)), (h_oq, .inl (cI, 256, .inl voq)), (h_ob, .inl (cI, 256, .inl vob)), (h_or, .inl (cI, 4, .inl vor)), (h_c, .inr (2, [.ref h_w, .ref h_r, .ref h_t, .ref h_k, .ref h_y, .int c_latestSpent])), (h_w, .inl (cI, 8, .inl vw)), (h_r, .inl (cI, 4, .inl vr_55)), (h_k, .inr (1, [.ref h_kb, .int tsize_56, .int tat_57])), (h_kb, .inl (cI, 12, .inl vb_58)), (h_y, .inr (0, [.int yhits_59, .int yrunOuts_60, .int ybitsRead_61, .int yfewestBits_62]))] H := hP
                          have hD : va_D A [(h_t, .inr (1, [.ref h_b, .int t_size, .int t_at])), (h_b, .inl (cI, 256, .inl vb)), (h_o, .inr (3, [.ref h_ow, .ref h_oq, .int o_length, .int o_spent, .ref h_ob, .int o_many, .int o_at, .int o_isOut, .ref h_or, .int o_values, .int o_failures, .int o_works])), (h_ow, .inl (cI, 8, .inl vow)), (h_oq, .inl (cI, 256, .inl voq)), (h_ob, .inl (cI, 256, .inl vob)), (h_or, .inl (cI, 4, .inl vor)), (h_c, .inr (2, [.ref h_w, .ref h_r, .ref h_t, .ref h_k, .ref h_y, .int c_latestSpent])), (h_w, .inl (cI, 8, .inl vw)), (h_r, .inl (cI, 4, .inl vr_55)), (h_k, .inr (1, [.ref h_kb, .int tsize_56, .int tat_57])), (h_kb, .inl (cI, 12, .inl vb_58)), (h_y, .inr (0, [.int yhits_59, .int yrunOuts_60, .int ybitsRead_61, .int yfewestBits_62]))] := hD
                          refine lv_aload_n hx hb d_L_law_380 rfl (lv_at hl 1 rfl) ?_
                          refine lv_aload_n hx hb d_L_law_381 rfl (lv_at hl 3 rfl) ?_
                          refine lv_iload_n hx hb d_L_law_382 rfl (lv_at hl 0 rfl) ?_
                          refine lv_iconst (v := (nI 1)) hx hb d_L_law_383 (by decide) ?_
                          refine lv_iadd hx hb d_L_law_384 ?_
                          refine va_sld hx hb hX hbl hbA hS hw.1 d_L_law_385 ?_
                          have hw := hw.2
                          refine lv_aload_n hx hb d_L_law_386 rfl (lv_at hl 3 rfl) ?_
                          refine lv_iload_n hx hb d_L_law_387 rfl (lv_at hl 0 rfl) ?_
                          refine lv_iconst (v := (nI 2)) hx hb d_L_law_388 (by decide) ?_
                          refine lv_iadd hx hb d_L_law_389 ?_
                          refine va_sld hx hb hX hbl hbA hS hw.1 d_L_law_390 ?_
                          have hw := hw.2
                          refine lv_aload_n hx hb d_L_law_391 rfl (lv_at hl 3 rfl) ?_
                          refine lv_iload_n hx hb d_L_law_392 rfl (lv_at hl 0 rfl) ?_
                          refine lv_iconst (v := (nI 3)) hx hb d_L_law_393 (by decide) ?_
                          refine lv_iadd hx hb d_L_law_394 ?_
                          refine va_sld hx hb hX hbl hbA hS hw.1 d_L_law_395 ?_
                          have hw := hw.2
                          refine lv_aload_n hx hb d_L_law_396 rfl (lv_at hl 3 rfl) ?_
                          refine lv_iload_n hx hb d_L_law_397 rfl (lv_at hl 0 rfl) ?_
                          refine lv_iconst (v := (nI 4)) hx hb d_L_law_398 (by decide) ?_
                          refine lv_iadd hx hb d_L_law_399 ?_
                          refine va_sld hx hb hX hbl hbA hS hw.1 d_L_law_400 ?_
                          have hw := hw.2
                          refine g_cVi (wr := [(h_t, .inr (1, [.ref h_b, .int t_size, .int t_at])), (h_b, .inl (cI, 256, .inl vb)), (h_oq, .inl (cI, 256, .inl voq)), (h_c, .inr (2, [.ref h_w, .ref h_r, .ref h_t, .ref h_k, .ref h_y, .int c_latestSpent])), (h_w, .inl (cI, 8, .inl vw)), (h_r, .inl (cI, 4, .inl vr_55)), (h_k, .inr (1, [.ref h_kb, .int tsize_56, .int tat_57])), (h_kb, .inl (cI, 12, .inl vb_58)), (h_y, .inr (0, [.int yhits_59, .int yrunOuts_60, .int ybitsRead_61, .int yfewestBits_62]))]) fx (c_M_fails l D cI h_o h_ob h_or h_ow h_oq o_length o_spent o_many o_at o_isOut o_values o_failures o_works vob vor vow (xs ((x3 + (nI 1))).toNatClampNeg) (xs ((x3 + (nI 2))).toNatClampNeg) (xs ((x3 + (nI 3))).toNatClampNeg) (xs ((x3 + (nI 4))).toNatClampNeg) _ hw) mf_M_fails w_338 ⟨rfl, rfl⟩ ⟨Nat.le_of_ble_eq_true rfl, Nat.le_of_ble_eq_true rfl⟩ hN hK hA hP hD hS [2, 5, 6, 3] [0, 1, 4, 7, 8, 9, 10, 11, 12] rfl rfl rfl rfl (by decide) 0 rfl rfl rfl rfl hl.1 (Nat.le_of_ble_eq_true rfl) d_L_law_401 ⟨Nat.le_of_ble_eq_true rfl, Nat.le_of_ble_eq_true rfl⟩ (fun r_63 u H locs hw hP hD hS => ?_)
                          obtain ⟨omany_64, oat_65, oisOut_66, ovalues_67, ofailures_68, oworks_69, vb_70, vr_71⟩ := u
                          try dsimp only at hw
                          have hP : va_P D gCl [(h_t, .inr (1, [.ref h_b, .int t_size, .int t_at])), (h_b, .inl (cI, 256, .inl vb)), (h_oq, .inl (cI, 256, .inl voq)), (h_c, .inr (2, [.ref h_w, .ref h_r, .ref h_t, .ref h_k, .ref h_y, .int c_latestSpent])), (h_w, .inl (cI, 8, .inl vw)), (h_r, .inl (cI, 4, .inl vr_55)), (h_k, .inr (1, [.ref h_kb, .int tsize_56, .int tat_57])), (h_kb, .inl (cI, 12, .inl vb_58)), (h_y, .inr (0, [.int yhits_59, .int yrunOuts_60, .int ybitsRead_61, .int yfewestBits_62])), (h_o, .inr (3, [.ref h_ow, .ref h_oq, .int o_length, .int o_spent, .ref h_ob, .int omany_64, .int oat_65, .int oisOut_66, .ref h_or, .int ovalues_67, .int ofailures_68, .int oworks_69])), (h_ob, .inl (cI, 256, .inl vb_70)), (h_or, .inl (cI, 4, .inl vr_71)), (h_ow, .inl (cI, 8, .inl vow))] H := hP
                          have hD : va_D A [(h_t, .inr (1, [.ref h_b, .int t_size, .int t_at])), (h_b, .inl (cI, 256, .inl vb)), (h_oq, .inl (cI, 256, .inl voq)), (h_c, .inr (2, [.ref h_w, .ref h_r, .ref h_t, .ref h_k, .ref h_y, .int c_latestSpent])), (h_w, .inl (cI, 8, .inl vw)), (h_r, .inl (cI, 4, .inl vr_55)), (h_k, .inr (1, [.ref h_kb, .int tsize_56, .int tat_57])), (h_kb, .inl (cI, 12, .inl vb_58)), (h_y, .inr (0, [.int yhits_59, .int yrunOuts_60, .int ybitsRead_61, .int yfewestBits_62])), (h_o, .inr (3, [.ref h_ow, .ref h_oq, .int o_length, .int o_spent, .ref h_ob, .int omany_64, .int oat_65, .int oisOut_66, .ref h_or, .int ovalues_67, .int ofailures_68, .int oworks_69])), (h_ob, .inl (cI, 256, .inl vb_70)), (h_or, .inl (cI, 4, .inl vr_71)), (h_ow, .inl (cI, 8, .inl vow))] := hD
                          refine lv_icmp_eq (tgt := 515) hx hb d_L_law_404 (by decide) (fun c404 => ?_) (fun c404 => ?_)
                          · have hw := hw.1 c404
                            refine lv_iinc (v := (x3 + (nI 6))) (lv' := [(3, .int (x3 + (nI 6))), (2, .ref h_o), (1, .ref h_c), (0, .ref b_s)]) hx hb d_L_law_515 hl (k := 0) rfl rfl (by decide) rfl (fun ls hl => ?_)
                            refine lv_goto (tgt := 18) hx hb d_L_law_518 (by decide) ?_
                            exact ih_18 _ _ _ _ _ _ _ _ _ _ _ _ _ _ _ _ _ _ _ _ _ _ _ _ _ _ hw _ _ _ (gSubP hP [3, 4, 5, 0, 1, 6, 7, 8, 9, 12, 2, 10, 11] rfl) (hD.sub [3, 4, 5, 0, 1, 6, 7, 8, 9, 12, 2, 10, 11] rfl rfl) hS (lv_sub hl [0, 1, 2, 3] rfl)
                          · have hw := hw.2 c404
                            refine lv_iconst (v := (nI 0)) hx hb d_L_law_407 (by decide) ?_
                            exact hw.elim
                        · have hw := hw.2 c33_8
                          rcases Classical.em (((xs (x3).toNatClampNeg) &&& (nI 15)) = nI 9) with c33_9 | c33_9
                          · have hw := hw.1 c33_9
                            refine g_sw (nI 9) (tgt := 409) hx hb d_L_law_33 c33_9 (by decide) (by decide) rfl (by decide) ?_
                            refine lv_aload_n hx hb d_L_law_409 rfl (lv_at hl 2 rfl) ?_
                            refine lv_aload_n hx hb d_L_law_410 rfl (lv_at hl 3 rfl) ?_
                            refine lv_iload_n hx hb d_L_law_411 rfl (lv_at hl 0 rfl) ?_
                            refine lv_iconst (v := (nI 1)) hx hb d_L_law_412 (by decide) ?_
                            refine lv_iadd hx hb d_L_law_413 ?_
                            refine va_sld hx hb hX hbl hbA hS hw.1 d_L_law_414 ?_
                            have hw := hw.2
                            refine lv_aload_n hx hb d_L_law_415 rfl (lv_at hl 3 rfl) ?_
                            refine lv_iload_n hx hb d_L_law_416 rfl (lv_at hl 0 rfl) ?_
                            refine lv_iconst (v := (nI 2)) hx hb d_L_law_417 (by decide) ?_
                            refine lv_iadd hx hb d_L_law_418 ?_
                            refine va_sld hx hb hX hbl hbA hS hw.1 d_L_law_419 ?_
                            have hw := hw.2
                            refine lv_aload_n hx hb d_L_law_420 rfl (lv_at hl 3 rfl) ?_
                            refine lv_iload_n hx hb d_L_law_421 rfl (lv_at hl 0 rfl) ?_
                            refine lv_iconst (v := (nI 3)) hx hb d_L_law_422 (by decide) ?_
                            refine lv_iadd hx hb d_L_law_423 ?_
                            refine va_sld hx hb hX hbl hbA hS hw.1 d_L_law_424 ?_
                            have hw := hw.2
                            refine lv_aload_n hx hb d_L_law_425 rfl (lv_at hl 3 rfl) ?_
                            refine lv_iload_n hx hb d_L_law_426 rfl (lv_at hl 0 rfl) ?_
                            refine lv_iconst (v := (nI 4)) hx hb d_L_law_427 (by decide) ?_
                            refine lv_iadd hx hb d_L_law_428 ?_
                            refine va_sld hx hb hX hbl hbA hS hw.1 d_L_law_429 ?_
                            have hw := hw.2
                            refine g_cVi (wr := [(h_t, .inr (1, [.ref h_b, .int t_size, .int t_at])), (h_b, .inl (cI, 256, .inl vb)), (h_o, .inr (3, [.ref h_ow, .ref h_oq, .int o_length, .int o_spent, .ref h_ob, .int o_many, .int o_at, .int o_isOut, .ref h_or, .int o_values, .int o_failures, .int o_works])), (h_ow, .inl (cI, 8, .inl vow)), (h_oq, .inl (cI, 256, .inl voq)), (h_ob, .inl (cI, 256, .inl vob)), (h_or, .inl (cI, 4, .inl vor))]) fx (c_C_work l D cI h_c h_w h_r h_k h_kb h_y h_t 12 c_latestSpent vw vr k_size k_at vkb y_hits y_runOuts y_bitsRead y_fewestBits (xs ((x3 + (nI 1))).toNatClampNeg) (xs ((x3 + (nI 2))).toNatClampNeg) (xs ((x3 + (nI 3))).toNatClampNeg) (xs ((x3 + (nI 4))).toNatClampNeg) _ hw) mf_C_work w_210 ⟨rfl, rfl⟩ ⟨Nat.le_of_ble_eq_true rfl, Nat.le_of_ble_eq_true rfl⟩ hN hK hA hP hD hS [0, 1, 2, 5, 6, 7] [3, 4, 8, 9, 10, 11, 12] rfl rfl rfl rfl (by decide) 0 rfl rfl rfl rfl hl.1 (Nat.le_of_ble_eq_true rfl) d_L_law_430 ⟨Nat.le_of_ble_eq_true rfl, Nat.le_of_ble_eq_true rfl⟩ (fun r_72 u H locs hw hP hD hS => ?_)
                            obtain ⟨vr_73, tsize_74, tat_75, vb_76, yhits_77, yrunOuts_78, ybitsRead_79, yfewestBits_80⟩ := u
                            try dsimp only at hw
                            have hP : va_P D gCl [(h_t, .inr (1, [.ref h_b, .int t_size, .int t_at])), (h_b, .inl (cI, 256, .inl vb)), (h_o, .inr (3, [.ref h_ow, .ref h_oq, .int o_length, .int o_spent, .ref h_ob, .int o_many, .int o_at, .int o_isOut, .ref h_or, .int o_values, .int o_failures, .int o_works])), (h_ow, .inl (cI, 8, .inl vow)), (h_oq, .inl (cI, 256, .inl voq)), (h_ob, .inl (cI, 256, .inl vob)), (h_or, .inl (cI, 4, .inl vor)), (h_c, .inr (2, [.ref h_w, .ref h_r, .ref h_t, .ref h_k, .ref h_y, .int c_latestSpent])), (h_w, .inl (cI, 8, .inl vw)), (h_r, .inl (cI, 4, .inl vr_73)), (h_k, .inr (1, [.ref h_kb, .int tsize_74, .int tat_75])), (h_kb, .inl (cI, 12, .inl vb_76)), (h_y, .inr (0, [.int yhits_77, .int yrunOuts_78, .int ybitsRead_79, .int yfewestBits_80]))] H := hP
                            have hD : va_D A [(h_t, .inr (1, [.ref h_b, .int t_size, .int t_at])), (h_b, .inl (cI, 256, .inl vb)), (h_o, .inr (3, [.ref h_ow, .ref h_oq, .int o_length, .int o_spent, .ref h_ob, .int o_many, .int o_at, .int o_isOut, .ref h_or, .int o_values, .int o_failures, .int o_works])), (h_ow, .inl (cI, 8, .inl vow)), (h_oq, .inl (cI, 256, .inl voq)), (h_ob, .inl (cI, 256, .inl vob)), (h_or, .inl (cI, 4, .inl vor)), (h_c, .inr (2, [.ref h_w, .ref h_r, .ref h_t, .ref h_k, .ref h_y, .int c_latestSpent])), (h_w, .inl (cI, 8, .inl vw)), (h_r, .inl (cI, 4, .inl vr_73)), (h_k, .inr (1, [.ref h_kb, .int tsize_74, .int tat_75])), (h_kb, .inl (cI, 12, .inl vb_76)), (h_y, .inr (0, [.int yhits_77, .int yrunOuts_78, .int ybitsRead_79, .int yfewestBits_80]))] := hD
                            refine lv_aload_n hx hb d_L_law_433 rfl (lv_at hl 1 rfl) ?_
                            refine lv_aload_n hx hb d_L_law_434 rfl (lv_at hl 3 rfl) ?_
                            refine lv_iload_n hx hb d_L_law_435 rfl (lv_at hl 0 rfl) ?_
                            refine lv_iconst (v := (nI 1)) hx hb d_L_law_436 (by decide) ?_
                            refine lv_iadd hx hb d_L_law_437 ?_
                            refine va_sld hx hb hX hbl hbA hS hw.1 d_L_law_438 ?_
                            have hw := hw.2
                            refine lv_aload_n hx hb d_L_law_439 rfl (lv_at hl 3 rfl) ?_
                            refine lv_iload_n hx hb d_L_law_440 rfl (lv_at hl 0 rfl) ?_
                            refine lv_iconst (v := (nI 2)) hx hb d_L_law_441 (by decide) ?_
                            refine lv_iadd hx hb d_L_law_442 ?_
                            refine va_sld hx hb hX hbl hbA hS hw.1 d_L_law_443 ?_
                            have hw := hw.2
                            refine lv_aload_n hx hb d_L_law_444 rfl (lv_at hl 3 rfl) ?_
                            refine lv_iload_n hx hb d_L_law_445 rfl (lv_at hl 0 rfl) ?_
                            refine lv_iconst (v := (nI 3)) hx hb d_L_law_446 (by decide) ?_
                            refine lv_iadd hx hb d_L_law_447 ?_
                            refine va_sld hx hb hX hbl hbA hS hw.1 d_L_law_448 ?_
                            have hw := hw.2
                            refine lv_aload_n hx hb d_L_law_449 rfl (lv_at hl 3 rfl) ?_
                            refine lv_iload_n hx hb d_L_law_450 rfl (lv_at hl 0 rfl) ?_
                            refine lv_iconst (v := (nI 4)) hx hb d_L_law_451 (by decide) ?_
                            refine lv_iadd hx hb d_L_law_452 ?_
                            refine va_sld hx hb hX hbl hbA hS hw.1 d_L_law_453 ?_
                            have hw := hw.2
                            refine g_cVi (wr := [(h_t, .inr (1, [.ref h_b, .int t_size, .int t_at])), (h_b, .inl (cI, 256, .inl vb)), (h_oq, .inl (cI, 256, .inl voq)), (h_c, .inr (2, [.ref h_w, .ref h_r, .ref h_t, .ref h_k, .ref h_y, .int c_latestSpent])), (h_w, .inl (cI, 8, .inl vw)), (h_r, .inl (cI, 4, .inl vr_73)), (h_k, .inr (1, [.ref h_kb, .int tsize_74, .int tat_75])), (h_kb, .inl (cI, 12, .inl vb_76)), (h_y, .inr (0, [.int yhits_77, .int yrunOuts_78, .int ybitsRead_79, .int yfewestBits_80]))]) fx (c_M_work l D cI h_o h_ob h_or h_ow h_oq o_length o_spent o_many o_at o_isOut o_values o_failures o_works vob vor vow (xs ((x3 + (nI 1))).toNatClampNeg) (xs ((x3 + (nI 2))).toNatClampNeg) (xs ((x3 + (nI 3))).toNatClampNeg) (xs ((x3 + (nI 4))).toNatClampNeg) _ hw) mf_M_work w_342 ⟨rfl, rfl⟩ ⟨Nat.le_of_ble_eq_true rfl, Nat.le_of_ble_eq_true rfl⟩ hN hK hA hP hD hS [2, 5, 6, 3] [0, 1, 4, 7, 8, 9, 10, 11, 12] rfl rfl rfl rfl (by decide) 0 rfl rfl rfl rfl hl.1 (Nat.le_of_ble_eq_true rfl) d_L_law_454 ⟨Nat.le_of_ble_eq_true rfl, Nat.le_of_ble_eq_true rfl⟩ (fun r_81 u H locs hw hP hD hS => ?_)
                            obtain ⟨omany_82, oat_83, oisOut_84, ovalues_85, ofailures_86, oworks_87, vb_88, vr_89⟩ := u
                            try dsimp only at hw
                            have hP : va_P D gCl [(h_t, .inr (1, [.ref h_b, .int t_size, .int t_at])), (h_b, .inl (cI, 256, .inl vb)), (h_oq, .inl (cI, 256, .inl voq)), (h_c, .inr (2, [.ref h_w, .ref h_r, .ref h_t, .ref h_k, .ref h_y, .int c_latestSpent])), (h_w, .inl (cI, 8, .inl vw)), (h_r, .inl (cI, 4, .inl vr_73)), (h_k, .inr (1, [.ref h_kb, .int tsize_74, .int tat_75])), (h_kb, .inl (cI, 12, .inl vb_76)), (h_y, .inr (0, [.int yhits_77, .int yrunOuts_78, .int ybitsRead_79, .int yfewestBits_80])), (h_o, .inr (3, [.ref h_ow, .ref h_oq, .int o_length, .int o_spent, .ref h_ob, .int omany_82, .int oat_83, .int oisOut_84, .ref h_or, .int ovalues_85, .int ofailures_86, .int oworks_87])), (h_ob, .inl (cI, 256, .inl vb_88)), (h_or, .inl (cI, 4, .inl vr_89)), (h_ow, .inl (cI, 8, .inl vow))] H := hP
                            have hD : va_D A [(h_t, .inr (1, [.ref h_b, .int t_size, .int t_at])), (h_b, .inl (cI, 256, .inl vb)), (h_oq, .inl (cI, 256, .inl voq)), (h_c, .inr (2, [.ref h_w, .ref h_r, .ref h_t, .ref h_k, .ref h_y, .int c_latestSpent])), (h_w, .inl (cI, 8, .inl vw)), (h_r, .inl (cI, 4, .inl vr_73)), (h_k, .inr (1, [.ref h_kb, .int tsize_74, .int tat_75])), (h_kb, .inl (cI, 12, .inl vb_76)), (h_y, .inr (0, [.int yhits_77, .int yrunOuts_78, .int ybitsRead_79, .int yfewestBits_80])), (h_o, .inr (3, [.ref h_ow, .ref h_oq, .int o_length, .int o_spent, .ref h_ob, .int omany_82, .int oat_83, .int oisOut_84, .ref h_or, .int ovalues_85, .int ofailures_86, .int oworks_87])), (h_ob, .inl (cI, 256, .inl vb_88)), (h_or, .inl (cI, 4, .inl vr_89)), (h_ow, .inl (cI, 8, .inl vow))] := hD
                            refine lv_icmp_eq (tgt := 515) hx hb d_L_law_457 (by decide) (fun c457 => ?_) (fun c457 => ?_)
                            · have hw := hw.1 c457
                              refine lv_iinc (v := (x3 + (nI 6))) (lv' := [(3, .int (x3 + (nI 6))), (2, .ref h_o), (1, .ref h_c), (0, .ref b_s)]) hx hb d_L_law_515 hl (k := 0) rfl rfl (by decide) rfl (fun ls hl => ?_)
                              refine lv_goto (tgt := 18) hx hb d_L_law_518 (by decide) ?_
                              exact ih_18 _ _ _ _ _ _ _ _ _ _ _ _ _ _ _ _ _ _ _ _ _ _ _ _ _ _ hw _ _ _ (gSubP hP [3, 4, 5, 0, 1, 6, 7, 8, 9, 12, 2, 10, 11] rfl) (hD.sub [3, 4, 5, 0, 1, 6, 7, 8, 9, 12, 2, 10, 11] rfl rfl) hS (lv_sub hl [0, 1, 2, 3] rfl)
                            · have hw := hw.2 c457
                              refine lv_iconst (v := (nI 0)) hx hb d_L_law_460 (by decide) ?_
                              exact hw.elim
                          · have hw := hw.2 c33_9
                            rcases Classical.em (((xs (x3).toNatClampNeg) &&& (nI 15)) = nI 10) with c33_10 | c33_10
                            · have hw := hw.1 c33_10
                              refine g_sw (nI 10) (tgt := 462) hx hb d_L_law_33 c33_10 (by decide) (by decide) rfl (by decide) ?_
                              refine lv_aload_n hx hb d_L_law_462 rfl (lv_at hl 2 rfl) ?_
                              refine lv_aload_n hx hb d_L_law_463 rfl (lv_at hl 3 rfl) ?_
                              refine lv_iload_n hx hb d_L_law_464 rfl (lv_at hl 0 rfl) ?_
                              refine lv_iconst (v := (nI 1)) hx hb d_L_law_465 (by decide) ?_
                              refine lv_iadd hx hb d_L_law_466 ?_
                              refine va_sld hx hb hX hbl hbA hS hw.1 d_L_law_467 ?_
                              have hw := hw.2
                              refine lv_aload_n hx hb d_L_law_468 rfl (lv_at hl 3 rfl) ?_
                              refine lv_iload_n hx hb d_L_law_469 rfl (lv_at hl 0 rfl) ?_
                              refine lv_iconst (v := (nI 2)) hx hb d_L_law_470 (by decide) ?_
                              refine lv_iadd hx hb d_L_law_471 ?_
                              refine va_sld hx hb hX hbl hbA hS hw.1 d_L_law_472 ?_
                              have hw := hw.2
                              refine lv_aload_n hx hb d_L_law_473 rfl (lv_at hl 3 rfl) ?_
                              refine lv_iload_n hx hb d_L_law_474 rfl (lv_at hl 0 rfl) ?_
                              refine lv_iconst (v := (nI 3)) hx hb d_L_law_475 (by decide) ?_
                              refine lv_iadd hx hb d_L_law_476 ?_
                              refine va_sld hx hb hX hbl hbA hS hw.1 d_L_law_477 ?_
                              have hw := hw.2
                              refine lv_aload_n hx hb d_L_law_478 rfl (lv_at hl 3 rfl) ?_
                              refine lv_iload_n hx hb d_L_law_479 rfl (lv_at hl 0 rfl) ?_
                              refine lv_iconst (v := (nI 4)) hx hb d_L_law_480 (by decide) ?_
                              refine lv_iadd hx hb d_L_law_481 ?_
                              refine va_sld hx hb hX hbl hbA hS hw.1 d_L_law_482 ?_
                              have hw := hw.2
                              refine g_cVi (wr := [(h_t, .inr (1, [.ref h_b, .int t_size, .int t_at])), (h_b, .inl (cI, 256, .inl vb)), (h_o, .inr (3, [.ref h_ow, .ref h_oq, .int o_length, .int o_spent, .ref h_ob, .int o_many, .int o_at, .int o_isOut, .ref h_or, .int o_values, .int o_failures, .int o_works])), (h_ow, .inl (cI, 8, .inl vow)), (h_oq, .inl (cI, 256, .inl voq)), (h_ob, .inl (cI, 256, .inl vob)), (h_or, .inl (cI, 4, .inl vor))]) fx (c_C_first l D cI h_c h_w h_r h_k h_kb h_y h_t 12 c_latestSpent vw vr k_size k_at vkb y_hits y_runOuts y_bitsRead y_fewestBits (xs ((x3 + (nI 1))).toNatClampNeg) (xs ((x3 + (nI 2))).toNatClampNeg) (xs ((x3 + (nI 3))).toNatClampNeg) (xs ((x3 + (nI 4))).toNatClampNeg) _ hw) mf_C_first w_214 ⟨rfl, rfl⟩ ⟨Nat.le_of_ble_eq_true rfl, Nat.le_of_ble_eq_true rfl⟩ hN hK hA hP hD hS [0, 1, 2, 5, 6, 7] [3, 4, 8, 9, 10, 11, 12] rfl rfl rfl rfl (by decide) 0 rfl rfl rfl rfl hl.1 (Nat.le_of_ble_eq_true rfl) d_L_law_483 ⟨Nat.le_of_ble_eq_true rfl, Nat.le_of_ble_eq_true rfl⟩ (fun r_90 u H locs hw hP hD hS => ?_)
                              obtain ⟨vr_91, tsize_92, tat_93, vb_94, yhits_95, yrunOuts_96, ybitsRead_97, yfewestBits_98⟩ := u
                              try dsimp only at hw
                              have hP : va_P D gCl [(h_t, .inr (1, [.ref h_b, .int t_size, .int t_at])), (h_b, .inl (cI, 256, .inl vb)), (h_o, .inr (3, [.ref h_ow, .ref h_oq, .int o_length, .int o_spent, .ref h_ob, .int o_many, .int o_at, .int o_isOut, .ref h_or, .int o_values, .int o_failures, .int o_works])), (h_ow, .inl (cI, 8, .inl vow)), (h_oq, .inl (cI, 256, .inl voq)), (h_ob, .inl (cI, 256, .inl vob)), (h_or, .inl (cI, 4, .inl vor)), (h_c, .inr (2, [.ref h_w, .ref h_r, .ref h_t, .ref h_k, .ref h_y, .int c_latestSpent])), (h_w, .inl (cI, 8, .inl vw)), (h_r, .inl (cI, 4, .inl vr_91)), (h_k, .inr (1, [.ref h_kb, .int tsize_92, .int tat_93])), (h_kb, .inl (cI, 12, .inl vb_94)), (h_y, .inr (0, [.int yhits_95, .int yrunOuts_96, .int ybitsRead_97, .int yfewestBits_98]))] H := hP
                              have hD : va_D A [(h_t, .inr (1, [.ref h_b, .int t_size, .int t_at])), (h_b, .inl (cI, 256, .inl vb)), (h_o, .inr (3, [.ref h_ow, .ref h_oq, .int o_length, .int o_spent, .ref h_ob, .int o_many, .int o_at, .int o_isOut, .ref h_or, .int o_values, .int o_failures, .int o_works])), (h_ow, .inl (cI, 8, .inl vow)), (h_oq, .inl (cI, 256, .inl voq)), (h_ob, .inl (cI, 256, .inl vob)), (h_or, .inl (cI, 4, .inl vor)), (h_c, .inr (2, [.ref h_w, .ref h_r, .ref h_t, .ref h_k, .ref h_y, .int c_latestSpent])), (h_w, .inl (cI, 8, .inl vw)), (h_r, .inl (cI, 4, .inl vr_91)), (h_k, .inr (1, [.ref h_kb, .int tsize_92, .int tat_93])), (h_kb, .inl (cI, 12, .inl vb_94)), (h_y, .inr (0, [.int yhits_95, .int yrunOuts_96, .int ybitsRead_97, .int yfewestBits_98]))] := hD
                              refine lv_aload_n hx hb d_L_law_486 rfl (lv_at hl 1 rfl) ?_
                              refine lv_aload_n hx hb d_L_law_487 rfl (lv_at hl 3 rfl) ?_
                              refine lv_iload_n hx hb d_L_law_488 rfl (lv_at hl 0 rfl) ?_
                              refine lv_iconst (v := (nI 1)) hx hb d_L_law_489 (by decide) ?_
                              refine lv_iadd hx hb d_L_law_490 ?_
                              refine va_sld hx hb hX hbl hbA hS hw.1 d_L_law_491 ?_
                              have hw := hw.2
                              refine lv_aload_n hx hb d_L_law_492 rfl (lv_at hl 3 rfl) ?_
                              refine lv_iload_n hx hb d_L_law_493 rfl (lv_at hl 0 rfl) ?_
                              refine lv_iconst (v := (nI 2)) hx hb d_L_law_494 (by decide) ?_
                              refine lv_iadd hx hb d_L_law_495 ?_
                              refine va_sld hx hb hX hbl hbA hS hw.1 d_L_law_496 ?_
                              have hw := hw.2
                              refine lv_aload_n hx hb d_L_law_497 rfl (lv_at hl 3 rfl) ?_
                              refine lv_iload_n hx hb d_L_law_498 rfl (lv_at hl 0 rfl) ?_
                              refine lv_iconst (v := (nI 3)) hx hb d_L_law_499 (by decide) ?_
                              refine lv_iadd hx hb d_L_law_500 ?_
                              refine va_sld hx hb hX hbl hbA hS hw.1 d_L_law_501 ?_
                              have hw := hw.2
                              refine lv_aload_n hx hb d_L_law_502 rfl (lv_at hl 3 rfl) ?_
                              refine lv_iload_n hx hb d_L_law_503 rfl (lv_at hl 0 rfl) ?_
                              refine lv_iconst (v := (nI 4)) hx hb d_L_law_504 (by decide) ?_
                              refine lv_iadd hx hb d_L_law_505 ?_
                              refine va_sld hx hb hX hbl hbA hS hw.1 d_L_law_506 ?_
                              have hw := hw.2
                              refine g_cVi (wr := [(h_t, .inr (1, [.ref h_b, .int t_size, .int t_at])), (h_b, .inl (cI, 256, .inl vb)), (h_oq, .inl (cI, 256, .inl voq)), (h_c, .inr (2, [.ref h_w, .ref h_r, .ref h_t, .ref h_k, .ref h_y, .int c_latestSpent])), (h_w, .inl (cI, 8, .inl vw)), (h_r, .inl (cI, 4, .inl vr_91)), (h_k, .inr (1, [.ref h_kb, .int tsize_92, .int tat_93])), (h_kb, .inl (cI, 12, .inl vb_94)), (h_y, .inr (0, [.int yhits_95, .int yrunOuts_96, .int ybitsRead_97, .int yfewestBits_98]))]) fx (c_M_first l D cI h_o h_ob h_or h_ow h_oq o_length o_spent o_many o_at o_isOut o_values o_failures o_works vob vor vow (xs ((x3 + (nI 1))).toNatClampNeg) (xs ((x3 + (nI 2))).toNatClampNeg) (xs ((x3 + (nI 3))).toNatClampNeg) (xs ((x3 + (nI 4))).toNatClampNeg) _ hw) mf_M_first w_346 ⟨rfl, rfl⟩ ⟨Nat.le_of_ble_eq_true rfl, Nat.le_of_ble_eq_true rfl⟩ hN hK hA hP hD hS [2, 5, 6, 3] [0, 1, 4, 7, 8, 9, 10, 11, 12] rfl rfl rfl rfl (by decide) 0 rfl rfl rfl rfl hl.1 (Nat.le_of_ble_eq_true rfl) d_L_law_507 ⟨Nat.le_of_ble_eq_true rfl, Nat.le_of_ble_eq_true rfl⟩ (fun r_99 u H locs hw hP hD hS => ?_)
                              obtain ⟨omany_100, oat_101, oisOut_102, ovalues_103, ofailures_104, oworks_105, vb_106, vr_107⟩ := u
                              try dsimp only at hw
                              have hP : va_P D gCl [(h_t, .inr (1, [.ref h_b, .int t_size, .int t_at])), (h_b, .inl (cI, 256, .inl vb)), (h_oq, .inl (cI, 256, .inl voq)), (h_c, .inr (2, [.ref h_w, .ref h_r, .ref h_t, .ref h_k, .ref h_y, .int c_latestSpent])), (h_w, .inl (cI, 8, .inl vw)), (h_r, .inl (cI, 4, .inl vr_91)), (h_k, .inr (1, [.ref h_kb, .int tsize_92, .int tat_93])), (h_kb, .inl (cI, 12, .inl vb_94)), (h_y, .inr (0, [.int yhits_95, .int yrunOuts_96, .int ybitsRead_97, .int yfewestBits_98])), (h_o, .inr (3, [.ref h_ow, .ref h_oq, .int o_length, .int o_spent, .ref h_ob, .int omany_100, .int oat_101, .int oisOut_102, .ref h_or, .int ovalues_103, .int ofailures_104, .int oworks_105])), (h_ob, .inl (cI, 256, .inl vb_106)), (h_or, .inl (cI, 4, .inl vr_107)), (h_ow, .inl (cI, 8, .inl vow))] H := hP
                              have hD : va_D A [(h_t, .inr (1, [.ref h_b, .int t_size, .int t_at])), (h_b, .inl (cI, 256, .inl vb)), (h_oq, .inl (cI, 256, .inl voq)), (h_c, .inr (2, [.ref h_w, .ref h_r, .ref h_t, .ref h_k, .ref h_y, .int c_latestSpent])), (h_w, .inl (cI, 8, .inl vw)), (h_r, .inl (cI, 4, .inl vr_91)), (h_k, .inr (1, [.ref h_kb, .int tsize_92, .int tat_93])), (h_kb, .inl (cI, 12, .inl vb_94)), (h_y, .inr (0, [.int yhits_95, .int yrunOuts_96, .int ybitsRead_97, .int yfewestBits_98])), (h_o, .inr (3, [.ref h_ow, .ref h_oq, .int o_length, .int o_spent, .ref h_ob, .int omany_100, .int oat_101, .int oisOut_102, .ref h_or, .int ovalues_103, .int ofailures_104, .int oworks_105])), (h_ob, .inl (cI, 256, .inl vb_106)), (h_or, .inl (cI, 4, .inl vr_107)), (h_ow, .inl (cI, 8, .inl vow))] := hD
                              refine lv_icmp_eq (tgt := 515) hx hb d_L_law_510 (by decide) (fun c510 => ?_) (fun c510 => ?_)
                              · have hw := hw.1 c510
                                refine lv_iinc (v := (x3 + (nI 6))) (lv' := [(3, .int (x3 + (nI 6))), (2, .ref h_o), (1, .ref h_c), (0, .ref b_s)]) hx hb d_L_law_515 hl (k := 0) rfl rfl (by decide) rfl (fun ls hl => ?_)
                                refine lv_goto (tgt := 18) hx hb d_L_law_518 (by decide) ?_
                                exact ih_18 _ _ _ _ _ _ _ _ _ _ _ _ _ _ _ _ _ _ _ _ _ _ _ _ _ _ hw _ _ _ (gSubP hP [3, 4, 5, 0, 1, 6, 7, 8, 9, 12, 2, 10, 11] rfl) (hD.sub [3, 4, 5, 0, 1, 6, 7, 8, 9, 12, 2, 10, 11] rfl rfl) hS (lv_sub hl [0, 1, 2, 3] rfl)
                              · have hw := hw.2 c510
                                refine lv_iconst (v := (nI 0)) hx hb d_L_law_513 (by decide) ?_
                                exact hw.elim
                            · have hw := hw.2 c33_10
                              refine lv_tableOut (tgt := 515) hx hb d_L_law_33 (by have h := g_out (x := ((xs (x3).toNatClampNeg) &&& (nI 15))) (n := 11) (by decide) (fun j hj => by rcases (show j = 0 ∨ j = 1 ∨ j = 2 ∨ j = 3 ∨ j = 4 ∨ j = 5 ∨ j = 6 ∨ j = 7 ∨ j = 8 ∨ j = 9 ∨ j = 10 by omega) with rfl | rfl | rfl | rfl | rfl | rfl | rfl | rfl | rfl | rfl | rfl <;> assumption); omega) (by decide) ?_
                              refine lv_iinc (v := (x3 + (nI 6))) (lv' := [(3, .int (x3 + (nI 6))), (2, .ref h_o), (1, .ref h_c), (0, .ref b_s)]) hx hb d_L_law_515 hl (k := 0) rfl rfl (by decide) rfl (fun ls hl => ?_)
                              refine lv_goto (tgt := 18) hx hb d_L_law_518 (by decide) ?_
                              exact ih_18 _ _ _ _ _ _ _ _ _ _ _ _ _ _ _ _ _ _ _ _ _ _ _ _ _ _ hw _ _ _ hP hD hS (lv_sub hl [0, 1, 2, 3] rfl)
  exact k_18 n_18 _ _ _ _ _ _ _ _ _ _ _ _ _ _ _ _ _ _ _ _ _ _ _ _ _ _ hw _ _ _ hP hD hS (lv_sub hl [0, 1, 2, 3] rfl)
end
section
theorem gN_on : ∀ w ∈ gN, w.onTables = true := by
  intro w hw
  simp only [gN, List.mem_cons, List.not_mem_nil, or_false] at hw
  rcases hw with rfl | rfl | rfl | rfl | rfl <;> rfl
/-- the walk of the law out of the pure part -/
theorem start_of {p : Program} {e : Env} {s : State} {m : MethodId} {below : List Frame} {meth : Method} {c : Code} (l : Launch) {b L : Nat} {xs : Nat → Int32} (hw : wp_L_law L xs) (C0 : lw_At p s m meth c b L xs) : W p l e room_1 s m #[Value.ref b] below meth c s.heap [] 0 0 (lw_Z below #[Value.ref b] s) (entryFrame m ([Value.ref b] : List Value).toArray 4) := by
  obtain ⟨hx, hb, hr, hml, hown, hts, hX, hbl, hlocks, hgv⟩ := C0
  have htG : ∀ w ∈ gG, w.before #[Value.ref b] s = true := fun w h => hts w (List.mem_filter.mp h).1
  have hN : gNest s := fun w hw => va_Nw.of (gN_on w hw) (hts w (List.mem_append_right _ (gN_tab w hw)))
  obtain ⟨c0, i0, k0⟩ := u_known (C := "TapeCounter$Tally") (T := TfY) (N := 4) (n := 4) htG inY (htG _ w_33)
  obtain ⟨c1, i1, k1⟩ := u_known (C := "TapeCounter$Tape") (T := TfT) (N := 3) (n := 3) htG inT (htG _ w_16)
  obtain ⟨c2, i2, k2⟩ := u_known (C := "TapeCounter") (T := TfC) (N := 6) (n := 6) htG inC (htG _ w_8)
  obtain ⟨c3, i3, k3⟩ := u_known (C := "TapeCounterModel") (T := TfM) (N := 12) (n := 12) htG inM (htG _ w_219)
  obtain ⟨cA, kA, comp, f1, f2, f3⟩ := Cond.arrayClass_spec (htG _ w_31)
  obtain ⟨dC, dI, hKc⟩ : ∃ (dC : Nat → ClassId) (dI : Nat → Nat → Nat), ∀ (k : Nat) (q : vw_C), gCl[k]? = some q → u_Kn s q.1 q.2.1 q.2.2 (dC k) (dI k) := by
    refine ⟨fun k => if k = 0 then c0 else if k = 1 then c1 else if k = 2 then c2 else c3, fun k => if k = 0 then i0 else if k = 1 then i1 else if k = 2 then i2 else i3, ?_⟩
    intro k q hq
    match k, hq with
    | 0, hq => cases hq; exact k0
    | 1, hq => cases hq; exact k1
    | 2, hq => cases hq; exact k2
    | 3, hq => cases hq; exact k3
    | k + 4, hq => simp [gCl] at hq
  have hK : va_K (dC, dI) gCl [(cA, .int)] s := ⟨hKc, fun k q h => by
    have hk : k < 1 := (List.getElem?_eq_some_iff.mp h).1
    have hk0 : k = 0 := by omega
    subst hk0
    cases h
    exact ⟨fun n z => ⟨fun k h => (by cases h), kA, f2, comp, f3⟩, f1⟩⟩
  have hl := lv_entry ([.ref b]) (n := 4) (Nat.le_of_ble_eq_true rfl)
  rw [lg_entry_eq]
  exact law_walk l hx hb hr hml hown htG hN hX hbl hlocks hK hw _ hl
end
section
/-! PURE: tapes as lists of bits, samplers as functions on them -/
def bI (b : Bool) : Int32 := nI b.toNat
def Tp (f : Nat → Int32) (a sz : Nat) (l : List Bool) : Prop := a + l.length = sz ∧ ∀ (j : Nat) (b : Bool), l[j]? = some b → f (a + j) = bI b
theorem Tp.nil {f : Nat → Int32} {a sz : Nat} (h : Tp f a sz []) : a = sz := by simpa [Tp] using h.1
theorem Tp.cons {f : Nat → Int32} {a sz : Nat} {b : Bool} {l : List Bool} (h : Tp f a sz (b :: l)) : f a = bI b ∧ a < sz ∧ Tp f (a + 1) sz l := by
  obtain ⟨h1, h2⟩ := h
  simp only [List.length_cons] at h1
  refine ⟨by simpa using h2 0 b rfl, by omega, by omega, fun j c hj => ?_⟩
  have := h2 (j + 1) c (by simpa using hj)
  rw [show a + 1 + j = a + (j + 1) by omega]
  exact this
theorem Tp.le {f : Nat → Int32} {a sz : Nat} {l : List Bool} (h : Tp f a sz l) : a ≤ sz := by have := h.1; omega
theorem bI_ne (b : Bool) : ¬ bI b = (-1) := by cases b <;> decide
theorem bI_eq1 (b : Bool) : bI b = nI 1 ↔ b = true := by cases b <;> decide
theorem bI_eq0 (b : Bool) : bI b = nI 0 ↔ b = false := by cases b <;> decide
theorem nI_ne {n : Nat} (h : n < 2 ^ 31) : ¬ nI n = (-1) := by
  intro e
  have h1 := congrArg Int32.toInt e
  rw [nI_toInt h] at h1
  have h2 : (-1 : Int32).toInt = -1 := by decide
  omega
theorem nI_i0 {n : Nat} (h : n < 2 ^ 31) : nI n = 0 ↔ n = 0 := by
  rw [show (0 : Int32) = nI 0 from rfl]; exact nI_eq h (by omega)
theorem nI_l0 {n : Nat} (h : n < 2 ^ 31) : nI n ≤ 0 ↔ n = 0 := by
  rw [show (0 : Int32) = nI 0 from rfl, nI_leI h (by omega)]; omega
theorem nI_t0 {n : Nat} (h : n < 2 ^ 31) : ¬ nI n < 0 := nI_pos h
/-- the outcome of a reading: run out, or a value and what is left -/
def Rd (f : Nat → Int32) (sz : Nat) (o : Option (Nat × List Bool)) (post : Int32 → Int32 → Prop) : Prop := match o with
  | none => post (-1) (nI sz)
  | some q => ∀ a, Tp f a sz q.2 → post (nI q.1) (nI a)
def rdN : Nat → Nat → List Bool → Option (Nat × List Bool)
  | 0, acc, l => some (acc, l)
  | _ + 1, _, [] => none
  | k + 1, acc, b :: l => rdN k (2 * acc + b.toNat) l
def bitsF (a : Nat) : Nat := if a ≤ 1 then 0 else if a ≤ 2 then 1 else if a ≤ 4 then 2 else if a ≤ 8 then 3 else if a ≤ 16 then 4 else if a ≤ 32 then 5 else 6
def plainS (a : Nat) : Nat → List Bool → Option (Nat × List Bool)
  | 0, _ => none
  | n + 1, l => match rdN (bitsF a) 0 l with
    | none => none
    | some q => if q.1 < a then some q else plainS a n q.2
def thrS (a : Nat) : Nat → Nat → Nat → List Bool → Option (Nat × List Bool)
  | 0, _, _, _ => none
  | n + 1, r, v, l => if r < a then (match l with
      | [] => none
      | b :: l' => thrS a n (2 * r) (2 * v + b.toNat) l')
    else if a ≤ v then (match l with
      | [] => none
      | b :: l' => thrS a n (2 * (r - a)) (2 * (v - a) + b.toNat) l')
    else some (v, l)
def coinS (B : Nat) : Nat → Nat → List Bool → Option (Nat × List Bool)
  | 0, _, _ => none
  | n + 1, h, l => if h = 0 then some (0, l) else if h = B then some (1, l) else (match l with
      | [] => none
      | b :: l' => if 2 * h < B then (if b then some (0, l') else coinS B n (2 * h) l') else (if b then coinS B n (2 * h - B) l' else some (1, l')))
def tosS : Nat → Nat → List Bool → Option (Nat × List Bool)
  | 0, o, l => some (o, l)
  | _ + 1, _, [] => none
  | k + 1, o, b :: l => tosS k (o + b.toNat) l
def waiS : Nat → Nat → List Bool → Option (Nat × List Bool)
  | 0, z, l => some (z, l)
  | _ + 1, _, [] => none
  | k + 1, z, b :: l => if b then some (z, l) else waiS k (z + 1) l
def swp (ρ : Nat → Nat) (i j : Nat) : Nat → Nat := fun k => if k = j then ρ i else if k = i then ρ j else ρ k
def ordL : Nat → (Nat → Nat) → List Bool → Option ((Nat → Nat) × List Bool)
  | 0, ρ, l => some (ρ, l)
  | i + 1, ρ, l => match plainS (i + 2) 257 l with
    | none => none
    | some q => ordL i (swp ρ (i + 1) q.1) q.2
def les (ρ : Nat → Nat) (i j : Nat) : Nat := if ρ j < ρ i then 1 else 0
def rnk (a : Nat) (ρ : Nat → Nat) : Nat := match a with
  | 1 => 0
  | 2 => les ρ 0 1
  | 3 => 2 * (les ρ 0 1 + les ρ 0 2) + les ρ 1 2
  | _ => 6 * (les ρ 0 1 + les ρ 0 2 + les ρ 0 3) + 2 * (les ρ 1 2 + les ρ 1 3) + les ρ 2 3
def ordS (a : Nat) (l : List Bool) : Option (Nat × List Bool) := (ordL (a - 1) (fun k => k) l).map (fun q => (rnk a q.1, q.2))
def choL (a b : Nat) : Nat → Nat → Nat → List Bool → Option (Nat × List Bool)
  | 0, _, s, l => some (s, l)
  | k + 1, t, s, l => match coinS (k + 1) 257 (b - t) l with
    | none => none
    | some q => choL a b k (t + q.1) (s + q.1 * 2 ^ (a - (k + 1))) q.2
def pfx (w : Nat → Nat) : Nat → Nat
  | 0 => 0
  | n + 1 => pfx w n + w n
def shF (w : Nat → Nat) (v : Nat) : Nat → Nat → Nat
  | 0, i => i
  | k + 1, i => if v < pfx w (i + 1) then i else shF w v k (i + 1)
def shaS (w : Nat → Nat) (l : List Bool) : Option (Nat × List Bool) := (plainS (pfx w 8) 257 l).map (fun q => (shF w q.1 7 0, q.2))
def samp (kind a b : Nat) (w : Nat → Nat) (l : List Bool) : Option (Nat × List Bool) := match kind with
  | 0 => plainS a 257 l
  | 1 => thrS a 257 1 0 l
  | 2 => coinS b 257 a l
  | 3 => tosS a 0 l
  | 4 => waiS a 0 l
  | 5 => ordS a l
  | 6 => choL a b a 0 0 l
  | _ => shaS w l
/-- which samplers there are -/
def okS (kind a b : Nat) (w : Nat → Nat) : Prop := match kind with
  | 0 => 1 ≤ a ∧ a ≤ 64
  | 1 => 1 ≤ a ∧ a ≤ 64
  | 2 => 1 ≤ b ∧ b ≤ 64 ∧ a ≤ b
  | 3 => a ≤ 12
  | 4 => a ≤ 12
  | 5 => 1 ≤ a ∧ a ≤ 4
  | 6 => 1 ≤ a ∧ a ≤ 6 ∧ b ≤ a
  | 7 => 1 ≤ pfx w 8 ∧ pfx w 8 ≤ 64
  | _ => False
/-! the class reads a bit, a number -/
section PU
variable {f : Nat → Int32} {N sz : Nat} {post : Int32 → Int32 → Prop}
theorem p_readBit {a : Nat} {l : List Bool} (hT : Tp f a sz l) (hz : sz ≤ N) (hN : N < 2 ^ 30) (h0 : l = [] → post (-1) (nI sz)) (h1 : ∀ b l', l = b :: l' → Tp f (a + 1) sz l' → post (bI b) (nI (a + 1))) : wp_T_readBit post N (nI sz) (nI a) f := by
  have hle := hT.le
  rw [wp_T_readBit]
  refine pk_lt a sz (fun h => ?_) (fun h => ?_)
  · cases l with
    | nil => exact absurd hT.nil (by omega)
    | cons b l' =>
      obtain ⟨e1, e2, e3⟩ := hT.cons
      refine ⟨pk_in a N (by omega), ?_⟩
      rw [nI_clamp (by omega), e1, nI_add]
      exact h1 b l' rfl e3
  · cases l with
    | nil => rw [hT.nil]; exact h0 rfl
    | cons b l' => exact absurd hT.cons.2.1 (by omega)
theorem p_rn {k : Nat} (hk : k ≤ 6) (hz : sz ≤ N) (hN : N < 2 ^ 30) : ∀ (n i acc a : Nat) (l : List Bool), k - i < n → i ≤ k → acc < 2 ^ i → Tp f a sz l → Rd f sz (rdN (k - i) acc l) post → gL3 (wpF_T_readNumber_4 post N (nI sz) f (nI k)) n (nI a) (nI acc) (nI i) := by
  intro n
  induction n with
  | zero => intro i acc a l h; omega
  | succ n ih =>
    intro i acc a l hn hi hacc hT hR
    have hp : 2 ^ i ≤ 2 ^ 6 := Nat.pow_le_pow_right (by omega) (by omega)
    show wpF_T_readNumber_4 post N (nI sz) f (nI k) (gL3 _ n) (nI a) (nI acc) (nI i)
    rw [wpF_T_readNumber_4]
    refine pk_le k i (fun h => ?_) (fun h => ?_)
    · rw [show k - i = 0 by omega] at hR
      exact hR a hT
    · rw [show k - i = (k - (i + 1)) + 1 by omega] at hR
      refine p_readBit hT hz hN (fun e => ?_) (fun b l' e hT' => ?_)
      · subst e
        exact ⟨fun h => absurd rfl h, fun _ => hR⟩
      · subst e
        refine ⟨fun _ => ?_, fun h => absurd h (bI_ne b)⟩
        rw [show nI 2 * nI acc + bI b = nI (2 * acc + b.toNat) by rw [pk_mul]; exact nI_add _ _, nI_add]
        refine ih (i + 1) _ (a + 1) l' (by omega) (by omega) ?_ hT' hR
        have : b.toNat ≤ 1 := Bool.toNat_le b
        rw [Nat.pow_succ]; omega
theorem p_readNumber {k a : Nat} {l : List Bool} (hk : k ≤ 6) (hz : sz ≤ N) (hN : N < 2 ^ 30) (hT : Tp f a sz l) (hR : Rd f sz (rdN k 0 l) post) : wp_T_readNumber post N (nI sz) (nI a) f (nI k) := by
  rw [wp_T_readNumber]
  exact ⟨k + 1, p_rn hk hz hN (k + 1) 0 0 a l (by omega) (by omega) (by decide) hT hR⟩
end PU
end
section
/-! the class's samplers that read the tape alone -/
theorem s_l31 : ∀ n, n < 32 → ((nI n &&& 31).toBitVec.smod 32).toNat = n := by decide +kernel
theorem nI_shl1 {i : Nat} (h : i < 31) : nI 1 <<< (nI i &&& 31) = nI (2 ^ i) := by
  have hp : 2 ^ i < 2 ^ 32 := Nat.pow_lt_pow_right (by omega) (by omega)
  rw [pk_shlN (n := 1) (nI i &&& 31) i (s_l31 i (by omega)) (by omega), Nat.one_mul]
theorem bitsF_le (a : Nat) : bitsF a ≤ 6 := by
  unfold bitsF
  repeat' split
  all_goals omega
theorem bitsF_0 {a : Nat} (h : bitsF a = 0) : a ≤ 1 := by
  unfold bitsF at h
  repeat' split at h
  all_goals omega
theorem bitsF_pow {a : Nat} (h : a ≤ 64) : a ≤ 2 ^ bitsF a := by
  unfold bitsF
  repeat' split
  all_goals omega
theorem bitsF_eq {a i : Nat} (hi : i ≤ 6) (h1 : ∀ j, j < i → ¬ a ≤ 2 ^ j) (h2 : i < 6 → a ≤ 2 ^ i) : bitsF a = i := by
  unfold bitsF
  rcases (show i = 0 ∨ i = 1 ∨ i = 2 ∨ i = 3 ∨ i = 4 ∨ i = 5 ∨ i = 6 by omega) with rfl | rfl | rfl | rfl | rfl | rfl | rfl
  · have := h2 (by omega); repeat' split
    all_goals omega
  · have := h2 (by omega); have := h1 0 (by omega); repeat' split
    all_goals omega
  · have := h2 (by omega); have := h1 1 (by omega); repeat' split
    all_goals omega
  · have := h2 (by omega); have := h1 2 (by omega); repeat' split
    all_goals omega
  · have := h2 (by omega); have := h1 3 (by omega); repeat' split
    all_goals omega
  · have := h2 (by omega); have := h1 4 (by omega); repeat' split
    all_goals omega
  · have := h1 5 (by omega); repeat' split
    all_goals omega
theorem p_bf {a : Nat} {post : Int32 → Prop} (ha : a < 2 ^ 31) (hp : post (nI (bitsF a))) : ∀ n i : Nat, 6 - i < n → i ≤ 6 → (∀ j, j < i → ¬ a ≤ 2 ^ j) → gL1 (wpF_C_bitsFor_2 post (nI a)) n (nI i) := by
  intro n
  induction n with
  | zero => intro i h; omega
  | succ n ih =>
    intro i hn hi h1
    have hpw : 2 ^ i ≤ 2 ^ 6 := Nat.pow_le_pow_right (by omega) hi
    show wpF_C_bitsFor_2 post (nI a) (gL1 _ n) (nI i)
    rw [wpF_C_bitsFor_2, nI_shl1 (by omega)]
    refine pk_le 6 i (fun h => ?_) (fun h => ?_)
    · rw [bitsF_eq hi h1 (fun h => by omega)] at hp
      exact hp
    · refine pk_le a (2 ^ i) (fun h2 => ?_) (fun h2 => ?_)
      · rw [bitsF_eq hi h1 (fun _ => h2)] at hp
        exact hp
      · rw [nI_add]
        refine ih (i + 1) (by omega) (by omega) (fun j hj => ?_)
        by_cases e : j = i
        · subst e; omega
        · exact h1 j (by omega)
theorem p_bitsFor {a : Nat} {post : Int32 → Prop} (ha : a < 2 ^ 31) (hp : post (nI (bitsF a))) : wp_C_bitsFor post (nI a) := by
  rw [wp_C_bitsFor]
  exact ⟨7, p_bf ha hp 7 0 (by omega) (by omega) (fun j h => by omega)⟩
theorem rdN_len : ∀ (k acc : Nat) (l : List Bool) (q : Nat × List Bool), rdN k acc l = some q → q.2.length + k = l.length := by
  intro k
  induction k with
  | zero => intro acc l q h; cases h; rfl
  | succ k ih =>
    intro acc l q h
    cases l with
    | nil => cases h
    | cons b l =>
      have := ih _ _ _ h
      simp only [List.length_cons]; omega
theorem rdN_lt : ∀ (k acc c : Nat) (l : List Bool) (q : Nat × List Bool), acc < c → rdN k acc l = some q → q.1 < c * 2 ^ k := by
  intro k
  induction k with
  | zero => intro acc c l q hc h; cases h; simpa using hc
  | succ k ih =>
    intro acc c l q hc h
    cases l with
    | nil => cases h
    | cons b l =>
      have hb : b.toNat ≤ 1 := Bool.toNat_le b
      have := ih (2 * acc + b.toNat) (2 * c) l q (by omega) h
      rw [Nat.pow_succ]
      have e : 2 * c * 2 ^ k = c * (2 ^ k * 2) := by rw [Nat.mul_comm 2 c, Nat.mul_assoc, Nat.mul_comm 2]
      omega
theorem rdN_64 {k : Nat} (hk : k ≤ 6) {l : List Bool} {q : Nat × List Bool} (h : rdN k 0 l = some q) : q.1 < 64 := by
  have h1 := rdN_lt k 0 1 l q (by omega) h
  have h2 : 2 ^ k ≤ 2 ^ 6 := Nat.pow_le_pow_right (by omega) hk
  omega
section PV
variable {f : Nat → Int32} {N sz : Nat} {post : Int32 → Int32 → Prop}
theorem p_pl {A : Nat} (hA : 1 ≤ A) (hA2 : A ≤ 64) (hz : sz ≤ N) (hN : N < 2 ^ 30) : ∀ (n r a : Nat) (l : List Bool), 257 - r < n → r + l.length ≤ 256 → Tp f a sz l → Rd f sz (plainS A (257 - r) l) post → gL2 (wpF_C_plain_7 post N (nI sz) f (nI A) (nI (bitsF A))) n (nI a) (nI r) := by
  intro n
  induction n with
  | zero => intro r a l h; omega
  | succ n ih =>
    intro r a l hn hr hT hR
    show wpF_C_plain_7 post N (nI sz) f (nI A) (nI (bitsF A)) (gL2 _ n) (nI a) (nI r)
    rw [wpF_C_plain_7]
    refine pk_lt 256 r (fun h => by omega) (fun h => ?_)
    rw [show 257 - r = (256 - r) + 1 by omega] at hR
    refine p_readNumber (bitsF_le A) hz hN hT ?_
    unfold plainS at hR
    cases hq : rdN (bitsF A) 0 l with
    | none =>
      rw [hq] at hR
      exact ⟨fun _ => hR, fun h => absurd rfl h⟩
    | some q =>
      rw [hq] at hR
      have hl := rdN_len _ _ _ _ hq
      have h64 := rdN_64 (bitsF_le A) hq
      intro a' hT'
      refine ⟨fun h => absurd h (nI_ne (by omega)), fun _ => ?_⟩
      refine pk_le A q.1 (fun h2 => ?_) (fun h2 => ?_)
      · have hb : bitsF A ≠ 0 := fun e => by
          rw [e] at hq
          cases hq
          have := bitsF_0 e
          omega
        rw [nI_add]
        dsimp only at hR
        rw [if_neg (by omega)] at hR
        refine ih (r + 1) a' q.2 (by omega) (by omega) hT' ?_
        rw [show 257 - (r + 1) = 256 - r by omega]
        exact hR
      · dsimp only at hR
        rw [if_pos h2] at hR
        exact hR a' hT'
theorem p_plain {A a : Nat} {l : List Bool} (hA : 1 ≤ A) (hA2 : A ≤ 64) (hz : sz ≤ N) (hN : N < 2 ^ 30) (hL : l.length ≤ 256) (hT : Tp f a sz l) (hR : Rd f sz (plainS A 257 l) post) : wp_C_plain post N (nI sz) (nI a) f (nI A) := by
  rw [wp_C_plain]
  exact p_bitsFor (by omega) ⟨258, p_pl hA hA2 hz hN 258 0 a l (by omega) (by omega) hT hR⟩
theorem p_th {A : Nat} (hA : 1 ≤ A) (hA2 : A ≤ 64) (hz : sz ≤ N) (hN : N < 2 ^ 30) : ∀ (n st r v a : Nat) (l : List Bool), 257 - st < n → st + l.length ≤ 256 → v < r → r < 2 * A → Tp f a sz l → Rd f sz (thrS A (257 - st) r v l) post → gL4 (wpF_C_thrifty_7 post N (nI sz) f (nI A)) n (nI a) (nI r) (nI v) (nI st) := by
  intro n
  induction n with
  | zero => intro st r v a l h; omega
  | succ n ih =>
    intro st r v a l hn hs hv hr hT hR
    show wpF_C_thrifty_7 post N (nI sz) f (nI A) (gL4 _ n) (nI a) (nI r) (nI v) (nI st)
    rw [wpF_C_thrifty_7]
    refine pk_lt 256 st (fun h => by omega) (fun h => ?_)
    rw [show 257 - st = (256 - st) + 1 by omega] at hR
    unfold thrS at hR
    refine pk_lt r A (fun h2 => ?_) (fun h2 => ?_)
    · rw [if_pos h2] at hR
      refine p_readBit hT hz hN (fun e => ?_) (fun b l' e hT' => ?_)
      · subst e
        exact ⟨fun h => absurd rfl h, fun _ => hR⟩
      · subst e
        have hb : b.toNat ≤ 1 := Bool.toNat_le b
        refine ⟨fun _ => ?_, fun h => absurd h (bI_ne b)⟩
        simp only [List.length_cons] at hs
        rw [show nI 2 * nI v + bI b = nI (2 * v + b.toNat) by rw [pk_mul]; exact nI_add _ _, pk_mul, nI_add]
        refine ih (st + 1) _ _ (a + 1) l' (by omega) (by omega) (by omega) (by omega) hT' ?_
        rw [show 257 - (st + 1) = 256 - st by omega]
        exact hR
    · rw [if_neg (by omega)] at hR
      refine pk_le A v (fun h3 => ?_) (fun h3 => ?_)
      · rw [if_pos h3] at hR
        refine p_readBit hT hz hN (fun e => ?_) (fun b l' e hT' => ?_)
        · subst e
          exact ⟨fun h => absurd rfl h, fun _ => hR⟩
        · subst e
          have hb : b.toNat ≤ 1 := Bool.toNat_le b
          refine ⟨fun _ => ?_, fun h => absurd h (bI_ne b)⟩
          simp only [List.length_cons] at hs
          rw [pk_sub h3, pk_sub (by omega : A ≤ r), show nI 2 * nI (v - A) + bI b = nI (2 * (v - A) + b.toNat) by rw [pk_mul]; exact nI_add _ _, pk_mul, nI_add]
          refine ih (st + 1) _ _ (a + 1) l' (by omega) (by omega) (by omega) (by omega) hT' ?_
          rw [show 257 - (st + 1) = 256 - st by omega]
          exact hR
      · rw [if_neg (by omega)] at hR
        exact hR a hT
theorem p_thrifty {A a : Nat} {l : List Bool} (hA : 1 ≤ A) (hA2 : A ≤ 64) (hz : sz ≤ N) (hN : N < 2 ^ 30) (hL : l.length ≤ 256) (hT : Tp f a sz l) (hR : Rd f sz (thrS A 257 1 0 l) post) : wp_C_thrifty post N (nI sz) (nI a) f (nI A) := by
  rw [wp_C_thrifty]
  exact ⟨258, p_th hA hA2 hz hN 258 0 1 0 a l (by omega) (by omega) (by omega) (by omega) hT hR⟩
theorem p_co {B : Nat} (hB : B ≤ 64) (hz : sz ≤ N) (hN : N < 2 ^ 30) : ∀ (n st h a : Nat) (l : List Bool), 257 - st < n → st + l.length ≤ 256 → h ≤ B → Tp f a sz l → Rd f sz (coinS B (257 - st) h l) post → gL3 (wpF_C_coin_5 post N (nI sz) f (nI B)) n (nI a) (nI h) (nI st) := by
  intro n
  induction n with
  | zero => intro st h a l h; omega
  | succ n ih =>
    intro st h a l hn hs hh hT hR
    show wpF_C_coin_5 post N (nI sz) f (nI B) (gL3 _ n) (nI a) (nI h) (nI st)
    rw [wpF_C_coin_5]
    refine pk_lt 256 st (fun h => by omega) (fun hst => ?_)
    rw [show 257 - st = (256 - st) + 1 by omega] at hR
    unfold coinS at hR
    refine ⟨fun h0 => ?_, fun h0 => ?_⟩
    · have h0 : h ≠ 0 := fun e => h0 (by rw [e]; rfl)
      rw [if_neg h0] at hR
      refine ⟨fun h1 => ?_, fun h1 => ?_⟩
      · have h1 : h ≠ B := fun e => h1 (by rw [e])
        rw [if_neg h1] at hR
        refine p_readBit hT hz hN (fun e => ?_) (fun b l' e hT' => ?_)
        · subst e
          exact ⟨fun h => absurd rfl h, fun _ => hR⟩
        · subst e
          simp only [List.length_cons] at hs
          refine ⟨fun _ => ?_, fun h => absurd h (bI_ne b)⟩
          dsimp only at hR
          rw [pk_mul, nI_add, bI_eq0, bI_eq1]
          refine pk_lt (2 * h) B (fun h2 => ?_) (fun h2 => ?_)
          · rw [if_pos h2] at hR
            refine ⟨fun _ => ⟨fun e => ?_, fun e => ?_⟩, fun e => absurd e (by decide)⟩
            · subst e
              rw [if_neg (by decide)] at hR
              refine ih (st + 1) _ (a + 1) l' (by omega) (by omega) (by omega) hT' ?_
              rw [show 257 - (st + 1) = 256 - st by omega]
              exact hR
            · have e : b = true := by cases b <;> simp_all
              rw [if_pos e] at hR
              exact hR (a + 1) hT'
          · rw [if_neg (by omega)] at hR
            refine ⟨fun e => absurd rfl e, fun _ => ⟨fun e => ?_, fun e => ?_⟩⟩
            · rw [if_pos e] at hR
              rw [pk_sub h2]
              refine ih (st + 1) _ (a + 1) l' (by omega) (by omega) (by omega) hT' ?_
              rw [show 257 - (st + 1) = 256 - st by omega]
              exact hR
            · rw [if_neg e] at hR
              exact hR (a + 1) hT'
      · have h1 : h = B := (nI_eq (by omega) (by omega)).mp h1
        rw [if_pos h1] at hR
        exact hR a hT
    · have h0 : h = 0 := (nI_i0 (by omega)).mp h0
      rw [if_pos h0] at hR
      exact hR a hT
theorem p_coin {B h a : Nat} {l : List Bool} (hB : B ≤ 64) (hh : h ≤ B) (hz : sz ≤ N) (hN : N < 2 ^ 30) (hL : l.length ≤ 256) (hT : Tp f a sz l) (hR : Rd f sz (coinS B 257 h l) post) : wp_C_coin post N (nI sz) (nI a) f (nI h) (nI B) := by
  rw [wp_C_coin]
  exact ⟨258, p_co hB hz hN 258 0 h a l (by omega) (by omega) hh hT hR⟩
theorem p_to {k : Nat} (hk : k ≤ 12) (hz : sz ≤ N) (hN : N < 2 ^ 30) : ∀ (n i o a : Nat) (l : List Bool), k - i < n → i ≤ k → o ≤ i → Tp f a sz l → Rd f sz (tosS (k - i) o l) post → gL3 (wpF_C_tosses_4 post N (nI sz) f (nI k)) n (nI a) (nI o) (nI i) := by
  intro n
  induction n with
  | zero => intro i o a l h; omega
  | succ n ih =>
    intro i o a l hn hi ho hT hR
    show wpF_C_tosses_4 post N (nI sz) f (nI k) (gL3 _ n) (nI a) (nI o) (nI i)
    rw [wpF_C_tosses_4]
    refine pk_le k i (fun h => ?_) (fun h => ?_)
    · rw [show k - i = 0 by omega] at hR
      exact hR a hT
    · rw [show k - i = (k - (i + 1)) + 1 by omega] at hR
      refine p_readBit hT hz hN (fun e => ?_) (fun b l' e hT' => ?_)
      · subst e
        exact ⟨fun h => absurd rfl h, fun _ => hR⟩
      · subst e
        have hb : b.toNat ≤ 1 := Bool.toNat_le b
        refine ⟨fun _ => ?_, fun h => absurd h (bI_ne b)⟩
        rw [show nI o + bI b = nI (o + b.toNat) from nI_add _ _, nI_add]
        exact ih (i + 1) _ (a + 1) l' (by omega) (by omega) (by omega) hT' hR
theorem p_tosses {k a : Nat} {l : List Bool} (hk : k ≤ 12) (hz : sz ≤ N) (hN : N < 2 ^ 30) (hT : Tp f a sz l) (hR : Rd f sz (tosS k 0 l) post) : wp_C_tosses post N (nI sz) (nI a) f (nI k) := by
  rw [wp_C_tosses]
  exact ⟨k + 1, p_to hk hz hN (k + 1) 0 0 a l (by omega) (by omega) (by omega) hT hR⟩
theorem p_zb {k : Nat} (hk : k ≤ 12) (hz : sz ≤ N) (hN : N < 2 ^ 30) : ∀ (n i a : Nat) (l : List Bool), k - i < n → i ≤ k → Tp f a sz l → Rd f sz (waiS (k - i) i l) post → gL2 (wpF_C_zerosBeforeOne_2 post N (nI sz) f (nI k)) n (nI a) (nI i) := by
  intro n
  induction n with
  | zero => intro i a l h; omega
  | succ n ih =>
    intro i a l hn hi hT hR
    show wpF_C_zerosBeforeOne_2 post N (nI sz) f (nI k) (gL2 _ n) (nI a) (nI i)
    rw [wpF_C_zerosBeforeOne_2]
    refine pk_le k i (fun h => ?_) (fun h => ?_)
    · rw [show k - i = 0 by omega] at hR
      rw [show k = i by omega]
      exact hR a hT
    · rw [show k - i = (k - (i + 1)) + 1 by omega] at hR
      refine p_readBit hT hz hN (fun e => ?_) (fun b l' e hT' => ?_)
      · subst e
        exact ⟨fun h => absurd rfl h, fun _ => hR⟩
      · subst e
        refine ⟨fun _ => ?_, fun h => absurd h (bI_ne b)⟩
        unfold waiS at hR
        try dsimp only at hR
        rw [bI_eq1]
        refine ⟨fun e => ?_, fun e => ?_⟩
        · rw [if_neg e] at hR
          rw [nI_add]
          exact ih (i + 1) (a + 1) l' (by omega) (by omega) hT' hR
        · rw [if_pos e] at hR
          exact hR (a + 1) hT'
theorem p_wait {k a : Nat} {l : List Bool} (hk : k ≤ 12) (hz : sz ≤ N) (hN : N < 2 ^ 30) (hT : Tp f a sz l) (hR : Rd f sz (waiS k 0 l) post) : wp_C_zerosBeforeOne post N (nI sz) (nI a) f (nI k) := by
  rw [wp_C_zerosBeforeOne]
  exact ⟨k + 1, p_zb hk hz hN (k + 1) 0 a l (by omega) (by omega) hT hR⟩
end PV
end
section
theorem law_pure {sL : Nat} (hL : sL ≤ 3072) (xs : Nat → Int32) : wp_L_law sL xs := by
  sorry
theorem whole_start {p : Program} {e : Env} {s : State} {m : MethodId} {below : List Frame} {meth : Method} {c : Code} (l : Launch) {b L : Nat} {xs : Nat → Int32} (hL : L ≤ 3072) (C0 : lw_At p s m meth c b L xs) : W p l e room_1 s m #[Value.ref b] below meth c s.heap [] 0 0 (lw_Z below #[Value.ref b] s) (entryFrame m ([Value.ref b] : List Value).toArray 4) :=
  start_of l (law_pure hL xs) C0
set_option maxHeartbeats 4000000 in
theorem lw_walk (l : Launch) (b : Addr) (xs : List Int32) : MetFree l x (headSpec (Jvm.Cond.code x code maxLocals ret :: tables_1) room_1) (lw_P b xs) (fun _ _ _ _ _ => True) lw_Q := by
  refine MetFree.of_bodyS (code := code) (maxLocals := maxLocals) (ret := ret) (by decide) ?_ ?_
  · intro args s m h hn
    obtain ⟨meth, c, h1, h2, h3, h4, h5, h6, -, -⟩ := Cond.code_spec hn (atoms_spec (ws := Jvm.Cond.code x code maxLocals ret :: tables_1) h _ List.mem_cons_self)
    exact ⟨meth, c, h1, h2, h3, h4, h5, h6⟩
  · intro p e s m args below meth c s₁ B hml0 hP _
    obtain ⟨rfl, hx, hbd, hgv⟩ := hP
    obtain ⟨scr, harrAt, hlist, hof, hsmall⟩ := hx
    obtain ⟨hcb, hkn, -, -⟩ := State.arrayAt?_spec harrAt
    have hown : s.vm.findClass R_law = some m.cls := findClass_of_methodNamed B.named
    have hts0 : ∀ c ∈ (Jvm.Cond.code x code maxLocals ret :: tables_1), c.before #[Value.ref b] s = true := atoms_spec (ws := Jvm.Cond.code x code maxLocals ret :: tables_1) B.pre
    have hts : ∀ w ∈ lw_tbl, w.before #[Value.ref b] s = true := k2_hts_sels lw_privs (fun w hw => hts0 w (List.mem_cons_of_mem _ hw)) lw_privs_ok
    have hml : c.maxLocals = 4 := B.maxLocals_eq (hts0 _ List.mem_cons_self)
    have X₀ : Stand p l e room_1 s m #[Value.ref b] below meth c s₁ [] 0 0 := Stand.of_body B
    have hh0 : s₁.heap = s.heap := by rw [B.state]; rfl
    have hsz : scr.slots.size = xs.length := by rw [← Array.length_toList, hlist, List.length_map]
    have hval : ∀ j : Nat, j < xs.length → scr.slots[j]? = some (.int (xs.getD j 0)) := fun j hj => by
      rw [← Array.getElem?_toList, hlist]
      simp [hj]
    have hbl : b < s.heap.size := (Array.getElem?_eq_some_iff.mp hcb).1
    have hX : va_X b xs.length (fun j => xs.getD j 0) s s.heap := ⟨scr, hcb, hof, hkn, hsz, hval⟩
    have K : W p l e room_1 s m #[Value.ref b] below meth c s₁.heap [] 0 0 (lw_Z below #[Value.ref b] s) (entryFrame m ([Value.ref b] : List Value).toArray 4) := by
      rw [hh0]
      exact whole_start l hbd ⟨B.exec, B.bytes, B.returns, hml, hown, hts, hX, hbl, B.notSynchronized, hgv⟩
    obtain ⟨t, a1, o, b1, b2, b3⟩ := K s₁ rfl X₀
    exact ⟨t, o, a1, b1, b2, b3⟩
theorem lw_pre_spec {args : Array Value} {s : State} (h : (Jvm.Cond.and given_1 narrow_1).before args s = true) (hr : rest_1_c.before args s = true) : ∃ (b : Addr) (xs : List Int32), lw_P b xs args s := by
  have hs := flat_of_before _ h
  have hq := flat_of_before _ hr
  have hc : (Cond.count 1).before args s = true := hs _ (by decide +kernel)
  have harr : (Cond.arrayOf (.arg 0) .int).before args s = true := hs _ (by decide +kernel)
  have hle : (Cond.le (.length (.arg 0)) (.int 3072)).before args s = true := hs _ (by decide +kernel)
  have hlen : (Cond.isInt (.length (.arg 0))).before args s = true := hq _ (by decide +kernel)
  have hall : (Cond.all (.arg 0) (.isInt (.elem (.arg 0) (.index 0)))).before args s = true := hq _ (by decide +kernel)
  obtain ⟨b, xs, hb, hx⟩ := State.ints_of_pre rfl harr hlen hall
  have hsm : xs.length < 2 ^ 31 := hx.choose_spec.2.2.2
  have hev : (Term.length (.arg 0)).eval args s none [] s = some (.int xs.length.toInt32) := hx.length_eval hb
  have hv := Cond.le_ints hev (show (Term.int 3072).eval args s none [] s = some (.int 3072) from rfl)
  have hd : xs.length.toInt32 ≤ 3072 := by
    simpa [Cond.before, Cond.holds, hv] using hle
  have hN : xs.length ≤ 3072 := (Int32.ofNat_le_ofNat hsm (by decide)).mp (show Int32.ofNat xs.length ≤ Int32.ofNat 3072 from hd)
  exact ⟨b, xs, Cond.one_arg hc (show args[0]? = some (.ref b) from hb), hx, hN, h⟩
theorem lw_comes (l : Launch) : Comes l x (Jvm.Cond.code x code maxLocals ret :: tables_1) room_1 (fun tb e args s => Calls_1 tb e args s ∧ rest_1 tb e args s ∧ Pre_1 tb e args s)
    (fun _ _ args s o t => lw_Q args s o t) := by
  intro p e ha hc hk s m args below hf hfit hheap happ hpre
  obtain ⟨b, xs, hP⟩ := lw_pre_spec hpre.2.2 hpre.2.1
  obtain ⟨k, o, h1, h2, h3, hQ⟩ := lw_walk l b xs p e ha hc hk s m args below hf ((Spec.applies_iff_loose hf).mp happ).1 hP trivial
  exact ⟨k, o, h1, h2, h3, hQ⟩
theorem lw_frame {s t : State} {o : Outcome} {args : Array Value} (h : Framed s o t [] 600000 7302250) :
    Framed s o t (fieldLocs frame_1_writes args s ++ arrayLocs frame_1_arrays args s ++ staticLocs frame_1_statics s) 600000 7302250 := h
theorem lw_limb (L : Cond) (hL : ∀ (args : Array Value) (s t : State), L.after args s (.returned (some (.int 1))) t = true) :
    ArmFor flags0 classFile x code maxLocals ret World_1 tables_1 room_1 Calls_1 rest_1 Pre_1
      (fun tb e a s o t => postC L tb e a s o t ∧ Framed s o t (fieldLocs frame_1_writes a s ++ arrayLocs frame_1_arrays a s ++ staticLocs frame_1_statics s) 600000 7302250) := by
  intro l _ _ _ p e ha hc hk s m args below hf hfit hheap happ hpre
  obtain ⟨k, o, h1, h2, h3, rfl, hF⟩ := lw_comes l p e ha hc hk s m args below hf hfit hheap happ hpre
  exact ⟨k, _, h1, h2, h3, hL args s _, lw_frame hF⟩
theorem i_vc : Claimed_1_1 ∧ Claimed_1_2 := ⟨lw_limb limb_1_1 (fun args s t => by simp [limb_1_1, Cond.after, Cond.holds, Cond.value]), lw_limb limb_1_2 (fun args s t => Cond.after_iff.mpr (by
  first | (rw [show limb_1_2 = Cond.eq .result (.int 1) from rfl, Cond.eq_ints (x := 1) (y := 1) rfl rfl]; simp; done) | (simp [limb_1_2, Cond.value, Term.eval]; done)))⟩
end
