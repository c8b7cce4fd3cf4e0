/-! names by program (wip/whole/tools/names.py) out of the Statement: fields, methods, words by their places -/
def T_J : u_T := fun k => match k with
  | 0 => ("ChainPicker$Job", "number", "I", true)
  | 1 => ("ChainPicker$Job", "series", "I", true)
  | 2 => ("ChainPicker$Job", "level", "I", true)
  | 3 => ("ChainPicker$Job", "upgraded", "Z", true)
  | 4 => ("ChainPicker$Job", "base", "LChainPicker$Job;", true)
  | 5 => ("ChainPicker$Job", "began", "I", true)
  | 6 => ("ChainPicker$Job", "earlier", "LChainPicker$Job;", true)
  | 7 => ("ChainPicker$Job", "versions", "[I", true)
  | 8 => ("ChainPicker$Job", "ended", "I", false)
  | 9 => ("ChainPicker$Job", "state", "I", false)
  | 10 => ("ChainPicker$Job", "pruned", "Z", false)
  | _ => ("ChainPicker$Job", "standing", "I", false)
def t_J : Nat → FieldType := fun k => match k with
  | 0 => .int
  | 1 => .int
  | 2 => .int
  | 3 => .boolean
  | 4 => .object "ChainPicker$Job"
  | 5 => .int
  | 6 => .object "ChainPicker$Job"
  | 7 => .array .int
  | 8 => .int
  | 9 => .int
  | 10 => .boolean
  | _ => .int
theorem n_J : ∀ a, a < 12 → ∀ b, b < 12 → a ≠ b → (T_J a).2.1 ≠ (T_J b).2.1 := by decide +kernel
theorem t_J_ok : ∀ k, k < 12 → parseFieldDescriptor (T_J k).2.2.1 = some (t_J k) := by decide +kernel
def T_C : u_T := fun k => match k with
  | 0 => ("ChainPicker", "now", "I", false)
  | 1 => ("ChainPicker", "jobCount", "I", false)
  | _ => ("ChainPicker", "latest", "LChainPicker$Job;", false)
def t_C : Nat → FieldType := fun k => match k with
  | 0 => .int
  | 1 => .int
  | _ => .object "ChainPicker$Job"
theorem n_C : ∀ a, a < 3 → ∀ b, b < 3 → a ≠ b → (T_C a).2.1 ≠ (T_C b).2.1 := by decide +kernel
theorem t_C_ok : ∀ k, k < 3 → parseFieldDescriptor (T_C k).2.2.1 = some (t_C k) := by decide +kernel
def T_M : u_T := fun k => match k with
  | 0 => ("ChainPickerModel", "thrown", "I", false)
  | 1 => ("ChainPickerModel", "now", "I", false)
  | 2 => ("ChainPickerModel", "many", "I", false)
  | 3 => ("ChainPickerModel", "series", "[I", true)
  | 4 => ("ChainPickerModel", "level", "[I", true)
  | 5 => ("ChainPickerModel", "upgraded", "[Z", true)
  | 6 => ("ChainPickerModel", "base", "[I", true)
  | 7 => ("ChainPickerModel", "began", "[I", true)
  | 8 => ("ChainPickerModel", "ended", "[I", true)
  | 9 => ("ChainPickerModel", "state", "[I", true)
  | 10 => ("ChainPickerModel", "pruned", "[Z", true)
  | _ => ("ChainPickerModel", "told", "[I", true)
def t_M : Nat → FieldType := fun k => match k with
  | 0 => .int
  | 1 => .int
  | 2 => .int
  | 3 => .array .int
  | 4 => .array .int
  | 5 => .array .boolean
  | 6 => .array .int
  | 7 => .array .int
  | 8 => .array .int
  | 9 => .array .int
  | 10 => .array .boolean
  | _ => .array .int
theorem n_M : ∀ a, a < 12 → ∀ b, b < 12 → a ≠ b → (T_M a).2.1 ≠ (T_M b).2.1 := by decide +kernel
theorem t_M_ok : ∀ k, k < 12 → parseFieldDescriptor (T_M k).2.2.1 = some (t_M k) := by decide +kernel
abbrev CLS : List vw_C := [("ChainPicker$Job", T_J, 12), ("ChainPicker", T_C, 3), ("ChainPickerModel", T_M, 12)]
abbrev cC_init : ByteArray := prog_1_method_1_code
abbrev yC_init : MethodName := ⟨"ChainPicker", "<init>", "()V"⟩
abbrev cC_begin : ByteArray := prog_1_method_3_code
abbrev yC_begin : MethodName := ⟨"ChainPicker", "begin", "(II)I"⟩
abbrev cC_isSeries : ByteArray := prog_1_method_15_code
abbrev yC_isSeries : MethodName := ⟨"ChainPicker", "isSeries", "(I)Z"⟩
abbrev cC_isLevel : ByteArray := prog_1_method_16_code
abbrev yC_isLevel : MethodName := ⟨"ChainPicker", "isLevel", "(I)Z"⟩
abbrev cC_hasRunning : ByteArray := prog_1_method_20_code
abbrev yC_hasRunning : MethodName := ⟨"ChainPicker", "hasRunning", "(I)Z"⟩
abbrev cC_findBase : ByteArray := prog_1_method_21_code
abbrev yC_findBase : MethodName := ⟨"ChainPicker", "findBase", "(II)LChainPicker$Job;"⟩
abbrev cC_isUsable : ByteArray := prog_1_method_25_code
abbrev yC_isUsable : MethodName := ⟨"ChainPicker", "isUsable", "(LChainPicker$Job;)Z"⟩
abbrev cJ_init : ByteArray := prog_2_method_1_code
abbrev yJ_init : MethodName := ⟨"ChainPicker$Job", "<init>", "(IIILChainPicker$Job;ILChainPicker$Job;)V"⟩
abbrev cF_fill : ByteArray := prog_11_method_103_code
abbrev yF_fill : MethodName := ⟨"java/util/Arrays", "fill", "([II)V"⟩
abbrev cC_tell : ByteArray := prog_1_method_4_code
abbrev yC_tell : MethodName := ⟨"ChainPicker", "tell", "(III)Z"⟩
abbrev cC_findJob : ByteArray := prog_1_method_19_code
abbrev yC_findJob : MethodName := ⟨"ChainPicker", "findJob", "(I)LChainPicker$Job;"⟩
abbrev cC_isFile : ByteArray := prog_1_method_17_code
abbrev yC_isFile : MethodName := ⟨"ChainPicker", "isFile", "(I)Z"⟩
abbrev cC_isVersion : ByteArray := prog_1_method_18_code
abbrev yC_isVersion : MethodName := ⟨"ChainPicker", "isVersion", "(I)Z"⟩
abbrev cC_end : ByteArray := prog_1_method_5_code
abbrev yC_end : MethodName := ⟨"ChainPicker", "end", "(IZ)Z"⟩
abbrev cC_chain : ByteArray := prog_1_method_6_code
abbrev yC_chain : MethodName := ⟨"ChainPicker", "chain", "(II)I"⟩
abbrev cC_findHead : ByteArray := prog_1_method_22_code
abbrev yC_findHead : MethodName := ⟨"ChainPicker", "findHead", "(II)LChainPicker$Job;"⟩
abbrev cC_view : ByteArray := prog_1_method_8_code
abbrev yC_view : MethodName := ⟨"ChainPicker", "view", "(III)I"⟩
abbrev cC_versionIn : ByteArray := prog_1_method_24_code
abbrev yC_versionIn : MethodName := ⟨"ChainPicker", "versionIn", "(LChainPicker$Job;I)I"⟩
abbrev cC_findTeller : ByteArray := prog_1_method_23_code
abbrev yC_findTeller : MethodName := ⟨"ChainPicker", "findTeller", "(LChainPicker$Job;I)LChainPicker$Job;"⟩
abbrev cC_files : ByteArray := prog_1_method_9_code
abbrev yC_files : MethodName := ⟨"ChainPicker", "files", "(II)I"⟩
abbrev cC_source : ByteArray := prog_1_method_10_code
abbrev yC_source : MethodName := ⟨"ChainPicker", "source", "(III)I"⟩
abbrev cC_prune : ByteArray := prog_1_method_11_code
abbrev yC_prune : MethodName := ⟨"ChainPicker", "prune", "(I)Z"⟩
abbrev cC_isFree : ByteArray := prog_1_method_26_code
abbrev yC_isFree : MethodName := ⟨"ChainPicker", "isFree", "(LChainPicker$Job;)Z"⟩
abbrev cC_drop : ByteArray := prog_1_method_28_code
abbrev yC_drop : MethodName := ⟨"ChainPicker", "drop", "(LChainPicker$Job;)V"⟩
abbrev cC_job : ByteArray := prog_1_method_13_code
abbrev yC_job : MethodName := ⟨"ChainPicker", "job", "(II)I"⟩
abbrev cC_countTold : ByteArray := prog_1_method_29_code
abbrev yC_countTold : MethodName := ⟨"ChainPicker", "countTold", "(LChainPicker$Job;)I"⟩
abbrev cC_count : ByteArray := prog_1_method_14_code
abbrev yC_count : MethodName := ⟨"ChainPicker", "count", "(I)I"⟩
abbrev cC_countRunning : ByteArray := prog_1_method_30_code
abbrev yC_countRunning : MethodName := ⟨"ChainPicker", "countRunning", "()I"⟩
abbrev cC_countPruned : ByteArray := prog_1_method_31_code
abbrev yC_countPruned : MethodName := ⟨"ChainPicker", "countPruned", "()I"⟩
abbrev cL_pass : ByteArray := method_3_code
abbrev yL_pass : MethodName := ⟨"ChainPickerLaw", "pass", "(LChainPicker;I[J)I"⟩
abbrev cC_pass : ByteArray := prog_1_method_2_code
abbrev yC_pass : MethodName := ⟨"ChainPicker", "pass", "(I)I"⟩
abbrev cL_link : ByteArray := method_4_code
abbrev yL_link : MethodName := ⟨"ChainPickerLaw", "link", "(LChainPicker;III[J)I"⟩
abbrev cC_link : ByteArray := prog_1_method_7_code
abbrev yC_link : MethodName := ⟨"ChainPicker", "link", "(III)I"⟩
abbrev cL_expire : ByteArray := method_5_code
abbrev yL_expire : MethodName := ⟨"ChainPickerLaw", "expire", "(LChainPicker;I[J)I"⟩
abbrev cC_expire : ByteArray := prog_1_method_12_code
abbrev yC_expire : MethodName := ⟨"ChainPicker", "expire", "(I)I"⟩
abbrev cC_isOnlyGoodFull : ByteArray := prog_1_method_27_code
abbrev yC_isOnlyGoodFull : MethodName := ⟨"ChainPicker", "isOnlyGoodFull", "(LChainPicker$Job;)Z"⟩
abbrev cM_init : ByteArray := prog_4_method_1_code
abbrev yM_init : MethodName := ⟨"ChainPickerModel", "<init>", "()V"⟩
abbrev cM_thrown : ByteArray := prog_4_method_2_code
abbrev yM_thrown : MethodName := ⟨"ChainPickerModel", "thrown", "()I"⟩
abbrev cM_pass : ByteArray := prog_4_method_3_code
abbrev yM_pass : MethodName := ⟨"ChainPickerModel", "pass", "(I)I"⟩
abbrev cM_begin : ByteArray := prog_4_method_6_code
abbrev yM_begin : MethodName := ⟨"ChainPickerModel", "begin", "(II)I"⟩
abbrev cM_lastOne : ByteArray := prog_4_method_5_code
abbrev yM_lastOne : MethodName := ⟨"ChainPickerModel", "lastOne", "(II)I"⟩
abbrev cM_tell : ByteArray := prog_4_method_7_code
abbrev yM_tell : MethodName := ⟨"ChainPickerModel", "tell", "(III)Z"⟩
abbrev cM_isJob : ByteArray := prog_4_method_4_code
abbrev yM_isJob : MethodName := ⟨"ChainPickerModel", "isJob", "(I)Z"⟩
abbrev cM_end : ByteArray := prog_4_method_8_code
abbrev yM_end : MethodName := ⟨"ChainPickerModel", "end", "(IZ)Z"⟩
abbrev cM_chain : ByteArray := prog_4_method_10_code
abbrev yM_chain : MethodName := ⟨"ChainPickerModel", "chain", "(II)I"⟩
abbrev cM_head : ByteArray := prog_4_method_9_code
abbrev yM_head : MethodName := ⟨"ChainPickerModel", "head", "(II)I"⟩
abbrev cM_link : ByteArray := prog_4_method_11_code
abbrev yM_link : MethodName := ⟨"ChainPickerModel", "link", "(III)I"⟩
abbrev cM_view : ByteArray := prog_4_method_14_code
abbrev yM_view : MethodName := ⟨"ChainPickerModel", "view", "(III)I"⟩
abbrev cM_version : ByteArray := prog_4_method_13_code
abbrev yM_version : MethodName := ⟨"ChainPickerModel", "version", "(III)I"⟩
abbrev cM_teller : ByteArray := prog_4_method_12_code
abbrev yM_teller : MethodName := ⟨"ChainPickerModel", "teller", "(III)I"⟩
abbrev cM_files : ByteArray := prog_4_method_15_code
abbrev yM_files : MethodName := ⟨"ChainPickerModel", "files", "(II)I"⟩
abbrev cM_source : ByteArray := prog_4_method_16_code
abbrev yM_source : MethodName := ⟨"ChainPickerModel", "source", "(III)I"⟩
abbrev cM_prune : ByteArray := prog_4_method_20_code
abbrev yM_prune : MethodName := ⟨"ChainPickerModel", "prune", "(I)Z"⟩
abbrev cM_mayGo : ByteArray := prog_4_method_18_code
abbrev yM_mayGo : MethodName := ⟨"ChainPickerModel", "mayGo", "(I)Z"⟩
abbrev cM_standing : ByteArray := prog_4_method_17_code
abbrev yM_standing : MethodName := ⟨"ChainPickerModel", "standing", "(I)I"⟩
abbrev cM_drop : ByteArray := prog_4_method_19_code
abbrev yM_drop : MethodName := ⟨"ChainPickerModel", "drop", "(I)V"⟩
abbrev cM_expire : ByteArray := prog_4_method_22_code
abbrev yM_expire : MethodName := ⟨"ChainPickerModel", "expire", "(I)I"⟩
abbrev cM_isOnly : ByteArray := prog_4_method_21_code
abbrev yM_isOnly : MethodName := ⟨"ChainPickerModel", "isOnly", "(I)Z"⟩
abbrev cM_job : ByteArray := prog_4_method_23_code
abbrev yM_job : MethodName := ⟨"ChainPickerModel", "job", "(II)I"⟩
abbrev cM_count : ByteArray := prog_4_method_24_code
abbrev yM_count : MethodName := ⟨"ChainPickerModel", "count", "(I)I"⟩
abbrev cL_law : ByteArray := code
abbrev yL_law : MethodName := ⟨"ChainPickerLaw", "law", "([I)Z"⟩
/-- all words that every method may stand on -/
def BIG : List Cond := lw_tbl.filter goodWord
theorem inBIG {w : Cond} (h : w ∈ tables_1) (g : goodWord w = true) : w ∈ BIG := List.mem_filter.mpr ⟨List.mem_append_right _ h, g⟩
theorem inBIGs {w : Cond} (h : w ∈ k2_sels lw_privs) (g : goodWord w = true) : w ∈ BIG := List.mem_filter.mpr ⟨List.mem_append_left _ h, g⟩
theorem gBIG {a b : Cond} (h : b ∈ BIG) : GoodIn (a :: BIG) (b :: BIG) := by
  intro w hw
  have hb : w ∈ BIG := by
    rcases List.mem_cons.mp hw with rfl | h2
    · exact h
    · exact h2
  exact ⟨List.mem_cons_of_mem _ hb, good_of_word (List.mem_filter.mp hb).2⟩
theorem q_0 : Cond.initialized "ChainPickerLaw" ∈ BIG := inBIG (List.mem_of_getElem? (i := 0) (by decide +kernel)) (by decide +kernel)
theorem q_1 : Cond.initialized "ChainPicker" ∈ BIG := inBIG (List.mem_of_getElem? (i := 1) (by decide +kernel)) (by decide +kernel)
theorem q_2 : Cond.initialized "ChainPickerModel" ∈ BIG := inBIG (List.mem_of_getElem? (i := 2) (by decide +kernel)) (by decide +kernel)
theorem q_3 : Cond.initialized "java/lang/Throwable" ∈ BIG := inBIG (List.mem_of_getElem? (i := 3) (by decide +kernel)) (by decide +kernel)
theorem q_4 : Cond.initialized "java/lang/Exception" ∈ BIG := inBIG (List.mem_of_getElem? (i := 4) (by decide +kernel)) (by decide +kernel)
theorem q_5 : Cond.initialized "java/lang/RuntimeException" ∈ BIG := inBIG (List.mem_of_getElem? (i := 5) (by decide +kernel)) (by decide +kernel)
theorem q_6 : Cond.initialized "java/lang/IllegalArgumentException" ∈ BIG := inBIG (List.mem_of_getElem? (i := 6) (by decide +kernel)) (by decide +kernel)
theorem q_7 : Cond.initialized "ChainPicker$Job" ∈ BIG := inBIG (List.mem_of_getElem? (i := 7) (by decide +kernel)) (by decide +kernel)
theorem q_8 : Cond.initialized "java/util/Arrays" ∈ BIG := inBIG (List.mem_of_getElem? (i := 8) (by decide +kernel)) (by decide +kernel)
theorem q_9 : Cond.initialized "java/lang/IndexOutOfBoundsException" ∈ BIG := inBIG (List.mem_of_getElem? (i := 9) (by decide +kernel)) (by decide +kernel)
theorem q_10 : Cond.classLink "ChainPickerLaw" 8 "ChainPicker" ∈ BIG := inBIG (List.mem_of_getElem? (i := 10) (by decide +kernel)) (by decide +kernel)
theorem q_11 : Cond.instantiable "ChainPicker" 3 ∈ BIG := inBIG (List.mem_of_getElem? (i := 11) (by decide +kernel)) (by decide +kernel)
theorem q_12 : Cond.methodLink "ChainPickerLaw" 24 yC_init ∈ BIG := inBIG (List.mem_of_getElem? (i := 12) (by decide +kernel)) (by decide +kernel)
theorem q_13 : Cond.instanceMethod yC_init ∈ BIG := inBIG (List.mem_of_getElem? (i := 13) (by decide +kernel)) (by decide +kernel)
theorem q_14 : Cond.code yC_init prog_1_method_1_code 1 none ∈ BIG := inBIG (List.mem_of_getElem? (i := 14) (by decide +kernel)) (by decide +kernel)
theorem q_15 : Cond.methodLink "ChainPicker" 3 ⟨"java/lang/Object", "<init>", "()V"⟩ ∈ BIG := inBIG (List.mem_of_getElem? (i := 15) (by decide +kernel)) (by decide +kernel)
theorem q_16 : Cond.instanceMethod ⟨"java/lang/Object", "<init>", "()V"⟩ ∈ BIG := inBIG (List.mem_of_getElem? (i := 16) (by decide +kernel)) (by decide +kernel)
theorem q_17 : Cond.code ⟨"java/lang/Object", "<init>", "()V"⟩ object_method_1_code 1 none ∈ BIG := inBIG (List.mem_of_getElem? (i := 17) (by decide +kernel)) (by decide +kernel)
theorem q_18 : Cond.fieldLink "ChainPicker" 9 "ChainPicker" "now" "I" ∈ BIG := inBIG (List.mem_of_getElem? (i := 18) (by decide +kernel)) (by decide +kernel)
theorem q_19 : Cond.fieldLink "ChainPicker" 13 "ChainPicker" "jobCount" "I" ∈ BIG := inBIG (List.mem_of_getElem? (i := 19) (by decide +kernel)) (by decide +kernel)
theorem q_20 : Cond.fieldLink "ChainPicker" 16 "ChainPicker" "latest" "LChainPicker$Job;" ∈ BIG := inBIG (List.mem_of_getElem? (i := 20) (by decide +kernel)) (by decide +kernel)
theorem q_28 : Cond.methodLink "ChainPickerLaw" 38 yC_begin ∈ BIG := inBIG (List.mem_of_getElem? (i := 28) (by decide +kernel)) (by decide +kernel)
theorem q_29 : Cond.instanceMethod yC_begin ∈ BIG := inBIG (List.mem_of_getElem? (i := 29) (by decide +kernel)) (by decide +kernel)
theorem q_30 : Cond.selects "ChainPicker" yC_begin yC_begin ∈ BIG := inBIG (List.mem_of_getElem? (i := 30) (by decide +kernel)) (by decide +kernel)
theorem q_31 : Cond.code yC_begin prog_1_method_3_code 4 (some FieldType.int) ∈ BIG := inBIG (List.mem_of_getElem? (i := 31) (by decide +kernel)) (by decide +kernel)
theorem q_32 : Cond.methodLink "ChainPicker" 28 yC_isSeries ∈ BIG := inBIG (List.mem_of_getElem? (i := 32) (by decide +kernel)) (by decide +kernel)
theorem q_33 : Cond.static yC_isSeries ∈ BIG := inBIG (List.mem_of_getElem? (i := 33) (by decide +kernel)) (by decide +kernel)
theorem q_34 : Cond.code yC_isSeries prog_1_method_15_code 1 (some FieldType.boolean) ∈ BIG := inBIG (List.mem_of_getElem? (i := 34) (by decide +kernel)) (by decide +kernel)
theorem q_35 : Cond.methodLink "ChainPicker" 32 yC_isLevel ∈ BIG := inBIG (List.mem_of_getElem? (i := 35) (by decide +kernel)) (by decide +kernel)
theorem q_36 : Cond.static yC_isLevel ∈ BIG := inBIG (List.mem_of_getElem? (i := 36) (by decide +kernel)) (by decide +kernel)
theorem q_37 : Cond.code yC_isLevel prog_1_method_16_code 1 (some FieldType.boolean) ∈ BIG := inBIG (List.mem_of_getElem? (i := 37) (by decide +kernel)) (by decide +kernel)
theorem q_38 : Cond.methodLink "ChainPicker" 35 yC_hasRunning ∈ BIG := inBIG (List.mem_of_getElem? (i := 38) (by decide +kernel)) (by decide +kernel)
theorem q_40 : Cond.instanceMethod yC_hasRunning ∈ BIG := inBIG (List.mem_of_getElem? (i := 40) (by decide +kernel)) (by decide +kernel)
theorem q_41 : Cond.code yC_hasRunning prog_1_method_20_code 3 (some FieldType.boolean) ∈ BIG := inBIG (List.mem_of_getElem? (i := 41) (by decide +kernel)) (by decide +kernel)
theorem q_42 : Cond.methodLink "ChainPicker" 38 yC_findBase ∈ BIG := inBIG (List.mem_of_getElem? (i := 42) (by decide +kernel)) (by decide +kernel)
theorem q_44 : Cond.instanceMethod yC_findBase ∈ BIG := inBIG (List.mem_of_getElem? (i := 44) (by decide +kernel)) (by decide +kernel)
theorem q_45 : Cond.code yC_findBase prog_1_method_21_code 4 (some (FieldType.object "ChainPicker$Job")) ∈ BIG := inBIG (List.mem_of_getElem? (i := 45) (by decide +kernel)) (by decide +kernel)
theorem q_46 : Cond.methodLink "ChainPicker" 136 yC_isUsable ∈ BIG := inBIG (List.mem_of_getElem? (i := 46) (by decide +kernel)) (by decide +kernel)
theorem q_47 : Cond.static yC_isUsable ∈ BIG := inBIG (List.mem_of_getElem? (i := 47) (by decide +kernel)) (by decide +kernel)
theorem q_48 : Cond.code yC_isUsable prog_1_method_25_code 1 (some FieldType.boolean) ∈ BIG := inBIG (List.mem_of_getElem? (i := 48) (by decide +kernel)) (by decide +kernel)
theorem q_49 : Cond.classLink "ChainPicker" 43 "ChainPicker$Job" ∈ BIG := inBIG (List.mem_of_getElem? (i := 49) (by decide +kernel)) (by decide +kernel)
theorem q_50 : Cond.instantiable "ChainPicker$Job" 12 ∈ BIG := inBIG (List.mem_of_getElem? (i := 50) (by decide +kernel)) (by decide +kernel)
theorem q_52 : Cond.instanceMethod yJ_init ∈ BIG := inBIG (List.mem_of_getElem? (i := 52) (by decide +kernel)) (by decide +kernel)
theorem q_53 : Cond.code yJ_init prog_2_method_1_code 7 none ∈ BIG := inBIG (List.mem_of_getElem? (i := 53) (by decide +kernel)) (by decide +kernel)
theorem q_54 : Cond.methodLink "ChainPicker$Job" 3 ⟨"java/lang/Object", "<init>", "()V"⟩ ∈ BIG := inBIG (List.mem_of_getElem? (i := 54) (by decide +kernel)) (by decide +kernel)
theorem q_55 : Cond.methodLink "ChainPicker$Job" 39 yF_fill ∈ BIG := inBIG (List.mem_of_getElem? (i := 55) (by decide +kernel)) (by decide +kernel)
theorem q_56 : Cond.static yF_fill ∈ BIG := inBIG (List.mem_of_getElem? (i := 56) (by decide +kernel)) (by decide +kernel)
theorem q_57 : Cond.code yF_fill prog_11_method_103_code 4 none ∈ BIG := inBIG (List.mem_of_getElem? (i := 57) (by decide +kernel)) (by decide +kernel)
theorem q_58 : Cond.fieldLink "ChainPicker$Job" 9 "ChainPicker$Job" "number" "I" ∈ BIG := inBIG (List.mem_of_getElem? (i := 58) (by decide +kernel)) (by decide +kernel)
theorem q_60 : Cond.fieldLink "ChainPicker$Job" 15 "ChainPicker$Job" "series" "I" ∈ BIG := inBIG (List.mem_of_getElem? (i := 60) (by decide +kernel)) (by decide +kernel)
theorem q_62 : Cond.fieldLink "ChainPicker$Job" 18 "ChainPicker$Job" "level" "I" ∈ BIG := inBIG (List.mem_of_getElem? (i := 62) (by decide +kernel)) (by decide +kernel)
theorem q_64 : Cond.fieldLink "ChainPicker$Job" 21 "ChainPicker$Job" "upgraded" "Z" ∈ BIG := inBIG (List.mem_of_getElem? (i := 64) (by decide +kernel)) (by decide +kernel)
theorem q_66 : Cond.fieldLink "ChainPicker$Job" 25 "ChainPicker$Job" "base" "LChainPicker$Job;" ∈ BIG := inBIG (List.mem_of_getElem? (i := 66) (by decide +kernel)) (by decide +kernel)
theorem q_68 : Cond.fieldLink "ChainPicker$Job" 29 "ChainPicker$Job" "began" "I" ∈ BIG := inBIG (List.mem_of_getElem? (i := 68) (by decide +kernel)) (by decide +kernel)
theorem q_70 : Cond.fieldLink "ChainPicker$Job" 32 "ChainPicker$Job" "earlier" "LChainPicker$Job;" ∈ BIG := inBIG (List.mem_of_getElem? (i := 70) (by decide +kernel)) (by decide +kernel)
theorem q_72 : Cond.fieldLink "ChainPicker$Job" 35 "ChainPicker$Job" "versions" "[I" ∈ BIG := inBIG (List.mem_of_getElem? (i := 72) (by decide +kernel)) (by decide +kernel)
theorem q_74 : Cond.fieldLink "ChainPicker$Job" 45 "ChainPicker$Job" "ended" "I" ∈ BIG := inBIG (List.mem_of_getElem? (i := 74) (by decide +kernel)) (by decide +kernel)
theorem q_76 : Cond.fieldLink "ChainPicker$Job" 48 "ChainPicker$Job" "state" "I" ∈ BIG := inBIG (List.mem_of_getElem? (i := 76) (by decide +kernel)) (by decide +kernel)
theorem q_78 : Cond.fieldLink "ChainPicker$Job" 51 "ChainPicker$Job" "pruned" "Z" ∈ BIG := inBIG (List.mem_of_getElem? (i := 78) (by decide +kernel)) (by decide +kernel)
theorem q_80 : Cond.fieldLink "ChainPicker$Job" 54 "ChainPicker$Job" "standing" "I" ∈ BIG := inBIG (List.mem_of_getElem? (i := 80) (by decide +kernel)) (by decide +kernel)
theorem q_107 : Cond.arrayClass FieldType.int ∈ BIG := inBIG (List.mem_of_getElem? (i := 107) (by decide +kernel)) (by decide +kernel)
theorem q_108 : Cond.methodLink "ChainPickerLaw" 43 yC_tell ∈ BIG := inBIG (List.mem_of_getElem? (i := 108) (by decide +kernel)) (by decide +kernel)
theorem q_109 : Cond.instanceMethod yC_tell ∈ BIG := inBIG (List.mem_of_getElem? (i := 109) (by decide +kernel)) (by decide +kernel)
theorem q_110 : Cond.selects "ChainPicker" yC_tell yC_tell ∈ BIG := inBIG (List.mem_of_getElem? (i := 110) (by decide +kernel)) (by decide +kernel)
theorem q_111 : Cond.code yC_tell prog_1_method_4_code 6 (some FieldType.boolean) ∈ BIG := inBIG (List.mem_of_getElem? (i := 111) (by decide +kernel)) (by decide +kernel)
theorem q_112 : Cond.methodLink "ChainPicker" 53 yC_findJob ∈ BIG := inBIG (List.mem_of_getElem? (i := 112) (by decide +kernel)) (by decide +kernel)
theorem q_114 : Cond.instanceMethod yC_findJob ∈ BIG := inBIG (List.mem_of_getElem? (i := 114) (by decide +kernel)) (by decide +kernel)
theorem q_115 : Cond.code yC_findJob prog_1_method_19_code 3 (some (FieldType.object "ChainPicker$Job")) ∈ BIG := inBIG (List.mem_of_getElem? (i := 115) (by decide +kernel)) (by decide +kernel)
theorem q_116 : Cond.methodLink "ChainPicker" 60 yC_isFile ∈ BIG := inBIG (List.mem_of_getElem? (i := 116) (by decide +kernel)) (by decide +kernel)
theorem q_117 : Cond.static yC_isFile ∈ BIG := inBIG (List.mem_of_getElem? (i := 117) (by decide +kernel)) (by decide +kernel)
theorem q_118 : Cond.code yC_isFile prog_1_method_17_code 1 (some FieldType.boolean) ∈ BIG := inBIG (List.mem_of_getElem? (i := 118) (by decide +kernel)) (by decide +kernel)
theorem q_119 : Cond.methodLink "ChainPicker" 66 yC_isVersion ∈ BIG := inBIG (List.mem_of_getElem? (i := 119) (by decide +kernel)) (by decide +kernel)
theorem q_120 : Cond.static yC_isVersion ∈ BIG := inBIG (List.mem_of_getElem? (i := 120) (by decide +kernel)) (by decide +kernel)
theorem q_121 : Cond.code yC_isVersion prog_1_method_18_code 1 (some FieldType.boolean) ∈ BIG := inBIG (List.mem_of_getElem? (i := 121) (by decide +kernel)) (by decide +kernel)
theorem q_122 : Cond.constant "ChainPicker" 135 1000000 ∈ BIG := inBIG (List.mem_of_getElem? (i := 122) (by decide +kernel)) (by decide +kernel)
theorem q_123 : Cond.methodLink "ChainPickerLaw" 48 yC_end ∈ BIG := inBIG (List.mem_of_getElem? (i := 123) (by decide +kernel)) (by decide +kernel)
theorem q_124 : Cond.instanceMethod yC_end ∈ BIG := inBIG (List.mem_of_getElem? (i := 124) (by decide +kernel)) (by decide +kernel)
theorem q_125 : Cond.selects "ChainPicker" yC_end yC_end ∈ BIG := inBIG (List.mem_of_getElem? (i := 125) (by decide +kernel)) (by decide +kernel)
theorem q_126 : Cond.code yC_end prog_1_method_5_code 4 (some FieldType.boolean) ∈ BIG := inBIG (List.mem_of_getElem? (i := 126) (by decide +kernel)) (by decide +kernel)
theorem q_127 : Cond.methodLink "ChainPickerLaw" 53 yC_chain ∈ BIG := inBIG (List.mem_of_getElem? (i := 127) (by decide +kernel)) (by decide +kernel)
theorem q_128 : Cond.instanceMethod yC_chain ∈ BIG := inBIG (List.mem_of_getElem? (i := 128) (by decide +kernel)) (by decide +kernel)
theorem q_129 : Cond.selects "ChainPicker" yC_chain yC_chain ∈ BIG := inBIG (List.mem_of_getElem? (i := 129) (by decide +kernel)) (by decide +kernel)
theorem q_130 : Cond.code yC_chain prog_1_method_6_code 5 (some FieldType.int) ∈ BIG := inBIG (List.mem_of_getElem? (i := 130) (by decide +kernel)) (by decide +kernel)
theorem q_131 : Cond.methodLink "ChainPicker" 76 yC_findHead ∈ BIG := inBIG (List.mem_of_getElem? (i := 131) (by decide +kernel)) (by decide +kernel)
theorem q_133 : Cond.instanceMethod yC_findHead ∈ BIG := inBIG (List.mem_of_getElem? (i := 133) (by decide +kernel)) (by decide +kernel)
theorem q_134 : Cond.code yC_findHead prog_1_method_22_code 4 (some (FieldType.object "ChainPicker$Job")) ∈ BIG := inBIG (List.mem_of_getElem? (i := 134) (by decide +kernel)) (by decide +kernel)
theorem q_135 : Cond.methodLink "ChainPickerLaw" 61 yC_view ∈ BIG := inBIG (List.mem_of_getElem? (i := 135) (by decide +kernel)) (by decide +kernel)
theorem q_136 : Cond.instanceMethod yC_view ∈ BIG := inBIG (List.mem_of_getElem? (i := 136) (by decide +kernel)) (by decide +kernel)
theorem q_137 : Cond.selects "ChainPicker" yC_view yC_view ∈ BIG := inBIG (List.mem_of_getElem? (i := 137) (by decide +kernel)) (by decide +kernel)
theorem q_138 : Cond.code yC_view prog_1_method_8_code 4 (some FieldType.int) ∈ BIG := inBIG (List.mem_of_getElem? (i := 138) (by decide +kernel)) (by decide +kernel)
theorem q_139 : Cond.methodLink "ChainPicker" 87 yC_versionIn ∈ BIG := inBIG (List.mem_of_getElem? (i := 139) (by decide +kernel)) (by decide +kernel)
theorem q_140 : Cond.static yC_versionIn ∈ BIG := inBIG (List.mem_of_getElem? (i := 140) (by decide +kernel)) (by decide +kernel)
theorem q_141 : Cond.code yC_versionIn prog_1_method_24_code 3 (some FieldType.int) ∈ BIG := inBIG (List.mem_of_getElem? (i := 141) (by decide +kernel)) (by decide +kernel)
theorem q_142 : Cond.methodLink "ChainPicker" 91 yC_findTeller ∈ BIG := inBIG (List.mem_of_getElem? (i := 142) (by decide +kernel)) (by decide +kernel)
theorem q_143 : Cond.static yC_findTeller ∈ BIG := inBIG (List.mem_of_getElem? (i := 143) (by decide +kernel)) (by decide +kernel)
theorem q_144 : Cond.code yC_findTeller prog_1_method_23_code 3 (some (FieldType.object "ChainPicker$Job")) ∈ BIG := inBIG (List.mem_of_getElem? (i := 144) (by decide +kernel)) (by decide +kernel)
theorem q_145 : Cond.methodLink "ChainPickerLaw" 65 yC_files ∈ BIG := inBIG (List.mem_of_getElem? (i := 145) (by decide +kernel)) (by decide +kernel)
theorem q_146 : Cond.instanceMethod yC_files ∈ BIG := inBIG (List.mem_of_getElem? (i := 146) (by decide +kernel)) (by decide +kernel)
theorem q_147 : Cond.selects "ChainPicker" yC_files yC_files ∈ BIG := inBIG (List.mem_of_getElem? (i := 147) (by decide +kernel)) (by decide +kernel)
theorem q_148 : Cond.code yC_files prog_1_method_9_code 6 (some FieldType.int) ∈ BIG := inBIG (List.mem_of_getElem? (i := 148) (by decide +kernel)) (by decide +kernel)
theorem q_149 : Cond.methodLink "ChainPickerLaw" 69 yC_source ∈ BIG := inBIG (List.mem_of_getElem? (i := 149) (by decide +kernel)) (by decide +kernel)
theorem q_150 : Cond.instanceMethod yC_source ∈ BIG := inBIG (List.mem_of_getElem? (i := 150) (by decide +kernel)) (by decide +kernel)
theorem q_151 : Cond.selects "ChainPicker" yC_source yC_source ∈ BIG := inBIG (List.mem_of_getElem? (i := 151) (by decide +kernel)) (by decide +kernel)
theorem q_152 : Cond.code yC_source prog_1_method_10_code 5 (some FieldType.int) ∈ BIG := inBIG (List.mem_of_getElem? (i := 152) (by decide +kernel)) (by decide +kernel)
theorem q_153 : Cond.methodLink "ChainPickerLaw" 73 yC_prune ∈ BIG := inBIG (List.mem_of_getElem? (i := 153) (by decide +kernel)) (by decide +kernel)
theorem q_154 : Cond.instanceMethod yC_prune ∈ BIG := inBIG (List.mem_of_getElem? (i := 154) (by decide +kernel)) (by decide +kernel)
theorem q_155 : Cond.selects "ChainPicker" yC_prune yC_prune ∈ BIG := inBIG (List.mem_of_getElem? (i := 155) (by decide +kernel)) (by decide +kernel)
theorem q_156 : Cond.code yC_prune prog_1_method_11_code 3 (some FieldType.boolean) ∈ BIG := inBIG (List.mem_of_getElem? (i := 156) (by decide +kernel)) (by decide +kernel)
theorem q_157 : Cond.methodLink "ChainPicker" 95 yC_isFree ∈ BIG := inBIG (List.mem_of_getElem? (i := 157) (by decide +kernel)) (by decide +kernel)
theorem q_158 : Cond.static yC_isFree ∈ BIG := inBIG (List.mem_of_getElem? (i := 158) (by decide +kernel)) (by decide +kernel)
theorem q_159 : Cond.code yC_isFree prog_1_method_26_code 1 (some FieldType.boolean) ∈ BIG := inBIG (List.mem_of_getElem? (i := 159) (by decide +kernel)) (by decide +kernel)
theorem q_160 : Cond.methodLink "ChainPicker" 99 yC_drop ∈ BIG := inBIG (List.mem_of_getElem? (i := 160) (by decide +kernel)) (by decide +kernel)
theorem q_161 : Cond.static yC_drop ∈ BIG := inBIG (List.mem_of_getElem? (i := 161) (by decide +kernel)) (by decide +kernel)
theorem q_162 : Cond.code yC_drop prog_1_method_28_code 1 none ∈ BIG := inBIG (List.mem_of_getElem? (i := 162) (by decide +kernel)) (by decide +kernel)
theorem q_163 : Cond.methodLink "ChainPicker" 139 yF_fill ∈ BIG := inBIG (List.mem_of_getElem? (i := 163) (by decide +kernel)) (by decide +kernel)
theorem q_164 : Cond.methodLink "ChainPickerLaw" 81 yC_job ∈ BIG := inBIG (List.mem_of_getElem? (i := 164) (by decide +kernel)) (by decide +kernel)
theorem q_165 : Cond.instanceMethod yC_job ∈ BIG := inBIG (List.mem_of_getElem? (i := 165) (by decide +kernel)) (by decide +kernel)
theorem q_166 : Cond.selects "ChainPicker" yC_job yC_job ∈ BIG := inBIG (List.mem_of_getElem? (i := 166) (by decide +kernel)) (by decide +kernel)
theorem q_167 : Cond.code yC_job prog_1_method_13_code 4 (some FieldType.int) ∈ BIG := inBIG (List.mem_of_getElem? (i := 167) (by decide +kernel)) (by decide +kernel)
theorem q_168 : Cond.methodLink "ChainPicker" 124 yC_countTold ∈ BIG := inBIG (List.mem_of_getElem? (i := 168) (by decide +kernel)) (by decide +kernel)
theorem q_169 : Cond.static yC_countTold ∈ BIG := inBIG (List.mem_of_getElem? (i := 169) (by decide +kernel)) (by decide +kernel)
theorem q_170 : Cond.code yC_countTold prog_1_method_29_code 3 (some FieldType.int) ∈ BIG := inBIG (List.mem_of_getElem? (i := 170) (by decide +kernel)) (by decide +kernel)
theorem q_171 : Cond.methodLink "ChainPickerLaw" 85 yC_count ∈ BIG := inBIG (List.mem_of_getElem? (i := 171) (by decide +kernel)) (by decide +kernel)
theorem q_172 : Cond.instanceMethod yC_count ∈ BIG := inBIG (List.mem_of_getElem? (i := 172) (by decide +kernel)) (by decide +kernel)
theorem q_173 : Cond.selects "ChainPicker" yC_count yC_count ∈ BIG := inBIG (List.mem_of_getElem? (i := 173) (by decide +kernel)) (by decide +kernel)
theorem q_174 : Cond.code yC_count prog_1_method_14_code 2 (some FieldType.int) ∈ BIG := inBIG (List.mem_of_getElem? (i := 174) (by decide +kernel)) (by decide +kernel)
theorem q_175 : Cond.methodLink "ChainPicker" 128 yC_countRunning ∈ BIG := inBIG (List.mem_of_getElem? (i := 175) (by decide +kernel)) (by decide +kernel)
theorem q_177 : Cond.instanceMethod yC_countRunning ∈ BIG := inBIG (List.mem_of_getElem? (i := 177) (by decide +kernel)) (by decide +kernel)
theorem q_178 : Cond.code yC_countRunning prog_1_method_30_code 3 (some FieldType.int) ∈ BIG := inBIG (List.mem_of_getElem? (i := 178) (by decide +kernel)) (by decide +kernel)
theorem q_179 : Cond.methodLink "ChainPicker" 132 yC_countPruned ∈ BIG := inBIG (List.mem_of_getElem? (i := 179) (by decide +kernel)) (by decide +kernel)
theorem q_181 : Cond.instanceMethod yC_countPruned ∈ BIG := inBIG (List.mem_of_getElem? (i := 181) (by decide +kernel)) (by decide +kernel)
theorem q_182 : Cond.code yC_countPruned prog_1_method_31_code 3 (some FieldType.int) ∈ BIG := inBIG (List.mem_of_getElem? (i := 182) (by decide +kernel)) (by decide +kernel)
theorem q_183 : Cond.methodLink "ChainPickerLaw" 28 yL_pass ∈ BIG := inBIG (List.mem_of_getElem? (i := 183) (by decide +kernel)) (by decide +kernel)
theorem q_184 : Cond.static yL_pass ∈ BIG := inBIG (List.mem_of_getElem? (i := 184) (by decide +kernel)) (by decide +kernel)
theorem q_185 : Cond.codeWith yL_pass method_3_code 4 (some FieldType.int) [(0, 9, 12, 13)] ∈ BIG := inBIG (List.mem_of_getElem? (i := 185) (by decide +kernel)) (by decide +kernel)
theorem q_186 : Cond.classLink "ChainPickerLaw" 13 "java/lang/IllegalArgumentException" ∈ BIG := inBIG (List.mem_of_getElem? (i := 186) (by decide +kernel)) (by decide +kernel)
theorem q_187 : Cond.methodLink "ChainPickerLaw" 7 yC_pass ∈ BIG := inBIG (List.mem_of_getElem? (i := 187) (by decide +kernel)) (by decide +kernel)
theorem q_188 : Cond.instanceMethod yC_pass ∈ BIG := inBIG (List.mem_of_getElem? (i := 188) (by decide +kernel)) (by decide +kernel)
theorem q_189 : Cond.selects "ChainPicker" yC_pass yC_pass ∈ BIG := inBIG (List.mem_of_getElem? (i := 189) (by decide +kernel)) (by decide +kernel)
theorem q_190 : Cond.code yC_pass prog_1_method_2_code 2 (some FieldType.int) ∈ BIG := inBIG (List.mem_of_getElem? (i := 190) (by decide +kernel)) (by decide +kernel)
theorem q_191 : Cond.constant "ChainPicker" 20 1000000000 ∈ BIG := inBIG (List.mem_of_getElem? (i := 191) (by decide +kernel)) (by decide +kernel)
theorem q_192 : Cond.classLink "ChainPicker" 21 "java/lang/IllegalArgumentException" ∈ BIG := inBIG (List.mem_of_getElem? (i := 192) (by decide +kernel)) (by decide +kernel)
theorem q_193 : Cond.instantiable "java/lang/IllegalArgumentException" 6 ∈ BIG := inBIG (List.mem_of_getElem? (i := 193) (by decide +kernel)) (by decide +kernel)
theorem q_201 : Cond.selects "java/lang/IllegalArgumentException" ⟨"java/lang/Throwable", "fillInStackTrace", "(I)Ljava/lang/Throwable;"⟩ ⟨"java/lang/Throwable", "fillInStackTrace", "(I)Ljava/lang/Throwable;"⟩ ∈ BIG := inBIG (List.mem_of_getElem? (i := 201) (by decide +kernel)) (by decide +kernel)
theorem q_202 : Cond.selects "java/lang/IllegalArgumentException" ⟨"java/lang/Throwable", "fillInStackTrace", "()Ljava/lang/Throwable;"⟩ ⟨"java/lang/Throwable", "fillInStackTrace", "()Ljava/lang/Throwable;"⟩ ∈ BIG := inBIG (List.mem_of_getElem? (i := 202) (by decide +kernel)) (by decide +kernel)
theorem q_213 : Cond.fieldLink "java/lang/Throwable" 198 "java/lang/Throwable" "backtrace" "Ljava/lang/Object;" ∈ BIG := inBIG (List.mem_of_getElem? (i := 213) (by decide +kernel)) (by decide +kernel)
theorem q_215 : Cond.instanceMethod ⟨"java/lang/Throwable", "<init>", "()V"⟩ ∈ BIG := inBIG (List.mem_of_getElem? (i := 215) (by decide +kernel)) (by decide +kernel)
theorem q_216 : Cond.code ⟨"java/lang/Throwable", "<init>", "()V"⟩ prog_10_method_1_code 1 none ∈ BIG := inBIG (List.mem_of_getElem? (i := 216) (by decide +kernel)) (by decide +kernel)
theorem q_217 : Cond.methodLink "java/lang/Throwable" 1 ⟨"java/lang/Object", "<init>", "()V"⟩ ∈ BIG := inBIG (List.mem_of_getElem? (i := 217) (by decide +kernel)) (by decide +kernel)
theorem q_218 : Cond.fieldLink "java/lang/Throwable" 13 "java/lang/Throwable" "UNASSIGNED_STACK" "[Ljava/lang/StackTraceElement;" ∈ BIG := inBIG (List.mem_of_getElem? (i := 218) (by decide +kernel)) (by decide +kernel)
theorem q_220 : Cond.fieldLink "java/lang/Throwable" 20 "java/lang/Throwable" "SUPPRESSED_SENTINEL" "Ljava/util/List;" ∈ BIG := inBIG (List.mem_of_getElem? (i := 220) (by decide +kernel)) (by decide +kernel)
theorem q_222 : Cond.methodLink "java/lang/Throwable" 27 ⟨"java/lang/Throwable", "fillInStackTrace", "()Ljava/lang/Throwable;"⟩ ∈ BIG := inBIG (List.mem_of_getElem? (i := 222) (by decide +kernel)) (by decide +kernel)
theorem q_223 : Cond.instanceMethod ⟨"java/lang/Throwable", "fillInStackTrace", "()Ljava/lang/Throwable;"⟩ ∈ BIG := inBIG (List.mem_of_getElem? (i := 223) (by decide +kernel)) (by decide +kernel)
theorem q_225 : Cond.selects "java/lang/IndexOutOfBoundsException" ⟨"java/lang/Throwable", "fillInStackTrace", "()Ljava/lang/Throwable;"⟩ ⟨"java/lang/Throwable", "fillInStackTrace", "()Ljava/lang/Throwable;"⟩ ∈ BIG := inBIG (List.mem_of_getElem? (i := 225) (by decide +kernel)) (by decide +kernel)
theorem q_227 : Cond.methodLink "java/lang/Throwable" 202 ⟨"java/lang/Throwable", "fillInStackTrace", "(I)Ljava/lang/Throwable;"⟩ ∈ BIG := inBIG (List.mem_of_getElem? (i := 227) (by decide +kernel)) (by decide +kernel)
theorem q_229 : Cond.instanceMethod ⟨"java/lang/Throwable", "fillInStackTrace", "(I)Ljava/lang/Throwable;"⟩ ∈ BIG := inBIG (List.mem_of_getElem? (i := 229) (by decide +kernel)) (by decide +kernel)
theorem q_230 : Cond.instantiable "java/lang/Throwable" 6 ∈ BIG := inBIG (List.mem_of_getElem? (i := 230) (by decide +kernel)) (by decide +kernel)
theorem q_233 : Cond.methodLink "ChainPicker" 25 ⟨"java/lang/IllegalArgumentException", "<init>", "(Ljava/lang/String;)V"⟩ ∈ BIG := inBIG (List.mem_of_getElem? (i := 233) (by decide +kernel)) (by decide +kernel)
theorem q_234 : Cond.instanceMethod ⟨"java/lang/IllegalArgumentException", "<init>", "(Ljava/lang/String;)V"⟩ ∈ BIG := inBIG (List.mem_of_getElem? (i := 234) (by decide +kernel)) (by decide +kernel)
theorem q_235 : Cond.code ⟨"java/lang/IllegalArgumentException", "<init>", "(Ljava/lang/String;)V"⟩ prog_6_method_2_code 2 none ∈ BIG := inBIG (List.mem_of_getElem? (i := 235) (by decide +kernel)) (by decide +kernel)
theorem q_236 : Cond.methodLink "java/lang/IllegalArgumentException" 7 ⟨"java/lang/RuntimeException", "<init>", "(Ljava/lang/String;)V"⟩ ∈ BIG := inBIG (List.mem_of_getElem? (i := 236) (by decide +kernel)) (by decide +kernel)
theorem q_237 : Cond.instanceMethod ⟨"java/lang/RuntimeException", "<init>", "(Ljava/lang/String;)V"⟩ ∈ BIG := inBIG (List.mem_of_getElem? (i := 237) (by decide +kernel)) (by decide +kernel)
theorem q_238 : Cond.code ⟨"java/lang/RuntimeException", "<init>", "(Ljava/lang/String;)V"⟩ prog_8_method_2_code 2 none ∈ BIG := inBIG (List.mem_of_getElem? (i := 238) (by decide +kernel)) (by decide +kernel)
theorem q_239 : Cond.methodLink "java/lang/RuntimeException" 7 ⟨"java/lang/Exception", "<init>", "(Ljava/lang/String;)V"⟩ ∈ BIG := inBIG (List.mem_of_getElem? (i := 239) (by decide +kernel)) (by decide +kernel)
theorem q_240 : Cond.instanceMethod ⟨"java/lang/Exception", "<init>", "(Ljava/lang/String;)V"⟩ ∈ BIG := inBIG (List.mem_of_getElem? (i := 240) (by decide +kernel)) (by decide +kernel)
theorem q_241 : Cond.code ⟨"java/lang/Exception", "<init>", "(Ljava/lang/String;)V"⟩ prog_5_method_2_code 2 none ∈ BIG := inBIG (List.mem_of_getElem? (i := 241) (by decide +kernel)) (by decide +kernel)
theorem q_242 : Cond.methodLink "java/lang/Exception" 7 ⟨"java/lang/Throwable", "<init>", "(Ljava/lang/String;)V"⟩ ∈ BIG := inBIG (List.mem_of_getElem? (i := 242) (by decide +kernel)) (by decide +kernel)
theorem q_243 : Cond.instanceMethod ⟨"java/lang/Throwable", "<init>", "(Ljava/lang/String;)V"⟩ ∈ BIG := inBIG (List.mem_of_getElem? (i := 243) (by decide +kernel)) (by decide +kernel)
theorem q_244 : Cond.code ⟨"java/lang/Throwable", "<init>", "(Ljava/lang/String;)V"⟩ prog_10_method_2_code 2 none ∈ BIG := inBIG (List.mem_of_getElem? (i := 244) (by decide +kernel)) (by decide +kernel)
theorem q_245 : Cond.fieldLink "java/lang/Throwable" 198 "java/lang/Throwable" "backtrace" "Ljava/lang/Object;" ∈ BIG := inBIG (List.mem_of_getElem? (i := 245) (by decide +kernel)) (by decide +kernel)
theorem q_246 : Cond.fieldLink "java/lang/Throwable" 31 "java/lang/Throwable" "detailMessage" "Ljava/lang/String;" ∈ BIG := inBIG (List.mem_of_getElem? (i := 246) (by decide +kernel)) (by decide +kernel)
theorem q_247 : Cond.fieldLink "java/lang/Throwable" 7 "java/lang/Throwable" "cause" "Ljava/lang/Throwable;" ∈ BIG := inBIG (List.mem_of_getElem? (i := 247) (by decide +kernel)) (by decide +kernel)
theorem q_248 : Cond.fieldLink "java/lang/Throwable" 17 "java/lang/Throwable" "stackTrace" "[Ljava/lang/StackTraceElement;" ∈ BIG := inBIG (List.mem_of_getElem? (i := 248) (by decide +kernel)) (by decide +kernel)
theorem q_249 : Cond.fieldLink "java/lang/Throwable" 24 "java/lang/Throwable" "suppressedExceptions" "Ljava/util/List;" ∈ BIG := inBIG (List.mem_of_getElem? (i := 249) (by decide +kernel)) (by decide +kernel)
theorem q_258 : Cond.arrayClass FieldType.byte ∈ BIG := inBIG (List.mem_of_getElem? (i := 258) (by decide +kernel)) (by decide +kernel)
theorem q_259 : Cond.methodLink "ChainPickerLaw" 57 yL_link ∈ BIG := inBIG (List.mem_of_getElem? (i := 259) (by decide +kernel)) (by decide +kernel)
theorem q_260 : Cond.static yL_link ∈ BIG := inBIG (List.mem_of_getElem? (i := 260) (by decide +kernel)) (by decide +kernel)
theorem q_261 : Cond.codeWith yL_link method_4_code 6 (some FieldType.int) [(0, 12, 15, 19)] ∈ BIG := inBIG (List.mem_of_getElem? (i := 261) (by decide +kernel)) (by decide +kernel)
theorem q_262 : Cond.classLink "ChainPickerLaw" 19 "java/lang/IndexOutOfBoundsException" ∈ BIG := inBIG (List.mem_of_getElem? (i := 262) (by decide +kernel)) (by decide +kernel)
theorem q_263 : Cond.methodLink "ChainPickerLaw" 15 yC_link ∈ BIG := inBIG (List.mem_of_getElem? (i := 263) (by decide +kernel)) (by decide +kernel)
theorem q_264 : Cond.instanceMethod yC_link ∈ BIG := inBIG (List.mem_of_getElem? (i := 264) (by decide +kernel)) (by decide +kernel)
theorem q_265 : Cond.selects "ChainPicker" yC_link yC_link ∈ BIG := inBIG (List.mem_of_getElem? (i := 265) (by decide +kernel)) (by decide +kernel)
theorem q_266 : Cond.code yC_link prog_1_method_7_code 6 (some FieldType.int) ∈ BIG := inBIG (List.mem_of_getElem? (i := 266) (by decide +kernel)) (by decide +kernel)
theorem q_267 : Cond.classLink "ChainPicker" 82 "java/lang/IndexOutOfBoundsException" ∈ BIG := inBIG (List.mem_of_getElem? (i := 267) (by decide +kernel)) (by decide +kernel)
theorem q_268 : Cond.instantiable "java/lang/IndexOutOfBoundsException" 6 ∈ BIG := inBIG (List.mem_of_getElem? (i := 268) (by decide +kernel)) (by decide +kernel)
theorem q_270 : Cond.selects "java/lang/IndexOutOfBoundsException" ⟨"java/lang/Throwable", "fillInStackTrace", "(I)Ljava/lang/Throwable;"⟩ ⟨"java/lang/Throwable", "fillInStackTrace", "(I)Ljava/lang/Throwable;"⟩ ∈ BIG := inBIG (List.mem_of_getElem? (i := 270) (by decide +kernel)) (by decide +kernel)
theorem q_277 : Cond.methodLink "ChainPicker" 86 ⟨"java/lang/IndexOutOfBoundsException", "<init>", "(Ljava/lang/String;)V"⟩ ∈ BIG := inBIG (List.mem_of_getElem? (i := 277) (by decide +kernel)) (by decide +kernel)
theorem q_278 : Cond.instanceMethod ⟨"java/lang/IndexOutOfBoundsException", "<init>", "(Ljava/lang/String;)V"⟩ ∈ BIG := inBIG (List.mem_of_getElem? (i := 278) (by decide +kernel)) (by decide +kernel)
theorem q_279 : Cond.code ⟨"java/lang/IndexOutOfBoundsException", "<init>", "(Ljava/lang/String;)V"⟩ prog_7_method_2_code 2 none ∈ BIG := inBIG (List.mem_of_getElem? (i := 279) (by decide +kernel)) (by decide +kernel)
theorem q_280 : Cond.methodLink "java/lang/IndexOutOfBoundsException" 7 ⟨"java/lang/RuntimeException", "<init>", "(Ljava/lang/String;)V"⟩ ∈ BIG := inBIG (List.mem_of_getElem? (i := 280) (by decide +kernel)) (by decide +kernel)
theorem q_283 : Cond.methodLink "ChainPickerLaw" 78 yL_expire ∈ BIG := inBIG (List.mem_of_getElem? (i := 283) (by decide +kernel)) (by decide +kernel)
theorem q_284 : Cond.static yL_expire ∈ BIG := inBIG (List.mem_of_getElem? (i := 284) (by decide +kernel)) (by decide +kernel)
theorem q_285 : Cond.codeWith yL_expire method_5_code 4 (some FieldType.int) [(0, 9, 12, 13)] ∈ BIG := inBIG (List.mem_of_getElem? (i := 285) (by decide +kernel)) (by decide +kernel)
theorem q_286 : Cond.methodLink "ChainPickerLaw" 21 yC_expire ∈ BIG := inBIG (List.mem_of_getElem? (i := 286) (by decide +kernel)) (by decide +kernel)
theorem q_287 : Cond.instanceMethod yC_expire ∈ BIG := inBIG (List.mem_of_getElem? (i := 287) (by decide +kernel)) (by decide +kernel)
theorem q_288 : Cond.selects "ChainPicker" yC_expire yC_expire ∈ BIG := inBIG (List.mem_of_getElem? (i := 288) (by decide +kernel)) (by decide +kernel)
theorem q_289 : Cond.code yC_expire prog_1_method_12_code 4 (some FieldType.int) ∈ BIG := inBIG (List.mem_of_getElem? (i := 289) (by decide +kernel)) (by decide +kernel)
theorem q_291 : Cond.methodLink "ChainPicker" 105 yC_isOnlyGoodFull ∈ BIG := inBIG (List.mem_of_getElem? (i := 291) (by decide +kernel)) (by decide +kernel)
theorem q_293 : Cond.instanceMethod yC_isOnlyGoodFull ∈ BIG := inBIG (List.mem_of_getElem? (i := 293) (by decide +kernel)) (by decide +kernel)
theorem q_294 : Cond.code yC_isOnlyGoodFull prog_1_method_27_code 3 (some FieldType.boolean) ∈ BIG := inBIG (List.mem_of_getElem? (i := 294) (by decide +kernel)) (by decide +kernel)
theorem q_295 : Cond.classLink "ChainPickerLaw" 25 "ChainPickerModel" ∈ BIG := inBIG (List.mem_of_getElem? (i := 295) (by decide +kernel)) (by decide +kernel)
theorem q_296 : Cond.instantiable "ChainPickerModel" 12 ∈ BIG := inBIG (List.mem_of_getElem? (i := 296) (by decide +kernel)) (by decide +kernel)
theorem q_297 : Cond.methodLink "ChainPickerLaw" 27 yM_init ∈ BIG := inBIG (List.mem_of_getElem? (i := 297) (by decide +kernel)) (by decide +kernel)
theorem q_298 : Cond.instanceMethod yM_init ∈ BIG := inBIG (List.mem_of_getElem? (i := 298) (by decide +kernel)) (by decide +kernel)
theorem q_299 : Cond.code yM_init prog_4_method_1_code 1 none ∈ BIG := inBIG (List.mem_of_getElem? (i := 299) (by decide +kernel)) (by decide +kernel)
theorem q_300 : Cond.methodLink "ChainPickerModel" 1 ⟨"java/lang/Object", "<init>", "()V"⟩ ∈ BIG := inBIG (List.mem_of_getElem? (i := 300) (by decide +kernel)) (by decide +kernel)
theorem q_301 : Cond.fieldLink "ChainPickerModel" 38 "ChainPickerModel" "thrown" "I" ∈ BIG := inBIG (List.mem_of_getElem? (i := 301) (by decide +kernel)) (by decide +kernel)
theorem q_302 : Cond.fieldLink "ChainPickerModel" 43 "ChainPickerModel" "now" "I" ∈ BIG := inBIG (List.mem_of_getElem? (i := 302) (by decide +kernel)) (by decide +kernel)
theorem q_303 : Cond.fieldLink "ChainPickerModel" 46 "ChainPickerModel" "many" "I" ∈ BIG := inBIG (List.mem_of_getElem? (i := 303) (by decide +kernel)) (by decide +kernel)
theorem q_304 : Cond.fieldLink "ChainPickerModel" 7 "ChainPickerModel" "series" "[I" ∈ BIG := inBIG (List.mem_of_getElem? (i := 304) (by decide +kernel)) (by decide +kernel)
theorem q_305 : Cond.fieldLink "ChainPickerModel" 13 "ChainPickerModel" "level" "[I" ∈ BIG := inBIG (List.mem_of_getElem? (i := 305) (by decide +kernel)) (by decide +kernel)
theorem q_306 : Cond.fieldLink "ChainPickerModel" 16 "ChainPickerModel" "upgraded" "[Z" ∈ BIG := inBIG (List.mem_of_getElem? (i := 306) (by decide +kernel)) (by decide +kernel)
theorem q_307 : Cond.fieldLink "ChainPickerModel" 20 "ChainPickerModel" "base" "[I" ∈ BIG := inBIG (List.mem_of_getElem? (i := 307) (by decide +kernel)) (by decide +kernel)
theorem q_308 : Cond.fieldLink "ChainPickerModel" 23 "ChainPickerModel" "began" "[I" ∈ BIG := inBIG (List.mem_of_getElem? (i := 308) (by decide +kernel)) (by decide +kernel)
theorem q_309 : Cond.fieldLink "ChainPickerModel" 26 "ChainPickerModel" "ended" "[I" ∈ BIG := inBIG (List.mem_of_getElem? (i := 309) (by decide +kernel)) (by decide +kernel)
theorem q_310 : Cond.fieldLink "ChainPickerModel" 29 "ChainPickerModel" "state" "[I" ∈ BIG := inBIG (List.mem_of_getElem? (i := 310) (by decide +kernel)) (by decide +kernel)
theorem q_311 : Cond.fieldLink "ChainPickerModel" 32 "ChainPickerModel" "pruned" "[Z" ∈ BIG := inBIG (List.mem_of_getElem? (i := 311) (by decide +kernel)) (by decide +kernel)
theorem q_312 : Cond.fieldLink "ChainPickerModel" 35 "ChainPickerModel" "told" "[I" ∈ BIG := inBIG (List.mem_of_getElem? (i := 312) (by decide +kernel)) (by decide +kernel)
theorem q_338 : Cond.arrayClass FieldType.boolean ∈ BIG := inBIG (List.mem_of_getElem? (i := 338) (by decide +kernel)) (by decide +kernel)
theorem q_339 : Cond.methodLink "ChainPickerLaw" 34 yM_thrown ∈ BIG := inBIG (List.mem_of_getElem? (i := 339) (by decide +kernel)) (by decide +kernel)
theorem q_340 : Cond.instanceMethod yM_thrown ∈ BIG := inBIG (List.mem_of_getElem? (i := 340) (by decide +kernel)) (by decide +kernel)
theorem q_341 : Cond.selects "ChainPickerModel" yM_thrown yM_thrown ∈ BIG := inBIG (List.mem_of_getElem? (i := 341) (by decide +kernel)) (by decide +kernel)
theorem q_342 : Cond.code yM_thrown prog_4_method_2_code 1 (some FieldType.int) ∈ BIG := inBIG (List.mem_of_getElem? (i := 342) (by decide +kernel)) (by decide +kernel)
theorem q_343 : Cond.methodLink "ChainPickerLaw" 33 yM_pass ∈ BIG := inBIG (List.mem_of_getElem? (i := 343) (by decide +kernel)) (by decide +kernel)
theorem q_344 : Cond.instanceMethod yM_pass ∈ BIG := inBIG (List.mem_of_getElem? (i := 344) (by decide +kernel)) (by decide +kernel)
theorem q_345 : Cond.selects "ChainPickerModel" yM_pass yM_pass ∈ BIG := inBIG (List.mem_of_getElem? (i := 345) (by decide +kernel)) (by decide +kernel)
theorem q_346 : Cond.code yM_pass prog_4_method_3_code 2 (some FieldType.int) ∈ BIG := inBIG (List.mem_of_getElem? (i := 346) (by decide +kernel)) (by decide +kernel)
theorem q_347 : Cond.constant "ChainPickerModel" 42 1000000000 ∈ BIG := inBIG (List.mem_of_getElem? (i := 347) (by decide +kernel)) (by decide +kernel)
theorem q_348 : Cond.methodLink "ChainPickerLaw" 42 yM_begin ∈ BIG := inBIG (List.mem_of_getElem? (i := 348) (by decide +kernel)) (by decide +kernel)
theorem q_349 : Cond.instanceMethod yM_begin ∈ BIG := inBIG (List.mem_of_getElem? (i := 349) (by decide +kernel)) (by decide +kernel)
theorem q_350 : Cond.selects "ChainPickerModel" yM_begin yM_begin ∈ BIG := inBIG (List.mem_of_getElem? (i := 350) (by decide +kernel)) (by decide +kernel)
theorem q_351 : Cond.code yM_begin prog_4_method_6_code 5 (some FieldType.int) ∈ BIG := inBIG (List.mem_of_getElem? (i := 351) (by decide +kernel)) (by decide +kernel)
theorem q_352 : Cond.methodLink "ChainPickerModel" 49 yM_lastOne ∈ BIG := inBIG (List.mem_of_getElem? (i := 352) (by decide +kernel)) (by decide +kernel)
theorem q_354 : Cond.instanceMethod yM_lastOne ∈ BIG := inBIG (List.mem_of_getElem? (i := 354) (by decide +kernel)) (by decide +kernel)
theorem q_355 : Cond.code yM_lastOne prog_4_method_5_code 5 (some FieldType.int) ∈ BIG := inBIG (List.mem_of_getElem? (i := 355) (by decide +kernel)) (by decide +kernel)
theorem q_356 : Cond.methodLink "ChainPickerLaw" 47 yM_tell ∈ BIG := inBIG (List.mem_of_getElem? (i := 356) (by decide +kernel)) (by decide +kernel)
theorem q_357 : Cond.instanceMethod yM_tell ∈ BIG := inBIG (List.mem_of_getElem? (i := 357) (by decide +kernel)) (by decide +kernel)
theorem q_358 : Cond.selects "ChainPickerModel" yM_tell yM_tell ∈ BIG := inBIG (List.mem_of_getElem? (i := 358) (by decide +kernel)) (by decide +kernel)
theorem q_359 : Cond.code yM_tell prog_4_method_7_code 4 (some FieldType.boolean) ∈ BIG := inBIG (List.mem_of_getElem? (i := 359) (by decide +kernel)) (by decide +kernel)
theorem q_360 : Cond.methodLink "ChainPickerModel" 53 yM_isJob ∈ BIG := inBIG (List.mem_of_getElem? (i := 360) (by decide +kernel)) (by decide +kernel)
theorem q_362 : Cond.instanceMethod yM_isJob ∈ BIG := inBIG (List.mem_of_getElem? (i := 362) (by decide +kernel)) (by decide +kernel)
theorem q_363 : Cond.code yM_isJob prog_4_method_4_code 2 (some FieldType.boolean) ∈ BIG := inBIG (List.mem_of_getElem? (i := 363) (by decide +kernel)) (by decide +kernel)
theorem q_364 : Cond.constant "ChainPickerModel" 57 1000000 ∈ BIG := inBIG (List.mem_of_getElem? (i := 364) (by decide +kernel)) (by decide +kernel)
theorem q_365 : Cond.methodLink "ChainPickerLaw" 52 yM_end ∈ BIG := inBIG (List.mem_of_getElem? (i := 365) (by decide +kernel)) (by decide +kernel)
theorem q_366 : Cond.instanceMethod yM_end ∈ BIG := inBIG (List.mem_of_getElem? (i := 366) (by decide +kernel)) (by decide +kernel)
theorem q_367 : Cond.selects "ChainPickerModel" yM_end yM_end ∈ BIG := inBIG (List.mem_of_getElem? (i := 367) (by decide +kernel)) (by decide +kernel)
theorem q_368 : Cond.code yM_end prog_4_method_8_code 3 (some FieldType.boolean) ∈ BIG := inBIG (List.mem_of_getElem? (i := 368) (by decide +kernel)) (by decide +kernel)
theorem q_369 : Cond.methodLink "ChainPickerLaw" 56 yM_chain ∈ BIG := inBIG (List.mem_of_getElem? (i := 369) (by decide +kernel)) (by decide +kernel)
theorem q_370 : Cond.instanceMethod yM_chain ∈ BIG := inBIG (List.mem_of_getElem? (i := 370) (by decide +kernel)) (by decide +kernel)
theorem q_371 : Cond.selects "ChainPickerModel" yM_chain yM_chain ∈ BIG := inBIG (List.mem_of_getElem? (i := 371) (by decide +kernel)) (by decide +kernel)
theorem q_372 : Cond.code yM_chain prog_4_method_10_code 5 (some FieldType.int) ∈ BIG := inBIG (List.mem_of_getElem? (i := 372) (by decide +kernel)) (by decide +kernel)
theorem q_373 : Cond.methodLink "ChainPickerModel" 58 yM_head ∈ BIG := inBIG (List.mem_of_getElem? (i := 373) (by decide +kernel)) (by decide +kernel)
theorem q_375 : Cond.instanceMethod yM_head ∈ BIG := inBIG (List.mem_of_getElem? (i := 375) (by decide +kernel)) (by decide +kernel)
theorem q_376 : Cond.code yM_head prog_4_method_9_code 5 (some FieldType.int) ∈ BIG := inBIG (List.mem_of_getElem? (i := 376) (by decide +kernel)) (by decide +kernel)
theorem q_377 : Cond.methodLink "ChainPickerLaw" 60 yM_link ∈ BIG := inBIG (List.mem_of_getElem? (i := 377) (by decide +kernel)) (by decide +kernel)
theorem q_378 : Cond.instanceMethod yM_link ∈ BIG := inBIG (List.mem_of_getElem? (i := 378) (by decide +kernel)) (by decide +kernel)
theorem q_379 : Cond.selects "ChainPickerModel" yM_link yM_link ∈ BIG := inBIG (List.mem_of_getElem? (i := 379) (by decide +kernel)) (by decide +kernel)
theorem q_380 : Cond.code yM_link prog_4_method_11_code 6 (some FieldType.int) ∈ BIG := inBIG (List.mem_of_getElem? (i := 380) (by decide +kernel)) (by decide +kernel)
theorem q_381 : Cond.methodLink "ChainPickerLaw" 64 yM_view ∈ BIG := inBIG (List.mem_of_getElem? (i := 381) (by decide +kernel)) (by decide +kernel)
theorem q_382 : Cond.instanceMethod yM_view ∈ BIG := inBIG (List.mem_of_getElem? (i := 382) (by decide +kernel)) (by decide +kernel)
theorem q_383 : Cond.selects "ChainPickerModel" yM_view yM_view ∈ BIG := inBIG (List.mem_of_getElem? (i := 383) (by decide +kernel)) (by decide +kernel)
theorem q_384 : Cond.code yM_view prog_4_method_14_code 4 (some FieldType.int) ∈ BIG := inBIG (List.mem_of_getElem? (i := 384) (by decide +kernel)) (by decide +kernel)
theorem q_385 : Cond.methodLink "ChainPickerModel" 65 yM_version ∈ BIG := inBIG (List.mem_of_getElem? (i := 385) (by decide +kernel)) (by decide +kernel)
theorem q_387 : Cond.instanceMethod yM_version ∈ BIG := inBIG (List.mem_of_getElem? (i := 387) (by decide +kernel)) (by decide +kernel)
theorem q_388 : Cond.code yM_version prog_4_method_13_code 5 (some FieldType.int) ∈ BIG := inBIG (List.mem_of_getElem? (i := 388) (by decide +kernel)) (by decide +kernel)
theorem q_389 : Cond.methodLink "ChainPickerModel" 61 yM_teller ∈ BIG := inBIG (List.mem_of_getElem? (i := 389) (by decide +kernel)) (by decide +kernel)
theorem q_391 : Cond.instanceMethod yM_teller ∈ BIG := inBIG (List.mem_of_getElem? (i := 391) (by decide +kernel)) (by decide +kernel)
theorem q_392 : Cond.code yM_teller prog_4_method_12_code 5 (some FieldType.int) ∈ BIG := inBIG (List.mem_of_getElem? (i := 392) (by decide +kernel)) (by decide +kernel)
theorem q_393 : Cond.methodLink "ChainPickerLaw" 68 yM_files ∈ BIG := inBIG (List.mem_of_getElem? (i := 393) (by decide +kernel)) (by decide +kernel)
theorem q_394 : Cond.instanceMethod yM_files ∈ BIG := inBIG (List.mem_of_getElem? (i := 394) (by decide +kernel)) (by decide +kernel)
theorem q_395 : Cond.selects "ChainPickerModel" yM_files yM_files ∈ BIG := inBIG (List.mem_of_getElem? (i := 395) (by decide +kernel)) (by decide +kernel)
theorem q_396 : Cond.code yM_files prog_4_method_15_code 5 (some FieldType.int) ∈ BIG := inBIG (List.mem_of_getElem? (i := 396) (by decide +kernel)) (by decide +kernel)
theorem q_397 : Cond.methodLink "ChainPickerLaw" 72 yM_source ∈ BIG := inBIG (List.mem_of_getElem? (i := 397) (by decide +kernel)) (by decide +kernel)
theorem q_398 : Cond.instanceMethod yM_source ∈ BIG := inBIG (List.mem_of_getElem? (i := 398) (by decide +kernel)) (by decide +kernel)
theorem q_399 : Cond.selects "ChainPickerModel" yM_source yM_source ∈ BIG := inBIG (List.mem_of_getElem? (i := 399) (by decide +kernel)) (by decide +kernel)
theorem q_400 : Cond.code yM_source prog_4_method_16_code 4 (some FieldType.int) ∈ BIG := inBIG (List.mem_of_getElem? (i := 400) (by decide +kernel)) (by decide +kernel)
theorem q_401 : Cond.methodLink "ChainPickerLaw" 77 yM_prune ∈ BIG := inBIG (List.mem_of_getElem? (i := 401) (by decide +kernel)) (by decide +kernel)
theorem q_402 : Cond.instanceMethod yM_prune ∈ BIG := inBIG (List.mem_of_getElem? (i := 402) (by decide +kernel)) (by decide +kernel)
theorem q_403 : Cond.selects "ChainPickerModel" yM_prune yM_prune ∈ BIG := inBIG (List.mem_of_getElem? (i := 403) (by decide +kernel)) (by decide +kernel)
theorem q_404 : Cond.code yM_prune prog_4_method_20_code 2 (some FieldType.boolean) ∈ BIG := inBIG (List.mem_of_getElem? (i := 404) (by decide +kernel)) (by decide +kernel)
theorem q_405 : Cond.methodLink "ChainPickerModel" 72 yM_mayGo ∈ BIG := inBIG (List.mem_of_getElem? (i := 405) (by decide +kernel)) (by decide +kernel)
theorem q_407 : Cond.instanceMethod yM_mayGo ∈ BIG := inBIG (List.mem_of_getElem? (i := 407) (by decide +kernel)) (by decide +kernel)
theorem q_408 : Cond.code yM_mayGo prog_4_method_18_code 2 (some FieldType.boolean) ∈ BIG := inBIG (List.mem_of_getElem? (i := 408) (by decide +kernel)) (by decide +kernel)
theorem q_409 : Cond.methodLink "ChainPickerModel" 68 yM_standing ∈ BIG := inBIG (List.mem_of_getElem? (i := 409) (by decide +kernel)) (by decide +kernel)
theorem q_411 : Cond.instanceMethod yM_standing ∈ BIG := inBIG (List.mem_of_getElem? (i := 411) (by decide +kernel)) (by decide +kernel)
theorem q_412 : Cond.code yM_standing prog_4_method_17_code 4 (some FieldType.int) ∈ BIG := inBIG (List.mem_of_getElem? (i := 412) (by decide +kernel)) (by decide +kernel)
theorem q_413 : Cond.methodLink "ChainPickerModel" 75 yM_drop ∈ BIG := inBIG (List.mem_of_getElem? (i := 413) (by decide +kernel)) (by decide +kernel)
theorem q_415 : Cond.instanceMethod yM_drop ∈ BIG := inBIG (List.mem_of_getElem? (i := 415) (by decide +kernel)) (by decide +kernel)
theorem q_416 : Cond.code yM_drop prog_4_method_19_code 3 none ∈ BIG := inBIG (List.mem_of_getElem? (i := 416) (by decide +kernel)) (by decide +kernel)
theorem q_417 : Cond.methodLink "ChainPickerLaw" 80 yM_expire ∈ BIG := inBIG (List.mem_of_getElem? (i := 417) (by decide +kernel)) (by decide +kernel)
theorem q_418 : Cond.instanceMethod yM_expire ∈ BIG := inBIG (List.mem_of_getElem? (i := 418) (by decide +kernel)) (by decide +kernel)
theorem q_419 : Cond.selects "ChainPickerModel" yM_expire yM_expire ∈ BIG := inBIG (List.mem_of_getElem? (i := 419) (by decide +kernel)) (by decide +kernel)
theorem q_420 : Cond.code yM_expire prog_4_method_22_code 4 (some FieldType.int) ∈ BIG := inBIG (List.mem_of_getElem? (i := 420) (by decide +kernel)) (by decide +kernel)
theorem q_421 : Cond.methodLink "ChainPickerModel" 79 yM_isOnly ∈ BIG := inBIG (List.mem_of_getElem? (i := 421) (by decide +kernel)) (by decide +kernel)
theorem q_423 : Cond.instanceMethod yM_isOnly ∈ BIG := inBIG (List.mem_of_getElem? (i := 423) (by decide +kernel)) (by decide +kernel)
theorem q_424 : Cond.code yM_isOnly prog_4_method_21_code 3 (some FieldType.boolean) ∈ BIG := inBIG (List.mem_of_getElem? (i := 424) (by decide +kernel)) (by decide +kernel)
theorem q_425 : Cond.methodLink "ChainPickerLaw" 84 yM_job ∈ BIG := inBIG (List.mem_of_getElem? (i := 425) (by decide +kernel)) (by decide +kernel)
theorem q_426 : Cond.instanceMethod yM_job ∈ BIG := inBIG (List.mem_of_getElem? (i := 426) (by decide +kernel)) (by decide +kernel)
theorem q_427 : Cond.selects "ChainPickerModel" yM_job yM_job ∈ BIG := inBIG (List.mem_of_getElem? (i := 427) (by decide +kernel)) (by decide +kernel)
theorem q_428 : Cond.code yM_job prog_4_method_23_code 5 (some FieldType.int) ∈ BIG := inBIG (List.mem_of_getElem? (i := 428) (by decide +kernel)) (by decide +kernel)
theorem q_429 : Cond.methodLink "ChainPickerLaw" 88 yM_count ∈ BIG := inBIG (List.mem_of_getElem? (i := 429) (by decide +kernel)) (by decide +kernel)
theorem q_430 : Cond.instanceMethod yM_count ∈ BIG := inBIG (List.mem_of_getElem? (i := 430) (by decide +kernel)) (by decide +kernel)
theorem q_431 : Cond.selects "ChainPickerModel" yM_count yM_count ∈ BIG := inBIG (List.mem_of_getElem? (i := 431) (by decide +kernel)) (by decide +kernel)
theorem q_432 : Cond.code yM_count prog_4_method_24_code 5 (some FieldType.int) ∈ BIG := inBIG (List.mem_of_getElem? (i := 432) (by decide +kernel)) (by decide +kernel)
theorem q_433 : Cond.arrayClass FieldType.long ∈ BIG := inBIG (List.mem_of_getElem? (i := 433) (by decide +kernel)) (by decide +kernel)
theorem qs_0 : Cond.selects "ChainPicker" yC_hasRunning yC_hasRunning ∈ BIG := inBIGs (by decide +kernel) (by decide +kernel)
theorem qs_1 : Cond.selects "ChainPicker" yC_findBase yC_findBase ∈ BIG := inBIGs (by decide +kernel) (by decide +kernel)
theorem qs_2 : Cond.selects "ChainPicker" yC_findJob yC_findJob ∈ BIG := inBIGs (by decide +kernel) (by decide +kernel)
theorem qs_3 : Cond.selects "ChainPicker" yC_findHead yC_findHead ∈ BIG := inBIGs (by decide +kernel) (by decide +kernel)
theorem qs_4 : Cond.selects "ChainPicker" yC_countRunning yC_countRunning ∈ BIG := inBIGs (by decide +kernel) (by decide +kernel)
theorem qs_5 : Cond.selects "ChainPicker" yC_countPruned yC_countPruned ∈ BIG := inBIGs (by decide +kernel) (by decide +kernel)
theorem qs_7 : Cond.selects "ChainPicker" yC_isOnlyGoodFull yC_isOnlyGoodFull ∈ BIG := inBIGs (by decide +kernel) (by decide +kernel)
theorem qs_8 : Cond.selects "ChainPickerModel" yM_lastOne yM_lastOne ∈ BIG := inBIGs (by decide +kernel) (by decide +kernel)
theorem qs_9 : Cond.selects "ChainPickerModel" yM_isJob yM_isJob ∈ BIG := inBIGs (by decide +kernel) (by decide +kernel)
theorem qs_10 : Cond.selects "ChainPickerModel" yM_head yM_head ∈ BIG := inBIGs (by decide +kernel) (by decide +kernel)
theorem qs_11 : Cond.selects "ChainPickerModel" yM_version yM_version ∈ BIG := inBIGs (by decide +kernel) (by decide +kernel)
theorem qs_12 : Cond.selects "ChainPickerModel" yM_teller yM_teller ∈ BIG := inBIGs (by decide +kernel) (by decide +kernel)
theorem qs_13 : Cond.selects "ChainPickerModel" yM_mayGo yM_mayGo ∈ BIG := inBIGs (by decide +kernel) (by decide +kernel)
theorem qs_14 : Cond.selects "ChainPickerModel" yM_standing yM_standing ∈ BIG := inBIGs (by decide +kernel) (by decide +kernel)
theorem qs_15 : Cond.selects "ChainPickerModel" yM_drop yM_drop ∈ BIG := inBIGs (by decide +kernel) (by decide +kernel)
theorem qs_16 : Cond.selects "ChainPickerModel" yM_isOnly yM_isOnly ∈ BIG := inBIGs (by decide +kernel) (by decide +kernel)
abbrev NEST : List Cond := [Cond.methodLinkNest "ChainPicker" 47 yJ_init "ChainPicker", Cond.fieldLinkNest "ChainPicker" 50 "ChainPicker$Job" "number" "I" "ChainPicker", Cond.fieldLinkNest "ChainPicker" 111 "ChainPicker$Job" "series" "I" "ChainPicker", Cond.fieldLinkNest "ChainPicker" 63 "ChainPicker$Job" "level" "I" "ChainPicker", Cond.fieldLinkNest "ChainPicker" 114 "ChainPicker$Job" "upgraded" "Z" "ChainPicker", Cond.fieldLinkNest "ChainPicker" 79 "ChainPicker$Job" "base" "LChainPicker$Job;" "ChainPicker", Cond.fieldLinkNest "ChainPicker" 118 "ChainPicker$Job" "began" "I" "ChainPicker", Cond.fieldLinkNest "ChainPicker" 108 "ChainPicker$Job" "earlier" "LChainPicker$Job;" "ChainPicker", Cond.fieldLinkNest "ChainPicker" 69 "ChainPicker$Job" "versions" "[I" "ChainPicker", Cond.fieldLinkNest "ChainPicker" 73 "ChainPicker$Job" "ended" "I" "ChainPicker", Cond.fieldLinkNest "ChainPicker" 57 "ChainPicker$Job" "state" "I" "ChainPicker", Cond.fieldLinkNest "ChainPicker" 121 "ChainPicker$Job" "pruned" "Z" "ChainPicker", Cond.fieldLinkNest "ChainPicker" 42 "ChainPicker$Job" "standing" "I" "ChainPicker", Cond.castable "java/lang/IllegalArgumentException" "java/lang/IllegalArgumentException", Cond.declares ⟨"java/lang/RuntimeException", "<init>", "()V"⟩, Cond.declares ⟨"java/lang/RuntimeException", "<init>", "(Ljava/lang/String;)V"⟩, Cond.declares ⟨"java/lang/Exception", "<init>", "()V"⟩, Cond.declares ⟨"java/lang/Exception", "<init>", "(Ljava/lang/String;)V"⟩, Cond.declares ⟨"java/lang/Throwable", "<init>", "()V"⟩, Cond.declares ⟨"java/lang/Throwable", "<init>", "(Ljava/lang/String;)V"⟩, Cond.castable "java/lang/IndexOutOfBoundsException" "java/lang/IndexOutOfBoundsException"]
theorem NEST_ok : NEST.all nestWord = true := by decide +kernel
theorem NEST_in : ∀ w ∈ NEST, w ∈ lw_tbl := by decide +kernel
theorem i_J : ∀ w ∈ u_ws "ChainPicker$Job" T_J 12, w ∈ BIG := by decide +kernel
theorem i_C : ∀ w ∈ u_ws "ChainPicker" T_C 3, w ∈ BIG := by decide +kernel
theorem i_M : ∀ w ∈ u_ws "ChainPickerModel" T_M 12, w ∈ BIG := by decide +kernel
