/-! names of this claim: by program out of tables_1 and the listing -/
abbrev qR_X : String := "ContractProbe"
abbrev qR_C : String := "ContractProbe$Code"
abbrev qR_K : String := "ContractProbe$Machine"
abbrev qR_Y : String := "ContractProbe$Ways"
abbrev qR_B : String := "ContractProbe$Batch"
abbrev qR_P : String := "ContractProbe$Paths"
abbrev qR_T : String := "ContractProbe$Tally"
abbrev qR_E : String := "ContractProbe$Exploration"
abbrev qR_M : String := "ContractProbeModel"
abbrev qR_A : String := "java/util/Arrays"
abbrev qR_L : String := "ContractProbeLaw"
def qT_X : u_T := fun k => match k with
  | 0 => ("ContractProbe", "machine", "LContractProbe$Machine;", true)
  | 1 => ("ContractProbe", "exploration", "LContractProbe$Exploration;", true)
  | 2 => ("ContractProbe", "replayRow", "[I", true)
  | 3 => ("ContractProbe", "hasReplay", "Z", false)
  | 4 => ("ContractProbe", "balance", "I", false)
  | _ => ("ContractProbe", "limit", "I", false)
def qt_X : Nat → FieldType := fun k => match k with
  | 0 => .object "ContractProbe$Machine"
  | 1 => .object "ContractProbe$Exploration"
  | 2 => .array .int
  | 3 => .boolean
  | 4 => .int
  | _ => .int
theorem qn_X : ∀ a, a < 6 → ∀ b, b < 6 → a ≠ b → (qT_X a).2.1 ≠ (qT_X b).2.1 := by decide +kernel
theorem qk_X : ∀ k, k < 6 → parseFieldDescriptor (qT_X k).2.2.1 = some (qt_X k) := by decide +kernel
def qT_K : u_T := fun k => match k with
  | 0 => ("ContractProbe$Machine", "code", "LContractProbe$Code;", true)
  | 1 => ("ContractProbe$Machine", "stack", "[I", true)
  | 2 => ("ContractProbe$Machine", "depth", "I", false)
  | 3 => ("ContractProbe$Machine", "state", "I", false)
  | 4 => ("ContractProbe$Machine", "gas", "I", false)
  | 5 => ("ContractProbe$Machine", "at", "I", false)
  | 6 => ("ContractProbe$Machine", "ending", "I", false)
  | 7 => ("ContractProbe$Machine", "input", "I", false)
  | 8 => ("ContractProbe$Machine", "caller", "I", false)
  | 9 => ("ContractProbe$Machine", "hasSent", "Z", false)
  | 10 => ("ContractProbe$Machine", "steps", "[I", true)
  | 11 => ("ContractProbe$Machine", "stepCount", "I", false)
  | 12 => ("ContractProbe$Machine", "shape", "I", false)
  | _ => ("ContractProbe$Machine", "found", "[I", true)
def qt_K : Nat → FieldType := fun k => match k with
  | 0 => .object "ContractProbe$Code"
  | 1 => .array .int
  | 2 => .int
  | 3 => .int
  | 4 => .int
  | 5 => .int
  | 6 => .int
  | 7 => .int
  | 8 => .int
  | 9 => .boolean
  | 10 => .array .int
  | 11 => .int
  | 12 => .int
  | _ => .array .int
theorem qn_K : ∀ a, a < 14 → ∀ b, b < 14 → a ≠ b → (qT_K a).2.1 ≠ (qT_K b).2.1 := by decide +kernel
theorem qk_K : ∀ k, k < 14 → parseFieldDescriptor (qT_K k).2.2.1 = some (qt_K k) := by decide +kernel
def qT_C : u_T := fun k => match k with
  | 0 => ("ContractProbe$Code", "operators", "[I", true)
  | 1 => ("ContractProbe$Code", "arguments", "[I", true)
  | 2 => ("ContractProbe$Code", "marks", "[I", true)
  | _ => ("ContractProbe$Code", "size", "I", false)
def qt_C : Nat → FieldType := fun k => match k with
  | 0 => .array .int
  | 1 => .array .int
  | 2 => .array .int
  | _ => .int
theorem qn_C : ∀ a, a < 4 → ∀ b, b < 4 → a ≠ b → (qT_C a).2.1 ≠ (qT_C b).2.1 := by decide +kernel
theorem qk_C : ∀ k, k < 4 → parseFieldDescriptor (qT_C k).2.2.1 = some (qt_C k) := by decide +kernel
def qT_E : u_T := fun k => match k with
  | 0 => ("ContractProbe$Exploration", "firsts", "LContractProbe$Batch;", true)
  | 1 => ("ContractProbe$Exploration", "lasts", "LContractProbe$Batch;", true)
  | 2 => ("ContractProbe$Exploration", "paths", "LContractProbe$Paths;", true)
  | 3 => ("ContractProbe$Exploration", "tally", "LContractProbe$Tally;", true)
  | _ => ("ContractProbe$Exploration", "transactions", "I", false)
def qt_E : Nat → FieldType := fun k => match k with
  | 0 => .object "ContractProbe$Batch"
  | 1 => .object "ContractProbe$Batch"
  | 2 => .object "ContractProbe$Paths"
  | 3 => .object "ContractProbe$Tally"
  | _ => .int
theorem qn_E : ∀ a, a < 5 → ∀ b, b < 5 → a ≠ b → (qT_E a).2.1 ≠ (qT_E b).2.1 := by decide +kernel
theorem qk_E : ∀ k, k < 5 → parseFieldDescriptor (qT_E k).2.2.1 = some (qt_E k) := by decide +kernel
def qT_B : u_T := fun k => match k with
  | 0 => ("ContractProbe$Batch", "ways", "LContractProbe$Ways;", true)
  | 1 => ("ContractProbe$Batch", "wayOf", "[I", true)
  | 2 => ("ContractProbe$Batch", "states", "[I", true)
  | _ => ("ContractProbe$Batch", "found", "[I", true)
def qt_B : Nat → FieldType := fun k => match k with
  | 0 => .object "ContractProbe$Ways"
  | 1 => .array .int
  | 2 => .array .int
  | _ => .array .int
theorem qn_B : ∀ a, a < 4 → ∀ b, b < 4 → a ≠ b → (qT_B a).2.1 ≠ (qT_B b).2.1 := by decide +kernel
theorem qk_B : ∀ k, k < 4 → parseFieldDescriptor (qT_B k).2.2.1 = some (qt_B k) := by decide +kernel
def qT_Y : u_T := fun k => match k with
  | 0 => ("ContractProbe$Ways", "steps", "[I", true)
  | 1 => ("ContractProbe$Ways", "stepCounts", "[I", true)
  | 2 => ("ContractProbe$Ways", "shapes", "[I", true)
  | 3 => ("ContractProbe$Ways", "endings", "[I", true)
  | _ => ("ContractProbe$Ways", "count", "I", false)
def qt_Y : Nat → FieldType := fun k => match k with
  | 0 => .array .int
  | 1 => .array .int
  | 2 => .array .int
  | 3 => .array .int
  | _ => .int
theorem qn_Y : ∀ a, a < 5 → ∀ b, b < 5 → a ≠ b → (qT_Y a).2.1 ≠ (qT_Y b).2.1 := by decide +kernel
theorem qk_Y : ∀ k, k < 5 → parseFieldDescriptor (qT_Y k).2.2.1 = some (qt_Y k) := by decide +kernel
def qT_P : u_T := fun k => match k with
  | 0 => ("ContractProbe$Paths", "rowByWays", "[I", true)
  | 1 => ("ContractProbe$Paths", "firstWays", "[I", true)
  | 2 => ("ContractProbe$Paths", "lastWays", "[I", true)
  | 3 => ("ContractProbe$Paths", "inputCounts", "[I", true)
  | 4 => ("ContractProbe$Paths", "witnesses", "[I", true)
  | 5 => ("ContractProbe$Paths", "states", "[I", true)
  | 6 => ("ContractProbe$Paths", "differences", "[I", true)
  | 7 => ("ContractProbe$Paths", "order", "[I", true)
  | _ => ("ContractProbe$Paths", "count", "I", false)
def qt_P : Nat → FieldType := fun k => match k with
  | 0 => .array .int
  | 1 => .array .int
  | 2 => .array .int
  | 3 => .array .int
  | 4 => .array .int
  | 5 => .array .int
  | 6 => .array .int
  | 7 => .array .int
  | _ => .int
theorem qn_P : ∀ a, a < 9 → ∀ b, b < 9 → a ≠ b → (qT_P a).2.1 ≠ (qT_P b).2.1 := by decide +kernel
theorem qk_P : ∀ k, k < 9 → parseFieldDescriptor (qT_P k).2.2.1 = some (qt_P k) := by decide +kernel
def qT_T : u_T := fun k => match k with
  | 0 => ("ContractProbe$Tally", "least", "[I", true)
  | _ => ("ContractProbe$Tally", "counts", "[I", true)
def qt_T : Nat → FieldType := fun k => match k with
  | 0 => .array .int
  | _ => .array .int
theorem qn_T : ∀ a, a < 2 → ∀ b, b < 2 → a ≠ b → (qT_T a).2.1 ≠ (qT_T b).2.1 := by decide +kernel
theorem qk_T : ∀ k, k < 2 → parseFieldDescriptor (qT_T k).2.2.1 = some (qt_T k) := by decide +kernel
def qT_M : u_T := fun k => match k with
  | 0 => ("ContractProbeModel", "size", "I", false)
  | 1 => ("ContractProbeModel", "op", "[I", true)
  | 2 => ("ContractProbeModel", "arg", "[I", true)
  | 3 => ("ContractProbeModel", "balance0", "I", false)
  | 4 => ("ContractProbeModel", "limit", "I", false)
  | 5 => ("ContractProbeModel", "cell", "[I", true)
  | 6 => ("ContractProbeModel", "before", "[I", true)
  | 7 => ("ContractProbeModel", "stack", "[I", true)
  | 8 => ("ContractProbeModel", "depth", "I", false)
  | 9 => ("ContractProbeModel", "gas", "I", false)
  | 10 => ("ContractProbeModel", "at", "I", false)
  | 11 => ("ContractProbeModel", "input", "I", false)
  | 12 => ("ContractProbeModel", "caller", "I", false)
  | 13 => ("ContractProbeModel", "next", "I", false)
  | 14 => ("ContractProbeModel", "sent", "Z", false)
  | 15 => ("ContractProbeModel", "way", "[I", true)
  | 16 => ("ContractProbeModel", "many", "[I", true)
  | 17 => ("ContractProbeModel", "ends", "[I", true)
  | 18 => ("ContractProbeModel", "found", "[I", true)
  | 19 => ("ContractProbeModel", "paths", "I", false)
  | 20 => ("ContractProbeModel", "explored", "I", false)
  | 21 => ("ContractProbeModel", "pathWay", "[I", true)
  | 22 => ("ContractProbeModel", "pathMany", "[I", true)
  | 23 => ("ContractProbeModel", "pathEnds", "[I", true)
  | 24 => ("ContractProbeModel", "inputsOf", "[I", true)
  | 25 => ("ContractProbeModel", "first", "[I", true)
  | 26 => ("ContractProbeModel", "left", "[I", true)
  | 27 => ("ContractProbeModel", "same", "[Z", true)
  | 28 => ("ContractProbeModel", "risks", "[I", true)
  | 29 => ("ContractProbeModel", "least", "[I", true)
  | 30 => ("ContractProbeModel", "replays", "Z", false)
  | _ => ("ContractProbeModel", "last", "[I", true)
def qt_M : Nat → FieldType := fun k => match k with
  | 0 => .int
  | 1 => .array .int
  | 2 => .array .int
  | 3 => .int
  | 4 => .int
  | 5 => .array .int
  | 6 => .array .int
  | 7 => .array .int
  | 8 => .int
  | 9 => .int
  | 10 => .int
  | 11 => .int
  | 12 => .int
  | 13 => .int
  | 14 => .boolean
  | 15 => .array .int
  | 16 => .array .int
  | 17 => .array .int
  | 18 => .array .int
  | 19 => .int
  | 20 => .int
  | 21 => .array .int
  | 22 => .array .int
  | 23 => .array .int
  | 24 => .array .int
  | 25 => .array .int
  | 26 => .array .int
  | 27 => .array .boolean
  | 28 => .array .int
  | 29 => .array .int
  | 30 => .boolean
  | _ => .array .int
theorem qn_M : ∀ a, a < 32 → ∀ b, b < 32 → a ≠ b → (qT_M a).2.1 ≠ (qT_M b).2.1 := by decide +kernel
theorem qk_M : ∀ k, k < 32 → parseFieldDescriptor (qT_M k).2.2.1 = some (qt_M k) := by decide +kernel
abbrev qcl : List vw_C := [(qR_X, qT_X, 6), (qR_K, qT_K, 14), (qR_C, qT_C, 4), (qR_E, qT_E, 5), (qR_B, qT_B, 4), (qR_Y, qT_Y, 5), (qR_P, qT_P, 9), (qR_T, qT_T, 2), (qR_M, qT_M, 32)]
abbrev qc_X_init : ByteArray := prog_1_method_1_code
abbrev qy_X_init : MethodName := ⟨"ContractProbe", "<init>", "()V"⟩
abbrev qc_K_init : ByteArray := prog_5_method_1_code
abbrev qy_K_init : MethodName := ⟨"ContractProbe$Machine", "<init>", "()V"⟩
abbrev qc_C_init : ByteArray := prog_3_method_1_code
abbrev qy_C_init : MethodName := ⟨"ContractProbe$Code", "<init>", "()V"⟩
abbrev qc_A_fill : ByteArray := prog_11_method_103_code
abbrev qy_A_fill : MethodName := ⟨"java/util/Arrays", "fill", "([II)V"⟩
abbrev qc_E_init : ByteArray := prog_4_method_1_code
abbrev qy_E_init : MethodName := ⟨"ContractProbe$Exploration", "<init>", "()V"⟩
abbrev qc_B_init : ByteArray := prog_2_method_1_code
abbrev qy_B_init : MethodName := ⟨"ContractProbe$Batch", "<init>", "()V"⟩
abbrev qc_Y_init : ByteArray := prog_8_method_1_code
abbrev qy_Y_init : MethodName := ⟨"ContractProbe$Ways", "<init>", "()V"⟩
abbrev qc_P_init : ByteArray := prog_6_method_1_code
abbrev qy_P_init : MethodName := ⟨"ContractProbe$Paths", "<init>", "()V"⟩
abbrev qc_T_init : ByteArray := prog_7_method_1_code
abbrev qy_T_init : MethodName := ⟨"ContractProbe$Tally", "<init>", "()V"⟩
abbrev qc_X_add : ByteArray := prog_1_method_2_code
abbrev qy_X_add : MethodName := ⟨"ContractProbe", "add", "(II)I"⟩
abbrev qc_X_isBelow : ByteArray := prog_1_method_17_code
abbrev qy_X_isBelow : MethodName := ⟨"ContractProbe", "isBelow", "(II)Z"⟩
abbrev qc_C_append : ByteArray := prog_3_method_2_code
abbrev qy_C_append : MethodName := ⟨"ContractProbe$Code", "append", "(II)I"⟩
abbrev qc_X_clear : ByteArray := prog_1_method_3_code
abbrev qy_X_clear : MethodName := ⟨"ContractProbe", "clear", "()V"⟩
abbrev qc_C_wipe : ByteArray := prog_3_method_3_code
abbrev qy_C_wipe : MethodName := ⟨"ContractProbe$Code", "wipe", "()V"⟩
abbrev qc_X_start : ByteArray := prog_1_method_4_code
abbrev qy_X_start : MethodName := ⟨"ContractProbe", "start", "(II)Z"⟩
abbrev qc_X_explore : ByteArray := prog_1_method_5_code
abbrev qy_X_explore : MethodName := ⟨"ContractProbe", "explore", "(I)I"⟩
abbrev qc_E_forget : ByteArray := prog_4_method_2_code
abbrev qy_E_forget : MethodName := ⟨"ContractProbe$Exploration", "forget", "()V"⟩
abbrev qc_B_forget : ByteArray := prog_2_method_2_code
abbrev qy_B_forget : MethodName := ⟨"ContractProbe$Batch", "forget", "()V"⟩
abbrev qc_Y_forget : ByteArray := prog_8_method_2_code
abbrev qy_Y_forget : MethodName := ⟨"ContractProbe$Ways", "forget", "()V"⟩
abbrev qc_P_forget : ByteArray := prog_6_method_2_code
abbrev qy_P_forget : MethodName := ⟨"ContractProbe$Paths", "forget", "()V"⟩
abbrev qc_T_forget : ByteArray := prog_7_method_2_code
abbrev qy_T_forget : MethodName := ⟨"ContractProbe$Tally", "forget", "()V"⟩
abbrev qc_X_firstState : ByteArray := prog_1_method_16_code
abbrev qy_X_firstState : MethodName := ⟨"ContractProbe", "firstState", "()I"⟩
abbrev qc_E_surveySingles : ByteArray := prog_4_method_3_code
abbrev qy_E_surveySingles : MethodName := ⟨"ContractProbe$Exploration", "surveySingles", "(LContractProbe$Machine;II)Z"⟩
abbrev qc_B_fill : ByteArray := prog_2_method_3_code
abbrev qy_B_fill : MethodName := ⟨"ContractProbe$Batch", "fill", "(LContractProbe$Machine;IZI)Z"⟩
abbrev qc_K_transact : ByteArray := prog_5_method_2_code
abbrev qy_K_transact : MethodName := ⟨"ContractProbe$Machine", "transact", "(IIZI)V"⟩
abbrev qc_K_begin : ByteArray := prog_5_method_3_code
abbrev qy_K_begin : MethodName := ⟨"ContractProbe$Machine", "begin", "(III)V"⟩
abbrev qc_K_keepStep : ByteArray := prog_5_method_4_code
abbrev qy_K_keepStep : MethodName := ⟨"ContractProbe$Machine", "keepStep", "(I)V"⟩
abbrev qc_K_perform : ByteArray := prog_5_method_5_code
abbrev qy_K_perform : MethodName := ⟨"ContractProbe$Machine", "perform", "(II)V"⟩
abbrev qc_K_faultOf : ByteArray := prog_5_method_6_code
abbrev qy_K_faultOf : MethodName := ⟨"ContractProbe$Machine", "faultOf", "(II)I"⟩
abbrev qc_K_wordUnder : ByteArray := prog_5_method_12_code
abbrev qy_K_wordUnder : MethodName := ⟨"ContractProbe$Machine", "wordUnder", "(I)I"⟩
abbrev qc_K_note : ByteArray := prog_5_method_13_code
abbrev qy_K_note : MethodName := ⟨"ContractProbe$Machine", "note", "(I)V"⟩
abbrev qc_K_look : ByteArray := prog_5_method_7_code
abbrev qy_K_look : MethodName := ⟨"ContractProbe$Machine", "look", "(III)V"⟩
abbrev qc_K_wordPut : ByteArray := prog_5_method_8_code
abbrev qy_K_wordPut : MethodName := ⟨"ContractProbe$Machine", "wordPut", "(IIII)I"⟩
abbrev qc_X_wordOf : ByteArray := prog_1_method_18_code
abbrev qy_X_wordOf : MethodName := ⟨"ContractProbe", "wordOf", "(II)I"⟩
abbrev qc_K_send : ByteArray := prog_5_method_10_code
abbrev qy_K_send : MethodName := ⟨"ContractProbe$Machine", "send", "(I)I"⟩
abbrev qc_K_act : ByteArray := prog_5_method_9_code
abbrev qy_K_act : MethodName := ⟨"ContractProbe$Machine", "act", "(IIII)V"⟩
abbrev qc_K_swap : ByteArray := prog_5_method_11_code
abbrev qy_K_swap : MethodName := ⟨"ContractProbe$Machine", "swap", "(II)V"⟩
abbrev qc_X_withWord : ByteArray := prog_1_method_19_code
abbrev qy_X_withWord : MethodName := ⟨"ContractProbe", "withWord", "(III)I"⟩
abbrev qc_Y_numberOf : ByteArray := prog_8_method_3_code
abbrev qy_Y_numberOf : MethodName := ⟨"ContractProbe$Ways", "numberOf", "(LContractProbe$Machine;)I"⟩
abbrev qc_Y_isWayOf : ByteArray := prog_8_method_5_code
abbrev qy_Y_isWayOf : MethodName := ⟨"ContractProbe$Ways", "isWayOf", "(LContractProbe$Machine;I)Z"⟩
abbrev qc_Y_keep : ByteArray := prog_8_method_6_code
abbrev qy_Y_keep : MethodName := ⟨"ContractProbe$Ways", "keep", "(LContractProbe$Machine;I)V"⟩
abbrev qc_E_countFollowers : ByteArray := prog_4_method_9_code
abbrev qy_E_countFollowers : MethodName := ⟨"ContractProbe$Exploration", "countFollowers", "(I)Z"⟩
abbrev qc_P_meet : ByteArray := prog_6_method_4_code
abbrev qy_P_meet : MethodName := ⟨"ContractProbe$Paths", "meet", "(IIII)I"⟩
abbrev qc_P_open : ByteArray := prog_6_method_5_code
abbrev qy_P_open : MethodName := ⟨"ContractProbe$Paths", "open", "(IIII)I"⟩
abbrev qc_T_note : ByteArray := prog_7_method_3_code
abbrev qy_T_note : MethodName := ⟨"ContractProbe$Tally", "note", "(IIII)V"⟩
abbrev qc_E_surveyPairs : ByteArray := prog_4_method_4_code
abbrev qy_E_surveyPairs : MethodName := ⟨"ContractProbe$Exploration", "surveyPairs", "(LContractProbe$Machine;II)Z"⟩
abbrev qc_B_isFollowedLikeAnEarlierOne : ByteArray := prog_2_method_6_code
abbrev qy_B_isFollowedLikeAnEarlierOne : MethodName := ⟨"ContractProbe$Batch", "isFollowedLikeAnEarlierOne", "(I)Z"⟩
abbrev qc_B_areFollowedAlike : ByteArray := prog_2_method_5_code
abbrev qy_B_areFollowedAlike : MethodName := ⟨"ContractProbe$Batch", "areFollowedAlike", "(II)Z"⟩
abbrev qc_B_isDestroyed : ByteArray := prog_2_method_4_code
abbrev qy_B_isDestroyed : MethodName := ⟨"ContractProbe$Batch", "isDestroyed", "(I)Z"⟩
abbrev qc_E_countFollowersOfAllAlike : ByteArray := prog_4_method_8_code
abbrev qy_E_countFollowersOfAllAlike : MethodName := ⟨"ContractProbe$Exploration", "countFollowersOfAllAlike", "(I)Z"⟩
abbrev qc_E_conclude : ByteArray := prog_4_method_5_code
abbrev qy_E_conclude : MethodName := ⟨"ContractProbe$Exploration", "conclude", "(Z)I"⟩
abbrev qc_P_putInOrder : ByteArray := prog_6_method_6_code
abbrev qy_P_putInOrder : MethodName := ⟨"ContractProbe$Paths", "putInOrder", "()V"⟩
abbrev qc_X_inputs : ByteArray := prog_1_method_6_code
abbrev qy_X_inputs : MethodName := ⟨"ContractProbe", "inputs", "(I)I"⟩
abbrev qc_P_rowOf : ByteArray := prog_6_method_3_code
abbrev qy_P_rowOf : MethodName := ⟨"ContractProbe$Paths", "rowOf", "(I)I"⟩
abbrev qc_X_witness : ByteArray := prog_1_method_7_code
abbrev qy_X_witness : MethodName := ⟨"ContractProbe", "witness", "(I)I"⟩
abbrev qc_X_end : ByteArray := prog_1_method_8_code
abbrev qy_X_end : MethodName := ⟨"ContractProbe", "end", "(II)I"⟩
abbrev qc_E_waysOf : ByteArray := prog_4_method_6_code
abbrev qy_E_waysOf : MethodName := ⟨"ContractProbe$Exploration", "waysOf", "(I)LContractProbe$Ways;"⟩
abbrev qc_E_wayOn : ByteArray := prog_4_method_7_code
abbrev qy_E_wayOn : MethodName := ⟨"ContractProbe$Exploration", "wayOn", "(II)I"⟩
abbrev qc_X_step : ByteArray := prog_1_method_9_code
abbrev qy_X_step : MethodName := ⟨"ContractProbe", "step", "(III)I"⟩
abbrev qc_Y_stepOf : ByteArray := prog_8_method_4_code
abbrev qy_Y_stepOf : MethodName := ⟨"ContractProbe$Ways", "stepOf", "(II)I"⟩
abbrev qc_X_left : ByteArray := prog_1_method_10_code
abbrev qy_X_left : MethodName := ⟨"ContractProbe", "left", "(II)I"⟩
abbrev qc_X_finding : ByteArray := prog_1_method_11_code
abbrev qy_X_finding : MethodName := ⟨"ContractProbe", "finding", "(II)I"⟩
abbrev qc_T_leastOf : ByteArray := prog_7_method_4_code
abbrev qy_T_leastOf : MethodName := ⟨"ContractProbe$Tally", "leastOf", "(II)I"⟩
abbrev qc_X_risk : ByteArray := prog_1_method_12_code
abbrev qy_X_risk : MethodName := ⟨"ContractProbe", "risk", "(III)I"⟩
abbrev qc_T_countOf : ByteArray := prog_7_method_5_code
abbrev qy_T_countOf : MethodName := ⟨"ContractProbe$Tally", "countOf", "(III)I"⟩
abbrev qc_X_replay : ByteArray := prog_1_method_13_code
abbrev qy_X_replay : MethodName := ⟨"ContractProbe", "replay", "(II)I"⟩
abbrev qc_X_keepReplay : ByteArray := prog_1_method_15_code
abbrev qy_X_keepReplay : MethodName := ⟨"ContractProbe", "keepReplay", "()V"⟩
abbrev qc_X_replayed : ByteArray := prog_1_method_14_code
abbrev qy_X_replayed : MethodName := ⟨"ContractProbe", "replayed", "(I)I"⟩
abbrev qc_M_init : ByteArray := prog_10_method_1_code
abbrev qy_M_init : MethodName := ⟨"ContractProbeModel", "<init>", "()V"⟩
abbrev qc_M_add : ByteArray := prog_10_method_2_code
abbrev qy_M_add : MethodName := ⟨"ContractProbeModel", "add", "(II)I"⟩
abbrev qc_M_clear : ByteArray := prog_10_method_3_code
abbrev qy_M_clear : MethodName := ⟨"ContractProbeModel", "clear", "()V"⟩
abbrev qc_M_start : ByteArray := prog_10_method_4_code
abbrev qy_M_start : MethodName := ⟨"ContractProbeModel", "start", "(II)Z"⟩
abbrev qc_M_explore : ByteArray := prog_10_method_22_code
abbrev qy_M_explore : MethodName := ⟨"ContractProbeModel", "explore", "(I)I"⟩
abbrev qc_M_perform : ByteArray := prog_10_method_18_code
abbrev qy_M_perform : MethodName := ⟨"ContractProbeModel", "perform", "(II)V"⟩
abbrev qc_M_transact : ByteArray := prog_10_method_17_code
abbrev qy_M_transact : MethodName := ⟨"ContractProbeModel", "transact", "(II)V"⟩
abbrev qc_M_faults : ByteArray := prog_10_method_12_code
abbrev qy_M_faults : MethodName := ⟨"ContractProbeModel", "faults", "(I)Z"⟩
abbrev qc_M_cost : ByteArray := prog_10_method_7_code
abbrev qy_M_cost : MethodName := ⟨"ContractProbeModel", "cost", "(I)I"⟩
abbrev qc_M_takes : ByteArray := prog_10_method_5_code
abbrev qy_M_takes : MethodName := ⟨"ContractProbeModel", "takes", "(I)I"⟩
abbrev qc_M_puts : ByteArray := prog_10_method_6_code
abbrev qy_M_puts : MethodName := ⟨"ContractProbeModel", "puts", "(I)I"⟩
abbrev qc_M_markOf : ByteArray := prog_10_method_8_code
abbrev qy_M_markOf : MethodName := ⟨"ContractProbeModel", "markOf", "(I)I"⟩
abbrev qc_M_note : ByteArray := prog_10_method_9_code
abbrev qy_M_note : MethodName := ⟨"ContractProbeModel", "note", "(I)V"⟩
abbrev qc_M_act : ByteArray := prog_10_method_14_code
abbrev qy_M_act : MethodName := ⟨"ContractProbeModel", "act", "(I)I"⟩
abbrev qc_M_overflows : ByteArray := prog_10_method_11_code
abbrev qy_M_overflows : MethodName := ⟨"ContractProbeModel", "overflows", "(III)Z"⟩
abbrev qc_M_give : ByteArray := prog_10_method_13_code
abbrev qy_M_give : MethodName := ⟨"ContractProbeModel", "give", "(I)V"⟩
abbrev qc_M_swap : ByteArray := prog_10_method_15_code
abbrev qy_M_swap : MethodName := ⟨"ContractProbeModel", "swap", "(I)V"⟩
abbrev qc_M_send : ByteArray := prog_10_method_16_code
abbrev qy_M_send : MethodName := ⟨"ContractProbeModel", "send", "(I)V"⟩
abbrev qc_M_worked : ByteArray := prog_10_method_10_code
abbrev qy_M_worked : MethodName := ⟨"ContractProbeModel", "worked", "(III)I"⟩
abbrev qc_M_goes : ByteArray := prog_10_method_19_code
abbrev qy_M_goes : MethodName := ⟨"ContractProbeModel", "goes", "(I)Z"⟩
abbrev qc_M_open : ByteArray := prog_10_method_20_code
abbrev qy_M_open : MethodName := ⟨"ContractProbeModel", "open", "(II)V"⟩
abbrev qc_M_count : ByteArray := prog_10_method_21_code
abbrev qy_M_count : MethodName := ⟨"ContractProbeModel", "count", "(II)V"⟩
abbrev qc_M_inputs : ByteArray := prog_10_method_24_code
abbrev qy_M_inputs : MethodName := ⟨"ContractProbeModel", "inputs", "(I)I"⟩
abbrev qc_M_isPath : ByteArray := prog_10_method_23_code
abbrev qy_M_isPath : MethodName := ⟨"ContractProbeModel", "isPath", "(I)Z"⟩
abbrev qc_M_witness : ByteArray := prog_10_method_25_code
abbrev qy_M_witness : MethodName := ⟨"ContractProbeModel", "witness", "(I)I"⟩
abbrev qc_M_end : ByteArray := prog_10_method_26_code
abbrev qy_M_end : MethodName := ⟨"ContractProbeModel", "end", "(II)I"⟩
abbrev qc_M_step : ByteArray := prog_10_method_27_code
abbrev qy_M_step : MethodName := ⟨"ContractProbeModel", "step", "(III)I"⟩
abbrev qc_M_left : ByteArray := prog_10_method_28_code
abbrev qy_M_left : MethodName := ⟨"ContractProbeModel", "left", "(II)I"⟩
abbrev qc_M_finding : ByteArray := prog_10_method_29_code
abbrev qy_M_finding : MethodName := ⟨"ContractProbeModel", "finding", "(II)I"⟩
abbrev qc_M_risk : ByteArray := prog_10_method_30_code
abbrev qy_M_risk : MethodName := ⟨"ContractProbeModel", "risk", "(III)I"⟩
abbrev qc_M_replay : ByteArray := prog_10_method_31_code
abbrev qy_M_replay : MethodName := ⟨"ContractProbeModel", "replay", "(II)I"⟩
abbrev qc_M_replayed : ByteArray := prog_10_method_32_code
abbrev qy_M_replayed : MethodName := ⟨"ContractProbeModel", "replayed", "(I)I"⟩
abbrev qc_L_law : ByteArray := code
abbrev qy_L_law : MethodName := ⟨"ContractProbeLaw", "law", "([I)Z"⟩
def qwg : List Cond := lw_tbl.filter goodWord
def qisN : Cond → Bool
  | .fieldLinkNest _ _ _ _ _ _ => true
  | .methodLinkNest _ _ _ _ => true
  | _ => false
def qnw : List Cond := lw_tbl.filter qisN
theorem wg_t {x : Cond} (i : Nat) (h : tables_1[i]? = some x) (g : goodWord x = true) : x ∈ qwg := List.mem_filter.mpr ⟨List.mem_append_right _ (List.mem_of_getElem? h), g⟩
theorem wg_s {q : MethodName × Nat} (i : Nat) (h : lw_privs[i]? = some q) : Cond.selects q.1.cls q.1 q.1 ∈ qwg := List.mem_filter.mpr ⟨List.mem_append_left _ (List.mem_map.mpr ⟨q, List.mem_of_getElem? h, rfl⟩), rfl⟩
theorem wg_n {x : Cond} (i : Nat) (h : tables_1[i]? = some x) (g : qisN x = true) : x ∈ qnw := List.mem_filter.mpr ⟨List.mem_append_right _ (List.mem_of_getElem? h), g⟩
theorem wg_good (y : Cond) (h : y ∈ qwg) : GoodIn qwg (y :: qwg) := fun x hx => by
  have hm : x ∈ qwg := by
    rcases List.mem_cons.mp hx with rfl | h1
    · exact h
    · exact h1
  exact ⟨hm, good_of_word (List.mem_filter.mp hm).2⟩
set_option maxRecDepth 100000 in
theorem qu_X : ∀ x ∈ u_ws qR_X qT_X 6, x ∈ qwg := by
  intro x hx
  obtain ⟨k, hk, rfl⟩ := List.mem_map.mp hx
  have hk := List.mem_range.mp hk
  rcases (by omega : k = 0 ∨ k = 1 ∨ k = 2 ∨ k = 3 ∨ k = 4 ∨ k = 5) with rfl | rfl | rfl | rfl | rfl | rfl
  · exact wg_t 239 rfl rfl
  · exact wg_t 241 rfl rfl
  · exact wg_t 243 rfl rfl
  · exact wg_t 245 rfl rfl
  · exact wg_t 247 rfl rfl
  · exact wg_t 249 rfl rfl
set_option maxRecDepth 100000 in
theorem qu_K : ∀ x ∈ u_ws qR_K qT_K 14, x ∈ qwg := by
  intro x hx
  obtain ⟨k, hk, rfl⟩ := List.mem_map.mp hx
  have hk := List.mem_range.mp hk
  rcases (by omega : k = 0 ∨ k = 1 ∨ k = 2 ∨ k = 3 ∨ k = 4 ∨ k = 5 ∨ k = 6 ∨ k = 7 ∨ k = 8 ∨ k = 9 ∨ k = 10 ∨ k = 11 ∨ k = 12 ∨ k = 13) with rfl | rfl | rfl | rfl | rfl | rfl | rfl | rfl | rfl | rfl | rfl | rfl | rfl | rfl
  · exact wg_t 77 rfl rfl
  · exact wg_t 79 rfl rfl
  · exact wg_t 81 rfl rfl
  · exact wg_t 83 rfl rfl
  · exact wg_t 85 rfl rfl
  · exact wg_t 87 rfl rfl
  · exact wg_t 89 rfl rfl
  · exact wg_t 91 rfl rfl
  · exact wg_t 93 rfl rfl
  · exact wg_t 95 rfl rfl
  · exact wg_t 97 rfl rfl
  · exact wg_t 99 rfl rfl
  · exact wg_t 101 rfl rfl
  · exact wg_t 103 rfl rfl
set_option maxRecDepth 100000 in
theorem qu_C : ∀ x ∈ u_ws qR_C qT_C 4, x ∈ qwg := by
  intro x hx
  obtain ⟨k, hk, rfl⟩ := List.mem_map.mp hx
  have hk := List.mem_range.mp hk
  rcases (by omega : k = 0 ∨ k = 1 ∨ k = 2 ∨ k = 3) with rfl | rfl | rfl | rfl
  · exact wg_t 42 rfl rfl
  · exact wg_t 44 rfl rfl
  · exact wg_t 46 rfl rfl
  · exact wg_t 48 rfl rfl
set_option maxRecDepth 100000 in
theorem qu_E : ∀ x ∈ u_ws qR_E qT_E 5, x ∈ qwg := by
  intro x hx
  obtain ⟨k, hk, rfl⟩ := List.mem_map.mp hx
  have hk := List.mem_range.mp hk
  rcases (by omega : k = 0 ∨ k = 1 ∨ k = 2 ∨ k = 3 ∨ k = 4) with rfl | rfl | rfl | rfl | rfl
  · exact wg_t 222 rfl rfl
  · exact wg_t 224 rfl rfl
  · exact wg_t 226 rfl rfl
  · exact wg_t 228 rfl rfl
  · exact wg_t 230 rfl rfl
set_option maxRecDepth 100000 in
theorem qu_B : ∀ x ∈ u_ws qR_B qT_B 4, x ∈ qwg := by
  intro x hx
  obtain ⟨k, hk, rfl⟩ := List.mem_map.mp hx
  have hk := List.mem_range.mp hk
  rcases (by omega : k = 0 ∨ k = 1 ∨ k = 2 ∨ k = 3) with rfl | rfl | rfl | rfl
  · exact wg_t 150 rfl rfl
  · exact wg_t 152 rfl rfl
  · exact wg_t 154 rfl rfl
  · exact wg_t 156 rfl rfl
set_option maxRecDepth 100000 in
theorem qu_Y : ∀ x ∈ u_ws qR_Y qT_Y 5, x ∈ qwg := by
  intro x hx
  obtain ⟨k, hk, rfl⟩ := List.mem_map.mp hx
  have hk := List.mem_range.mp hk
  rcases (by omega : k = 0 ∨ k = 1 ∨ k = 2 ∨ k = 3 ∨ k = 4) with rfl | rfl | rfl | rfl | rfl
  · exact wg_t 131 rfl rfl
  · exact wg_t 133 rfl rfl
  · exact wg_t 135 rfl rfl
  · exact wg_t 137 rfl rfl
  · exact wg_t 139 rfl rfl
set_option maxRecDepth 100000 in
theorem qu_P : ∀ x ∈ u_ws qR_P qT_P 9, x ∈ qwg := by
  intro x hx
  obtain ⟨k, hk, rfl⟩ := List.mem_map.mp hx
  have hk := List.mem_range.mp hk
  rcases (by omega : k = 0 ∨ k = 1 ∨ k = 2 ∨ k = 3 ∨ k = 4 ∨ k = 5 ∨ k = 6 ∨ k = 7 ∨ k = 8) with rfl | rfl | rfl | rfl | rfl | rfl | rfl | rfl | rfl
  · exact wg_t 181 rfl rfl
  · exact wg_t 183 rfl rfl
  · exact wg_t 185 rfl rfl
  · exact wg_t 187 rfl rfl
  · exact wg_t 189 rfl rfl
  · exact wg_t 191 rfl rfl
  · exact wg_t 193 rfl rfl
  · exact wg_t 195 rfl rfl
  · exact wg_t 197 rfl rfl
set_option maxRecDepth 100000 in
theorem qu_T : ∀ x ∈ u_ws qR_T qT_T 2, x ∈ qwg := by
  intro x hx
  obtain ⟨k, hk, rfl⟩ := List.mem_map.mp hx
  have hk := List.mem_range.mp hk
  rcases (by omega : k = 0 ∨ k = 1) with rfl | rfl
  · exact wg_t 209 rfl rfl
  · exact wg_t 211 rfl rfl
set_option maxRecDepth 100000 in
theorem qu_M : ∀ x ∈ u_ws qR_M qT_M 32, x ∈ qwg := by
  intro x hx
  obtain ⟨k, hk, rfl⟩ := List.mem_map.mp hx
  have hk := List.mem_range.mp hk
  rcases (by omega : k = 0 ∨ k = 1 ∨ k = 2 ∨ k = 3 ∨ k = 4 ∨ k = 5 ∨ k = 6 ∨ k = 7 ∨ k = 8 ∨ k = 9 ∨ k = 10 ∨ k = 11 ∨ k = 12 ∨ k = 13 ∨ k = 14 ∨ k = 15 ∨ k = 16 ∨ k = 17 ∨ k = 18 ∨ k = 19 ∨ k = 20 ∨ k = 21 ∨ k = 22 ∨ k = 23 ∨ k = 24 ∨ k = 25 ∨ k = 26 ∨ k = 27 ∨ k = 28 ∨ k = 29 ∨ k = 30 ∨ k = 31) with rfl | rfl | rfl | rfl | rfl | rfl | rfl | rfl | rfl | rfl | rfl | rfl | rfl | rfl | rfl | rfl | rfl | rfl | rfl | rfl | rfl | rfl | rfl | rfl | rfl | rfl | rfl | rfl | rfl | rfl | rfl | rfl
  · exact wg_t 539 rfl rfl
  · exact wg_t 541 rfl rfl
  · exact wg_t 543 rfl rfl
  · exact wg_t 545 rfl rfl
  · exact wg_t 547 rfl rfl
  · exact wg_t 549 rfl rfl
  · exact wg_t 551 rfl rfl
  · exact wg_t 553 rfl rfl
  · exact wg_t 555 rfl rfl
  · exact wg_t 557 rfl rfl
  · exact wg_t 559 rfl rfl
  · exact wg_t 561 rfl rfl
  · exact wg_t 563 rfl rfl
  · exact wg_t 565 rfl rfl
  · exact wg_t 567 rfl rfl
  · exact wg_t 569 rfl rfl
  · exact wg_t 571 rfl rfl
  · exact wg_t 573 rfl rfl
  · exact wg_t 575 rfl rfl
  · exact wg_t 577 rfl rfl
  · exact wg_t 579 rfl rfl
  · exact wg_t 581 rfl rfl
  · exact wg_t 583 rfl rfl
  · exact wg_t 585 rfl rfl
  · exact wg_t 587 rfl rfl
  · exact wg_t 589 rfl rfl
  · exact wg_t 591 rfl rfl
  · exact wg_t 593 rfl rfl
  · exact wg_t 595 rfl rfl
  · exact wg_t 597 rfl rfl
  · exact wg_t 599 rfl rfl
  · exact wg_t 601 rfl rfl
