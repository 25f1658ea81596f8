section
-- ===== PART A: goes FIRST, ahead of the names: the tables' words, and 'selects' of the private methods out of them =====
/-- a private method of a class that the tables say can be made, by its rows of tables_1 -/
def lw_okq (q : MethodName × Nat) : Prop := (q.1.cls ≠ "java/lang/invoke/MethodHandle" ∧ q.1.cls ≠ "java/lang/invoke/VarHandle") ∧ Cond.instantiable q.1.cls q.2 ∈ tables_1 ∧ Cond.privateMethod q.1 ∈ tables_1 ∧ Cond.instanceMethod q.1 ∈ tables_1
theorem lw_p0 : lw_okq (⟨"ContractProbe", "firstState", "()I"⟩, 6) := ⟨⟨by decide +kernel, by decide +kernel⟩, List.mem_of_getElem? (i := 12) (by decide +kernel), List.mem_of_getElem? (i := 302) (by decide +kernel), List.mem_of_getElem? (i := 303) (by decide +kernel)⟩
theorem lw_p1 : lw_okq (⟨"ContractProbe$Machine", "begin", "(III)V"⟩, 14) := ⟨⟨by decide +kernel, by decide +kernel⟩, List.mem_of_getElem? (i := 20) (by decide +kernel), List.mem_of_getElem? (i := 318) (by decide +kernel), List.mem_of_getElem? (i := 319) (by decide +kernel)⟩
theorem lw_p2 : lw_okq (⟨"ContractProbe$Machine", "keepStep", "(I)V"⟩, 14) := ⟨⟨by decide +kernel, by decide +kernel⟩, List.mem_of_getElem? (i := 20) (by decide +kernel), List.mem_of_getElem? (i := 323) (by decide +kernel), List.mem_of_getElem? (i := 324) (by decide +kernel)⟩
theorem lw_p3 : lw_okq (⟨"ContractProbe$Machine", "perform", "(II)V"⟩, 14) := ⟨⟨by decide +kernel, by decide +kernel⟩, List.mem_of_getElem? (i := 20) (by decide +kernel), List.mem_of_getElem? (i := 327) (by decide +kernel), List.mem_of_getElem? (i := 328) (by decide +kernel)⟩
theorem lw_p4 : lw_okq (⟨"ContractProbe$Machine", "faultOf", "(II)I"⟩, 14) := ⟨⟨by decide +kernel, by decide +kernel⟩, List.mem_of_getElem? (i := 20) (by decide +kernel), List.mem_of_getElem? (i := 331) (by decide +kernel), List.mem_of_getElem? (i := 332) (by decide +kernel)⟩
theorem lw_p5 : lw_okq (⟨"ContractProbe$Machine", "wordUnder", "(I)I"⟩, 14) := ⟨⟨by decide +kernel, by decide +kernel⟩, List.mem_of_getElem? (i := 20) (by decide +kernel), List.mem_of_getElem? (i := 341) (by decide +kernel), List.mem_of_getElem? (i := 342) (by decide +kernel)⟩
theorem lw_p6 : lw_okq (⟨"ContractProbe$Machine", "note", "(I)V"⟩, 14) := ⟨⟨by decide +kernel, by decide +kernel⟩, List.mem_of_getElem? (i := 20) (by decide +kernel), List.mem_of_getElem? (i := 345) (by decide +kernel), List.mem_of_getElem? (i := 346) (by decide +kernel)⟩
theorem lw_p7 : lw_okq (⟨"ContractProbe$Machine", "look", "(III)V"⟩, 14) := ⟨⟨by decide +kernel, by decide +kernel⟩, List.mem_of_getElem? (i := 20) (by decide +kernel), List.mem_of_getElem? (i := 349) (by decide +kernel), List.mem_of_getElem? (i := 350) (by decide +kernel)⟩
theorem lw_p8 : lw_okq (⟨"ContractProbe$Machine", "wordPut", "(IIII)I"⟩, 14) := ⟨⟨by decide +kernel, by decide +kernel⟩, List.mem_of_getElem? (i := 20) (by decide +kernel), List.mem_of_getElem? (i := 353) (by decide +kernel), List.mem_of_getElem? (i := 354) (by decide +kernel)⟩
theorem lw_p9 : lw_okq (⟨"ContractProbe$Machine", "send", "(I)I"⟩, 14) := ⟨⟨by decide +kernel, by decide +kernel⟩, List.mem_of_getElem? (i := 20) (by decide +kernel), List.mem_of_getElem? (i := 360) (by decide +kernel), List.mem_of_getElem? (i := 361) (by decide +kernel)⟩
theorem lw_p10 : lw_okq (⟨"ContractProbe$Machine", "act", "(IIII)V"⟩, 14) := ⟨⟨by decide +kernel, by decide +kernel⟩, List.mem_of_getElem? (i := 20) (by decide +kernel), List.mem_of_getElem? (i := 364) (by decide +kernel), List.mem_of_getElem? (i := 365) (by decide +kernel)⟩
theorem lw_p11 : lw_okq (⟨"ContractProbe$Machine", "swap", "(II)V"⟩, 14) := ⟨⟨by decide +kernel, by decide +kernel⟩, List.mem_of_getElem? (i := 20) (by decide +kernel), List.mem_of_getElem? (i := 368) (by decide +kernel), List.mem_of_getElem? (i := 369) (by decide +kernel)⟩
theorem lw_p12 : lw_okq (⟨"ContractProbe$Ways", "isWayOf", "(LContractProbe$Machine;I)Z"⟩, 5) := ⟨⟨by decide +kernel, by decide +kernel⟩, List.mem_of_getElem? (i := 119) (by decide +kernel), List.mem_of_getElem? (i := 379) (by decide +kernel), List.mem_of_getElem? (i := 380) (by decide +kernel)⟩
theorem lw_p13 : lw_okq (⟨"ContractProbe$Ways", "keep", "(LContractProbe$Machine;I)V"⟩, 5) := ⟨⟨by decide +kernel, by decide +kernel⟩, List.mem_of_getElem? (i := 119) (by decide +kernel), List.mem_of_getElem? (i := 383) (by decide +kernel), List.mem_of_getElem? (i := 384) (by decide +kernel)⟩
theorem lw_p14 : lw_okq (⟨"ContractProbe$Exploration", "countFollowers", "(I)Z"⟩, 5) := ⟨⟨by decide +kernel, by decide +kernel⟩, List.mem_of_getElem? (i := 107) (by decide +kernel), List.mem_of_getElem? (i := 387) (by decide +kernel), List.mem_of_getElem? (i := 388) (by decide +kernel)⟩
theorem lw_p15 : lw_okq (⟨"ContractProbe$Paths", "open", "(IIII)I"⟩, 9) := ⟨⟨by decide +kernel, by decide +kernel⟩, List.mem_of_getElem? (i := 160) (by decide +kernel), List.mem_of_getElem? (i := 395) (by decide +kernel), List.mem_of_getElem? (i := 396) (by decide +kernel)⟩
def lw_privs_1 : List (MethodName × Nat) := [(⟨"ContractProbe", "firstState", "()I"⟩, 6), (⟨"ContractProbe$Machine", "begin", "(III)V"⟩, 14), (⟨"ContractProbe$Machine", "keepStep", "(I)V"⟩, 14), (⟨"ContractProbe$Machine", "perform", "(II)V"⟩, 14), (⟨"ContractProbe$Machine", "faultOf", "(II)I"⟩, 14), (⟨"ContractProbe$Machine", "wordUnder", "(I)I"⟩, 14), (⟨"ContractProbe$Machine", "note", "(I)V"⟩, 14), (⟨"ContractProbe$Machine", "look", "(III)V"⟩, 14), (⟨"ContractProbe$Machine", "wordPut", "(IIII)I"⟩, 14), (⟨"ContractProbe$Machine", "send", "(I)I"⟩, 14), (⟨"ContractProbe$Machine", "act", "(IIII)V"⟩, 14), (⟨"ContractProbe$Machine", "swap", "(II)V"⟩, 14), (⟨"ContractProbe$Ways", "isWayOf", "(LContractProbe$Machine;I)Z"⟩, 5), (⟨"ContractProbe$Ways", "keep", "(LContractProbe$Machine;I)V"⟩, 5), (⟨"ContractProbe$Exploration", "countFollowers", "(I)Z"⟩, 5), (⟨"ContractProbe$Paths", "open", "(IIII)I"⟩, 9)]
theorem lw_r1 : ∀ q ∈ lw_privs_1, lw_okq q := List.forall_mem_cons.mpr ⟨lw_p0, List.forall_mem_cons.mpr ⟨lw_p1, List.forall_mem_cons.mpr ⟨lw_p2, List.forall_mem_cons.mpr ⟨lw_p3, List.forall_mem_cons.mpr ⟨lw_p4, List.forall_mem_cons.mpr ⟨lw_p5, List.forall_mem_cons.mpr ⟨lw_p6, List.forall_mem_cons.mpr ⟨lw_p7, List.forall_mem_cons.mpr ⟨lw_p8, List.forall_mem_cons.mpr ⟨lw_p9, List.forall_mem_cons.mpr ⟨lw_p10, List.forall_mem_cons.mpr ⟨lw_p11, List.forall_mem_cons.mpr ⟨lw_p12, List.forall_mem_cons.mpr ⟨lw_p13, List.forall_mem_cons.mpr ⟨lw_p14, List.forall_mem_cons.mpr ⟨lw_p15, fun _ h => absurd h List.not_mem_nil⟩⟩⟩⟩⟩⟩⟩⟩⟩⟩⟩⟩⟩⟩⟩⟩
theorem lw_p16 : lw_okq (⟨"ContractProbe$Exploration", "countFollowersOfAllAlike", "(I)Z"⟩, 5) := ⟨⟨by decide +kernel, by decide +kernel⟩, List.mem_of_getElem? (i := 107) (by decide +kernel), List.mem_of_getElem? (i := 420) (by decide +kernel), List.mem_of_getElem? (i := 421) (by decide +kernel)⟩
theorem lw_p17 : lw_okq (⟨"ContractProbe", "keepReplay", "()V"⟩, 6) := ⟨⟨by decide +kernel, by decide +kernel⟩, List.mem_of_getElem? (i := 12) (by decide +kernel), List.mem_of_getElem? (i := 494) (by decide +kernel), List.mem_of_getElem? (i := 495) (by decide +kernel)⟩
theorem lw_p18 : lw_okq (⟨"ContractProbeModel", "perform", "(II)V"⟩, 32) := ⟨⟨by decide +kernel, by decide +kernel⟩, List.mem_of_getElem? (i := 502) (by decide +kernel), List.mem_of_getElem? (i := 622) (by decide +kernel), List.mem_of_getElem? (i := 623) (by decide +kernel)⟩
theorem lw_p19 : lw_okq (⟨"ContractProbeModel", "transact", "(II)V"⟩, 32) := ⟨⟨by decide +kernel, by decide +kernel⟩, List.mem_of_getElem? (i := 502) (by decide +kernel), List.mem_of_getElem? (i := 626) (by decide +kernel), List.mem_of_getElem? (i := 627) (by decide +kernel)⟩
theorem lw_p20 : lw_okq (⟨"ContractProbeModel", "faults", "(I)Z"⟩, 32) := ⟨⟨by decide +kernel, by decide +kernel⟩, List.mem_of_getElem? (i := 502) (by decide +kernel), List.mem_of_getElem? (i := 630) (by decide +kernel), List.mem_of_getElem? (i := 631) (by decide +kernel)⟩
theorem lw_p21 : lw_okq (⟨"ContractProbeModel", "markOf", "(I)I"⟩, 32) := ⟨⟨by decide +kernel, by decide +kernel⟩, List.mem_of_getElem? (i := 502) (by decide +kernel), List.mem_of_getElem? (i := 643) (by decide +kernel), List.mem_of_getElem? (i := 644) (by decide +kernel)⟩
theorem lw_p22 : lw_okq (⟨"ContractProbeModel", "note", "(I)V"⟩, 32) := ⟨⟨by decide +kernel, by decide +kernel⟩, List.mem_of_getElem? (i := 502) (by decide +kernel), List.mem_of_getElem? (i := 647) (by decide +kernel), List.mem_of_getElem? (i := 648) (by decide +kernel)⟩
theorem lw_p23 : lw_okq (⟨"ContractProbeModel", "act", "(I)I"⟩, 32) := ⟨⟨by decide +kernel, by decide +kernel⟩, List.mem_of_getElem? (i := 502) (by decide +kernel), List.mem_of_getElem? (i := 651) (by decide +kernel), List.mem_of_getElem? (i := 652) (by decide +kernel)⟩
theorem lw_p24 : lw_okq (⟨"ContractProbeModel", "give", "(I)V"⟩, 32) := ⟨⟨by decide +kernel, by decide +kernel⟩, List.mem_of_getElem? (i := 502) (by decide +kernel), List.mem_of_getElem? (i := 658) (by decide +kernel), List.mem_of_getElem? (i := 659) (by decide +kernel)⟩
theorem lw_p25 : lw_okq (⟨"ContractProbeModel", "swap", "(I)V"⟩, 32) := ⟨⟨by decide +kernel, by decide +kernel⟩, List.mem_of_getElem? (i := 502) (by decide +kernel), List.mem_of_getElem? (i := 662) (by decide +kernel), List.mem_of_getElem? (i := 663) (by decide +kernel)⟩
theorem lw_p26 : lw_okq (⟨"ContractProbeModel", "send", "(I)V"⟩, 32) := ⟨⟨by decide +kernel, by decide +kernel⟩, List.mem_of_getElem? (i := 502) (by decide +kernel), List.mem_of_getElem? (i := 666) (by decide +kernel), List.mem_of_getElem? (i := 667) (by decide +kernel)⟩
theorem lw_p27 : lw_okq (⟨"ContractProbeModel", "goes", "(I)Z"⟩, 32) := ⟨⟨by decide +kernel, by decide +kernel⟩, List.mem_of_getElem? (i := 502) (by decide +kernel), List.mem_of_getElem? (i := 673) (by decide +kernel), List.mem_of_getElem? (i := 674) (by decide +kernel)⟩
theorem lw_p28 : lw_okq (⟨"ContractProbeModel", "open", "(II)V"⟩, 32) := ⟨⟨by decide +kernel, by decide +kernel⟩, List.mem_of_getElem? (i := 502) (by decide +kernel), List.mem_of_getElem? (i := 677) (by decide +kernel), List.mem_of_getElem? (i := 678) (by decide +kernel)⟩
theorem lw_p29 : lw_okq (⟨"ContractProbeModel", "count", "(II)V"⟩, 32) := ⟨⟨by decide +kernel, by decide +kernel⟩, List.mem_of_getElem? (i := 502) (by decide +kernel), List.mem_of_getElem? (i := 681) (by decide +kernel), List.mem_of_getElem? (i := 682) (by decide +kernel)⟩
theorem lw_p30 : lw_okq (⟨"ContractProbeModel", "isPath", "(I)Z"⟩, 32) := ⟨⟨by decide +kernel, by decide +kernel⟩, List.mem_of_getElem? (i := 502) (by decide +kernel), List.mem_of_getElem? (i := 689) (by decide +kernel), List.mem_of_getElem? (i := 690) (by decide +kernel)⟩
def lw_privs_2 : List (MethodName × Nat) := [(⟨"ContractProbe$Exploration", "countFollowersOfAllAlike", "(I)Z"⟩, 5), (⟨"ContractProbe", "keepReplay", "()V"⟩, 6), (⟨"ContractProbeModel", "perform", "(II)V"⟩, 32), (⟨"ContractProbeModel", "transact", "(II)V"⟩, 32), (⟨"ContractProbeModel", "faults", "(I)Z"⟩, 32), (⟨"ContractProbeModel", "markOf", "(I)I"⟩, 32), (⟨"ContractProbeModel", "note", "(I)V"⟩, 32), (⟨"ContractProbeModel", "act", "(I)I"⟩, 32), (⟨"ContractProbeModel", "give", "(I)V"⟩, 32), (⟨"ContractProbeModel", "swap", "(I)V"⟩, 32), (⟨"ContractProbeModel", "send", "(I)V"⟩, 32), (⟨"ContractProbeModel", "goes", "(I)Z"⟩, 32), (⟨"ContractProbeModel", "open", "(II)V"⟩, 32), (⟨"ContractProbeModel", "count", "(II)V"⟩, 32), (⟨"ContractProbeModel", "isPath", "(I)Z"⟩, 32)]
theorem lw_r2 : ∀ q ∈ lw_privs_2, lw_okq q := List.forall_mem_cons.mpr ⟨lw_p16, List.forall_mem_cons.mpr ⟨lw_p17, List.forall_mem_cons.mpr ⟨lw_p18, List.forall_mem_cons.mpr ⟨lw_p19, List.forall_mem_cons.mpr ⟨lw_p20, List.forall_mem_cons.mpr ⟨lw_p21, List.forall_mem_cons.mpr ⟨lw_p22, List.forall_mem_cons.mpr ⟨lw_p23, List.forall_mem_cons.mpr ⟨lw_p24, List.forall_mem_cons.mpr ⟨lw_p25, List.forall_mem_cons.mpr ⟨lw_p26, List.forall_mem_cons.mpr ⟨lw_p27, List.forall_mem_cons.mpr ⟨lw_p28, List.forall_mem_cons.mpr ⟨lw_p29, List.forall_mem_cons.mpr ⟨lw_p30, fun _ h => absurd h List.not_mem_nil⟩⟩⟩⟩⟩⟩⟩⟩⟩⟩⟩⟩⟩⟩⟩
def lw_privs : List (MethodName × Nat) := lw_privs_1 ++ (lw_privs_2)
def lw_tbl : List Cond := k2_sels lw_privs ++ tables_1
theorem lw_privs_ok : ∀ q ∈ lw_privs, lw_okq q := by
  show ∀ q ∈ lw_privs_1 ++ (lw_privs_2), lw_okq q
  exact List.forall_mem_append.mpr ⟨lw_r1, lw_r2⟩
end
section
/-! names of this claim: by program out of tables_1 and the listing -/
abbrev qR_X : String := "ContractProbe"
abbrev qR_C : String := "ContractProbe$Code"
abbrev qR_K : String := "ContractProbe$Machine"
abbrev qR_Y : String := "ContractProbe$Ways"
abbrev qR_B : String := "ContractProbe$Batch"
abbrev qR_P : String := "ContractProbe$Paths"
abbrev qR_T : String := "ContractProbe$Tally"
abbrev qR_E : String := "ContractProbe$Exploration"
abbrev qR_M : String := "ContractProbeModel"
abbrev qR_A : String := "java/util/Arrays"
abbrev qR_L : String := "ContractProbeLaw"
def qT_X : u_T := fun k => match k with
  | 0 => ("ContractProbe", "machine", "LContractProbe$Machine;", true)
  | 1 => ("ContractProbe", "exploration", "LContractProbe$Exploration;", true)
  | 2 => ("ContractProbe", "replayRow", "[I", true)
  | 3 => ("ContractProbe", "hasReplay", "Z", false)
  | 4 => ("ContractProbe", "balance", "I", false)
  | _ => ("ContractProbe", "limit", "I", false)
def qt_X : Nat → FieldType := fun k => match k with
  | 0 => .object "ContractProbe$Machine"
  | 1 => .object "ContractProbe$Exploration"
  | 2 => .array .int
  | 3 => .boolean
  | 4 => .int
  | _ => .int
theorem qn_X : ∀ a, a < 6 → ∀ b, b < 6 → a ≠ b → (qT_X a).2.1 ≠ (qT_X b).2.1 := by decide +kernel
theorem qk_X : ∀ k, k < 6 → parseFieldDescriptor (qT_X k).2.2.1 = some (qt_X k) := by decide +kernel
def qT_K : u_T := fun k => match k with
  | 0 => ("ContractProbe$Machine", "code", "LContractProbe$Code;", true)
  | 1 => ("ContractProbe$Machine", "stack", "[I", true)
  | 2 => ("ContractProbe$Machine", "depth", "I", false)
  | 3 => ("ContractProbe$Machine", "state", "I", false)
  | 4 => ("ContractProbe$Machine", "gas", "I", false)
  | 5 => ("ContractProbe$Machine", "at", "I", false)
  | 6 => ("ContractProbe$Machine", "ending", "I", false)
  | 7 => ("ContractProbe$Machine", "input", "I", false)
  | 8 => ("ContractProbe$Machine", "caller", "I", false)
  | 9 => ("ContractProbe$Machine", "hasSent", "Z", false)
  | 10 => ("ContractProbe$Machine", "steps", "[I", true)
  | 11 => ("ContractProbe$Machine", "stepCount", "I", false)
  | 12 => ("ContractProbe$Machine", "shape", "I", false)
  | _ => ("ContractProbe$Machine", "found", "[I", true)
def qt_K : Nat → FieldType := fun k => match k with
  | 0 => .object "ContractProbe$Code"
  | 1 => .array .int
  | 2 => .int
  | 3 => .int
  | 4 => .int
  | 5 => .int
  | 6 => .int
  | 7 => .int
  | 8 => .int
  | 9 => .boolean
  | 10 => .array .int
  | 11 => .int
  | 12 => .int
  | _ => .array .int
theorem qn_K : ∀ a, a < 14 → ∀ b, b < 14 → a ≠ b → (qT_K a).2.1 ≠ (qT_K b).2.1 := by decide +kernel
theorem qk_K : ∀ k, k < 14 → parseFieldDescriptor (qT_K k).2.2.1 = some (qt_K k) := by decide +kernel
def qT_C : u_T := fun k => match k with
  | 0 => ("ContractProbe$Code", "operators", "[I", true)
  | 1 => ("ContractProbe$Code", "arguments", "[I", true)
  | 2 => ("ContractProbe$Code", "marks", "[I", true)
  | _ => ("ContractProbe$Code", "size", "I", false)
def qt_C : Nat → FieldType := fun k => match k with
  | 0 => .array .int
  | 1 => .array .int
  | 2 => .array .int
  | _ => .int
theorem qn_C : ∀ a, a < 4 → ∀ b, b < 4 → a ≠ b → (qT_C a).2.1 ≠ (qT_C b).2.1 := by decide +kernel
theorem qk_C : ∀ k, k < 4 → parseFieldDescriptor (qT_C k).2.2.1 = some (qt_C k) := by decide +kernel
def qT_E : u_T := fun k => match k with
  | 0 => ("ContractProbe$Exploration", "firsts", "LContractProbe$Batch;", true)
  | 1 => ("ContractProbe$Exploration", "lasts", "LContractProbe$Batch;", true)
  | 2 => ("ContractProbe$Exploration", "paths", "LContractProbe$Paths;", true)
  | 3 => ("ContractProbe$Exploration", "tally", "LContractProbe$Tally;", true)
  | _ => ("ContractProbe$Exploration", "transactions", "I", false)
def qt_E : Nat → FieldType := fun k => match k with
  | 0 => .object "ContractProbe$Batch"
  | 1 => .object "ContractProbe$Batch"
  | 2 => .object "ContractProbe$Paths"
  | 3 => .object "ContractProbe$Tally"
  | _ => .int
theorem qn_E : ∀ a, a < 5 → ∀ b, b < 5 → a ≠ b → (qT_E a).2.1 ≠ (qT_E b).2.1 := by decide +kernel
theorem qk_E : ∀ k, k < 5 → parseFieldDescriptor (qT_E k).2.2.1 = some (qt_E k) := by decide +kernel
def qT_B : u_T := fun k => match k with
  | 0 => ("ContractProbe$Batch", "ways", "LContractProbe$Ways;", true)
  | 1 => ("ContractProbe$Batch", "wayOf", "[I", true)
  | 2 => ("ContractProbe$Batch", "states", "[I", true)
  | _ => ("ContractProbe$Batch", "found", "[I", true)
def qt_B : Nat → FieldType := fun k => match k with
  | 0 => .object "ContractProbe$Ways"
  | 1 => .array .int
  | 2 => .array .int
  | _ => .array .int
theorem qn_B : ∀ a, a < 4 → ∀ b, b < 4 → a ≠ b → (qT_B a).2.1 ≠ (qT_B b).2.1 := by decide +kernel
theorem qk_B : ∀ k, k < 4 → parseFieldDescriptor (qT_B k).2.2.1 = some (qt_B k) := by decide +kernel
def qT_Y : u_T := fun k => match k with
  | 0 => ("ContractProbe$Ways", "steps", "[I", true)
  | 1 => ("ContractProbe$Ways", "stepCounts", "[I", true)
  | 2 => ("ContractProbe$Ways", "shapes", "[I", true)
  | 3 => ("ContractProbe$Ways", "endings", "[I", true)
  | _ => ("ContractProbe$Ways", "count", "I", false)
def qt_Y : Nat → FieldType := fun k => match k with
  | 0 => .array .int
  | 1 => .array .int
  | 2 => .array .int
  | 3 => .array .int
  | _ => .int
theorem qn_Y : ∀ a, a < 5 → ∀ b, b < 5 → a ≠ b → (qT_Y a).2.1 ≠ (qT_Y b).2.1 := by decide +kernel
theorem qk_Y : ∀ k, k < 5 → parseFieldDescriptor (qT_Y k).2.2.1 = some (qt_Y k) := by decide +kernel
def qT_P : u_T := fun k => match k with
  | 0 => ("ContractProbe$Paths", "rowByWays", "[I", true)
  | 1 => ("ContractProbe$Paths", "firstWays", "[I", true)
  | 2 => ("ContractProbe$Paths", "lastWays", "[I", true)
  | 3 => ("ContractProbe$Paths", "inputCounts", "[I", true)
  | 4 => ("ContractProbe$Paths", "witnesses", "[I", true)
  | 5 => ("ContractProbe$Paths", "states", "[I", true)
  | 6 => ("ContractProbe$Paths", "differences", "[I", true)
  | 7 => ("ContractProbe$Paths", "order", "[I", true)
  | _ => ("ContractProbe$Paths", "count", "I", false)
def qt_P : Nat → FieldType := fun k => match k with
  | 0 => .array .int
  | 1 => .array .int
  | 2 => .array .int
  | 3 => .array .int
  | 4 => .array .int
  | 5 => .array .int
  | 6 => .array .int
  | 7 => .array .int
  | _ => .int
theorem qn_P : ∀ a, a < 9 → ∀ b, b < 9 → a ≠ b → (qT_P a).2.1 ≠ (qT_P b).2.1 := by decide +kernel
theorem qk_P : ∀ k, k < 9 → parseFieldDescriptor (qT_P k).2.2.1 = some (qt_P k) := by decide +kernel
def qT_T : u_T := fun k => match k with
  | 0 => ("ContractProbe$Tally", "least", "[I", true)
  | _ => ("ContractProbe$Tally", "counts", "[I", true)
def qt_T : Nat → FieldType := fun k => match k with
  | 0 => .array .int
  | _ => .array .int
theorem qn_T : ∀ a, a < 2 → ∀ b, b < 2 → a ≠ b → (qT_T a).2.1 ≠ (qT_T b).2.1 := by decide +kernel
theorem qk_T : ∀ k, k < 2 → parseFieldDescriptor (qT_T k).2.2.1 = some (qt_T k) := by decide +kernel
def qT_M : u_T := fun k => match k with
  | 0 => ("ContractProbeModel", "size", "I", false)
  | 1 => ("ContractProbeModel", "op", "[I", true)
  | 2 => ("ContractProbeModel", "arg", "[I", true)
  | 3 => ("ContractProbeModel", "balance0", "I", false)
  | 4 => ("ContractProbeModel", "limit", "I", false)
  | 5 => ("ContractProbeModel", "cell", "[I", true)
  | 6 => ("ContractProbeModel", "before", "[I", true)
  | 7 => ("ContractProbeModel", "stack", "[I", true)
  | 8 => ("ContractProbeModel", "depth", "I", false)
  | 9 => ("ContractProbeModel", "gas", "I", false)
  | 10 => ("ContractProbeModel", "at", "I", false)
  | 11 => ("ContractProbeModel", "input", "I", false)
  | 12 => ("ContractProbeModel", "caller", "I", false)
  | 13 => ("ContractProbeModel", "next", "I", false)
  | 14 => ("ContractProbeModel", "sent", "Z", false)
  | 15 => ("ContractProbeModel", "way", "[I", true)
  | 16 => ("ContractProbeModel", "many", "[I", true)
  | 17 => ("ContractProbeModel", "ends", "[I", true)
  | 18 => ("ContractProbeModel", "found", "[I", true)
  | 19 => ("ContractProbeModel", "paths", "I", false)
  | 20 => ("ContractProbeModel", "explored", "I", false)
  | 21 => ("ContractProbeModel", "pathWay", "[I", true)
  | 22 => ("ContractProbeModel", "pathMany", "[I", true)
  | 23 => ("ContractProbeModel", "pathEnds", "[I", true)
  | 24 => ("ContractProbeModel", "inputsOf", "[I", true)
  | 25 => ("ContractProbeModel", "first", "[I", true)
  | 26 => ("ContractProbeModel", "left", "[I", true)
  | 27 => ("ContractProbeModel", "same", "[Z", true)
  | 28 => ("ContractProbeModel", "risks", "[I", true)
  | 29 => ("ContractProbeModel", "least", "[I", true)
  | 30 => ("ContractProbeModel", "replays", "Z", false)
  | _ => ("ContractProbeModel", "last", "[I", true)
def qt_M : Nat → FieldType := fun k => match k with
  | 0 => .int
  | 1 => .array .int
  | 2 => .array .int
  | 3 => .int
  | 4 => .int
  | 5 => .array .int
  | 6 => .array .int
  | 7 => .array .int
  | 8 => .int
  | 9 => .int
  | 10 => .int
  | 11 => .int
  | 12 => .int
  | 13 => .int
  | 14 => .boolean
  | 15 => .array .int
  | 16 => .array .int
  | 17 => .array .int
  | 18 => .array .int
  | 19 => .int
  | 20 => .int
  | 21 => .array .int
  | 22 => .array .int
  | 23 => .array .int
  | 24 => .array .int
  | 25 => .array .int
  | 26 => .array .int
  | 27 => .array .boolean
  | 28 => .array .int
  | 29 => .array .int
  | 30 => .boolean
  | _ => .array .int
theorem qn_M : ∀ a, a < 32 → ∀ b, b < 32 → a ≠ b → (qT_M a).2.1 ≠ (qT_M b).2.1 := by decide +kernel
theorem qk_M : ∀ k, k < 32 → parseFieldDescriptor (qT_M k).2.2.1 = some (qt_M k) := by decide +kernel
abbrev qcl : List vw_C := [(qR_X, qT_X, 6), (qR_K, qT_K, 14), (qR_C, qT_C, 4), (qR_E, qT_E, 5), (qR_B, qT_B, 4), (qR_Y, qT_Y, 5), (qR_P, qT_P, 9), (qR_T, qT_T, 2), (qR_M, qT_M, 32)]
abbrev qc_X_init : ByteArray := prog_1_method_1_code
abbrev qy_X_init : MethodName := ⟨"ContractProbe", "<init>", "()V"⟩
abbrev qc_K_init : ByteArray := prog_5_method_1_code
abbrev qy_K_init : MethodName := ⟨"ContractProbe$Machine", "<init>", "()V"⟩
abbrev qc_C_init : ByteArray := prog_3_method_1_code
abbrev qy_C_init : MethodName := ⟨"ContractProbe$Code", "<init>", "()V"⟩
abbrev qc_A_fill : ByteArray := prog_11_method_103_code
abbrev qy_A_fill : MethodName := ⟨"java/util/Arrays", "fill", "([II)V"⟩
abbrev qc_E_init : ByteArray := prog_4_method_1_code
abbrev qy_E_init : MethodName := ⟨"ContractProbe$Exploration", "<init>", "()V"⟩
abbrev qc_B_init : ByteArray := prog_2_method_1_code
abbrev qy_B_init : MethodName := ⟨"ContractProbe$Batch", "<init>", "()V"⟩
abbrev qc_Y_init : ByteArray := prog_8_method_1_code
abbrev qy_Y_init : MethodName := ⟨"ContractProbe$Ways", "<init>", "()V"⟩
abbrev qc_P_init : ByteArray := prog_6_method_1_code
abbrev qy_P_init : MethodName := ⟨"ContractProbe$Paths", "<init>", "()V"⟩
abbrev qc_T_init : ByteArray := prog_7_method_1_code
abbrev qy_T_init : MethodName := ⟨"ContractProbe$Tally", "<init>", "()V"⟩
abbrev qc_X_add : ByteArray := prog_1_method_2_code
abbrev qy_X_add : MethodName := ⟨"ContractProbe", "add", "(II)I"⟩
abbrev qc_X_isBelow : ByteArray := prog_1_method_17_code
abbrev qy_X_isBelow : MethodName := ⟨"ContractProbe", "isBelow", "(II)Z"⟩
abbrev qc_C_append : ByteArray := prog_3_method_2_code
abbrev qy_C_append : MethodName := ⟨"ContractProbe$Code", "append", "(II)I"⟩
abbrev qc_X_clear : ByteArray := prog_1_method_3_code
abbrev qy_X_clear : MethodName := ⟨"ContractProbe", "clear", "()V"⟩
abbrev qc_C_wipe : ByteArray := prog_3_method_3_code
abbrev qy_C_wipe : MethodName := ⟨"ContractProbe$Code", "wipe", "()V"⟩
abbrev qc_X_start : ByteArray := prog_1_method_4_code
abbrev qy_X_start : MethodName := ⟨"ContractProbe", "start", "(II)Z"⟩
abbrev qc_X_explore : ByteArray := prog_1_method_5_code
abbrev qy_X_explore : MethodName := ⟨"ContractProbe", "explore", "(I)I"⟩
abbrev qc_E_forget : ByteArray := prog_4_method_2_code
abbrev qy_E_forget : MethodName := ⟨"ContractProbe$Exploration", "forget", "()V"⟩
abbrev qc_B_forget : ByteArray := prog_2_method_2_code
abbrev qy_B_forget : MethodName := ⟨"ContractProbe$Batch", "forget", "()V"⟩
abbrev qc_Y_forget : ByteArray := prog_8_method_2_code
abbrev qy_Y_forget : MethodName := ⟨"ContractProbe$Ways", "forget", "()V"⟩
abbrev qc_P_forget : ByteArray := prog_6_method_2_code
abbrev qy_P_forget : MethodName := ⟨"ContractProbe$Paths", "forget", "()V"⟩
abbrev qc_T_forget : ByteArray := prog_7_method_2_code
abbrev qy_T_forget : MethodName := ⟨"ContractProbe$Tally", "forget", "()V"⟩
abbrev qc_X_firstState : ByteArray := prog_1_method_16_code
abbrev qy_X_firstState : MethodName := ⟨"ContractProbe", "firstState", "()I"⟩
abbrev qc_E_surveySingles : ByteArray := prog_4_method_3_code
abbrev qy_E_surveySingles : MethodName := ⟨"ContractProbe$Exploration", "surveySingles", "(LContractProbe$Machine;II)Z"⟩
abbrev qc_B_fill : ByteArray := prog_2_method_3_code
abbrev qy_B_fill : MethodName := ⟨"ContractProbe$Batch", "fill", "(LContractProbe$Machine;IZI)Z"⟩
abbrev qc_K_transact : ByteArray := prog_5_method_2_code
abbrev qy_K_transact : MethodName := ⟨"ContractProbe$Machine", "transact", "(IIZI)V"⟩
abbrev qc_K_begin : ByteArray := prog_5_method_3_code
abbrev qy_K_begin : MethodName := ⟨"ContractProbe$Machine", "begin", "(III)V"⟩
abbrev qc_K_keepStep : ByteArray := prog_5_method_4_code
abbrev qy_K_keepStep : MethodName := ⟨"ContractProbe$Machine", "keepStep", "(I)V"⟩
abbrev qc_K_perform : ByteArray := prog_5_method_5_code
abbrev qy_K_perform : MethodName := ⟨"ContractProbe$Machine", "perform", "(II)V"⟩
abbrev qc_K_faultOf : ByteArray := prog_5_method_6_code
abbrev qy_K_faultOf : MethodName := ⟨"ContractProbe$Machine", "faultOf", "(II)I"⟩
abbrev qc_K_wordUnder : ByteArray := prog_5_method_12_code
abbrev qy_K_wordUnder : MethodName := ⟨"ContractProbe$Machine", "wordUnder", "(I)I"⟩
abbrev qc_K_note : ByteArray := prog_5_method_13_code
abbrev qy_K_note : MethodName := ⟨"ContractProbe$Machine", "note", "(I)V"⟩
abbrev qc_K_look : ByteArray := prog_5_method_7_code
abbrev qy_K_look : MethodName := ⟨"ContractProbe$Machine", "look", "(III)V"⟩
abbrev qc_K_wordPut : ByteArray := prog_5_method_8_code
abbrev qy_K_wordPut : MethodName := ⟨"ContractProbe$Machine", "wordPut", "(IIII)I"⟩
abbrev qc_X_wordOf : ByteArray := prog_1_method_18_code
abbrev qy_X_wordOf : MethodName := ⟨"ContractProbe", "wordOf", "(II)I"⟩
abbrev qc_K_send : ByteArray := prog_5_method_10_code
abbrev qy_K_send : MethodName := ⟨"ContractProbe$Machine", "send", "(I)I"⟩
abbrev qc_K_act : ByteArray := prog_5_method_9_code
abbrev qy_K_act : MethodName := ⟨"ContractProbe$Machine", "act", "(IIII)V"⟩
abbrev qc_K_swap : ByteArray := prog_5_method_11_code
abbrev qy_K_swap : MethodName := ⟨"ContractProbe$Machine", "swap", "(II)V"⟩
abbrev qc_X_withWord : ByteArray := prog_1_method_19_code
abbrev qy_X_withWord : MethodName := ⟨"ContractProbe", "withWord", "(III)I"⟩
abbrev qc_Y_numberOf : ByteArray := prog_8_method_3_code
abbrev qy_Y_numberOf : MethodName := ⟨"ContractProbe$Ways", "numberOf", "(LContractProbe$Machine;)I"⟩
abbrev qc_Y_isWayOf : ByteArray := prog_8_method_5_code
abbrev qy_Y_isWayOf : MethodName := ⟨"ContractProbe$Ways", "isWayOf", "(LContractProbe$Machine;I)Z"⟩
abbrev qc_Y_keep : ByteArray := prog_8_method_6_code
abbrev qy_Y_keep : MethodName := ⟨"ContractProbe$Ways", "keep", "(LContractProbe$Machine;I)V"⟩
abbrev qc_E_countFollowers : ByteArray := prog_4_method_9_code
abbrev qy_E_countFollowers : MethodName := ⟨"ContractProbe$Exploration", "countFollowers", "(I)Z"⟩
abbrev qc_P_meet : ByteArray := prog_6_method_4_code
abbrev qy_P_meet : MethodName := ⟨"ContractProbe$Paths", "meet", "(IIII)I"⟩
abbrev qc_P_open : ByteArray := prog_6_method_5_code
abbrev qy_P_open : MethodName := ⟨"ContractProbe$Paths", "open", "(IIII)I"⟩
abbrev qc_T_note : ByteArray := prog_7_method_3_code
abbrev qy_T_note : MethodName := ⟨"ContractProbe$Tally", "note", "(IIII)V"⟩
abbrev qc_E_surveyPairs : ByteArray := prog_4_method_4_code
abbrev qy_E_surveyPairs : MethodName := ⟨"ContractProbe$Exploration", "surveyPairs", "(LContractProbe$Machine;II)Z"⟩
abbrev qc_B_isFollowedLikeAnEarlierOne : ByteArray := prog_2_method_6_code
abbrev qy_B_isFollowedLikeAnEarlierOne : MethodName := ⟨"ContractProbe$Batch", "isFollowedLikeAnEarlierOne", "(I)Z"⟩
abbrev qc_B_areFollowedAlike : ByteArray := prog_2_method_5_code
abbrev qy_B_areFollowedAlike : MethodName := ⟨"ContractProbe$Batch", "areFollowedAlike", "(II)Z"⟩
abbrev qc_B_isDestroyed : ByteArray := prog_2_method_4_code
abbrev qy_B_isDestroyed : MethodName := ⟨"ContractProbe$Batch", "isDestroyed", "(I)Z"⟩
abbrev qc_E_countFollowersOfAllAlike : ByteArray := prog_4_method_8_code
abbrev qy_E_countFollowersOfAllAlike : MethodName := ⟨"ContractProbe$Exploration", "countFollowersOfAllAlike", "(I)Z"⟩
abbrev qc_E_conclude : ByteArray := prog_4_method_5_code
abbrev qy_E_conclude : MethodName := ⟨"ContractProbe$Exploration", "conclude", "(Z)I"⟩
abbrev qc_P_putInOrder : ByteArray := prog_6_method_6_code
abbrev qy_P_putInOrder : MethodName := ⟨"ContractProbe$Paths", "putInOrder", "()V"⟩
abbrev qc_X_inputs : ByteArray := prog_1_method_6_code
abbrev qy_X_inputs : MethodName := ⟨"ContractProbe", "inputs", "(I)I"⟩
abbrev qc_P_rowOf : ByteArray := prog_6_method_3_code
abbrev qy_P_rowOf : MethodName := ⟨"ContractProbe$Paths", "rowOf", "(I)I"⟩
abbrev qc_X_witness : ByteArray := prog_1_method_7_code
abbrev qy_X_witness : MethodName := ⟨"ContractProbe", "witness", "(I)I"⟩
abbrev qc_X_end : ByteArray := prog_1_method_8_code
abbrev qy_X_end : MethodName := ⟨"ContractProbe", "end", "(II)I"⟩
abbrev qc_E_waysOf : ByteArray := prog_4_method_6_code
abbrev qy_E_waysOf : MethodName := ⟨"ContractProbe$Exploration", "waysOf", "(I)LContractProbe$Ways;"⟩
abbrev qc_E_wayOn : ByteArray := prog_4_method_7_code
abbrev qy_E_wayOn : MethodName := ⟨"ContractProbe$Exploration", "wayOn", "(II)I"⟩
abbrev qc_X_step : ByteArray := prog_1_method_9_code
abbrev qy_X_step : MethodName := ⟨"ContractProbe", "step", "(III)I"⟩
abbrev qc_Y_stepOf : ByteArray := prog_8_method_4_code
abbrev qy_Y_stepOf : MethodName := ⟨"ContractProbe$Ways", "stepOf", "(II)I"⟩
abbrev qc_X_left : ByteArray := prog_1_method_10_code
abbrev qy_X_left : MethodName := ⟨"ContractProbe", "left", "(II)I"⟩
abbrev qc_X_finding : ByteArray := prog_1_method_11_code
abbrev qy_X_finding : MethodName := ⟨"ContractProbe", "finding", "(II)I"⟩
abbrev qc_T_leastOf : ByteArray := prog_7_method_4_code
abbrev qy_T_leastOf : MethodName := ⟨"ContractProbe$Tally", "leastOf", "(II)I"⟩
abbrev qc_X_risk : ByteArray := prog_1_method_12_code
abbrev qy_X_risk : MethodName := ⟨"ContractProbe", "risk", "(III)I"⟩
abbrev qc_T_countOf : ByteArray := prog_7_method_5_code
abbrev qy_T_countOf : MethodName := ⟨"ContractProbe$Tally", "countOf", "(III)I"⟩
abbrev qc_X_replay : ByteArray := prog_1_method_13_code
abbrev qy_X_replay : MethodName := ⟨"ContractProbe", "replay", "(II)I"⟩
abbrev qc_X_keepReplay : ByteArray := prog_1_method_15_code
abbrev qy_X_keepReplay : MethodName := ⟨"ContractProbe", "keepReplay", "()V"⟩
abbrev qc_X_replayed : ByteArray := prog_1_method_14_code
abbrev qy_X_replayed : MethodName := ⟨"ContractProbe", "replayed", "(I)I"⟩
abbrev qc_M_init : ByteArray := prog_10_method_1_code
abbrev qy_M_init : MethodName := ⟨"ContractProbeModel", "<init>", "()V"⟩
abbrev qc_M_add : ByteArray := prog_10_method_2_code
abbrev qy_M_add : MethodName := ⟨"ContractProbeModel", "add", "(II)I"⟩
abbrev qc_M_clear : ByteArray := prog_10_method_3_code
abbrev qy_M_clear : MethodName := ⟨"ContractProbeModel", "clear", "()V"⟩
abbrev qc_M_start : ByteArray := prog_10_method_4_code
abbrev qy_M_start : MethodName := ⟨"ContractProbeModel", "start", "(II)Z"⟩
abbrev qc_M_explore : ByteArray := prog_10_method_22_code
abbrev qy_M_explore : MethodName := ⟨"ContractProbeModel", "explore", "(I)I"⟩
abbrev qc_M_perform : ByteArray := prog_10_method_18_code
abbrev qy_M_perform : MethodName := ⟨"ContractProbeModel", "perform", "(II)V"⟩
abbrev qc_M_transact : ByteArray := prog_10_method_17_code
abbrev qy_M_transact : MethodName := ⟨"ContractProbeModel", "transact", "(II)V"⟩
abbrev qc_M_faults : ByteArray := prog_10_method_12_code
abbrev qy_M_faults : MethodName := ⟨"ContractProbeModel", "faults", "(I)Z"⟩
abbrev qc_M_cost : ByteArray := prog_10_method_7_code
abbrev qy_M_cost : MethodName := ⟨"ContractProbeModel", "cost", "(I)I"⟩
abbrev qc_M_takes : ByteArray := prog_10_method_5_code
abbrev qy_M_takes : MethodName := ⟨"ContractProbeModel", "takes", "(I)I"⟩
abbrev qc_M_puts : ByteArray := prog_10_method_6_code
abbrev qy_M_puts : MethodName := ⟨"ContractProbeModel", "puts", "(I)I"⟩
abbrev qc_M_markOf : ByteArray := prog_10_method_8_code
abbrev qy_M_markOf : MethodName := ⟨"ContractProbeModel", "markOf", "(I)I"⟩
abbrev qc_M_note : ByteArray := prog_10_method_9_code
abbrev qy_M_note : MethodName := ⟨"ContractProbeModel", "note", "(I)V"⟩
abbrev qc_M_act : ByteArray := prog_10_method_14_code
abbrev qy_M_act : MethodName := ⟨"ContractProbeModel", "act", "(I)I"⟩
abbrev qc_M_overflows : ByteArray := prog_10_method_11_code
abbrev qy_M_overflows : MethodName := ⟨"ContractProbeModel", "overflows", "(III)Z"⟩
abbrev qc_M_give : ByteArray := prog_10_method_13_code
abbrev qy_M_give : MethodName := ⟨"ContractProbeModel", "give", "(I)V"⟩
abbrev qc_M_swap : ByteArray := prog_10_method_15_code
abbrev qy_M_swap : MethodName := ⟨"ContractProbeModel", "swap", "(I)V"⟩
abbrev qc_M_send : ByteArray := prog_10_method_16_code
abbrev qy_M_send : MethodName := ⟨"ContractProbeModel", "send", "(I)V"⟩
abbrev qc_M_worked : ByteArray := prog_10_method_10_code
abbrev qy_M_worked : MethodName := ⟨"ContractProbeModel", "worked", "(III)I"⟩
abbrev qc_M_goes : ByteArray := prog_10_method_19_code
abbrev qy_M_goes : MethodName := ⟨"ContractProbeModel", "goes", "(I)Z"⟩
abbrev qc_M_open : ByteArray := prog_10_method_20_code
abbrev qy_M_open : MethodName := ⟨"ContractProbeModel", "open", "(II)V"⟩
abbrev qc_M_count : ByteArray := prog_10_method_21_code
abbrev qy_M_count : MethodName := ⟨"ContractProbeModel", "count", "(II)V"⟩
abbrev qc_M_inputs : ByteArray := prog_10_method_24_code
abbrev qy_M_inputs : MethodName := ⟨"ContractProbeModel", "inputs", "(I)I"⟩
abbrev qc_M_isPath : ByteArray := prog_10_method_23_code
abbrev qy_M_isPath : MethodName := ⟨"ContractProbeModel", "isPath", "(I)Z"⟩
abbrev qc_M_witness : ByteArray := prog_10_method_25_code
abbrev qy_M_witness : MethodName := ⟨"ContractProbeModel", "witness", "(I)I"⟩
abbrev qc_M_end : ByteArray := prog_10_method_26_code
abbrev qy_M_end : MethodName := ⟨"ContractProbeModel", "end", "(II)I"⟩
abbrev qc_M_step : ByteArray := prog_10_method_27_code
abbrev qy_M_step : MethodName := ⟨"ContractProbeModel", "step", "(III)I"⟩
abbrev qc_M_left : ByteArray := prog_10_method_28_code
abbrev qy_M_left : MethodName := ⟨"ContractProbeModel", "left", "(II)I"⟩
abbrev qc_M_finding : ByteArray := prog_10_method_29_code
abbrev qy_M_finding : MethodName := ⟨"ContractProbeModel", "finding", "(II)I"⟩
abbrev qc_M_risk : ByteArray := prog_10_method_30_code
abbrev qy_M_risk : MethodName := ⟨"ContractProbeModel", "risk", "(III)I"⟩
abbrev qc_M_replay : ByteArray := prog_10_method_31_code
abbrev qy_M_replay : MethodName := ⟨"ContractProbeModel", "replay", "(II)I"⟩
abbrev qc_M_replayed : ByteArray := prog_10_method_32_code
abbrev qy_M_replayed : MethodName := ⟨"ContractProbeModel", "replayed", "(I)I"⟩
abbrev qc_L_law : ByteArray := code
abbrev qy_L_law : MethodName := ⟨"ContractProbeLaw", "law", "([I)Z"⟩
def qwg : List Cond := lw_tbl.filter goodWord
def qisN : Cond → Bool
  | .fieldLinkNest _ _ _ _ _ _ => true
  | .methodLinkNest _ _ _ _ => true
  | _ => false
def qnw : List Cond := lw_tbl.filter qisN
theorem wg_t {x : Cond} (i : Nat) (h : tables_1[i]? = some x) (g : goodWord x = true) : x ∈ qwg := List.mem_filter.mpr ⟨List.mem_append_right _ (List.mem_of_getElem? h), g⟩
theorem wg_s {q : MethodName × Nat} (i : Nat) (h : lw_privs[i]? = some q) : Cond.selects q.1.cls q.1 q.1 ∈ qwg := List.mem_filter.mpr ⟨List.mem_append_left _ (List.mem_map.mpr ⟨q, List.mem_of_getElem? h, rfl⟩), rfl⟩
theorem wg_n {x : Cond} (i : Nat) (h : tables_1[i]? = some x) (g : qisN x = true) : x ∈ qnw := List.mem_filter.mpr ⟨List.mem_append_right _ (List.mem_of_getElem? h), g⟩
theorem wg_good (y : Cond) (h : y ∈ qwg) : GoodIn qwg (y :: qwg) := fun x hx => by
  have hm : x ∈ qwg := by
    rcases List.mem_cons.mp hx with rfl | h1
    · exact h
    · exact h1
  exact ⟨hm, good_of_word (List.mem_filter.mp hm).2⟩
set_option maxRecDepth 100000 in
theorem qu_X : ∀ x ∈ u_ws qR_X qT_X 6, x ∈ qwg := by
  intro x hx
  obtain ⟨k, hk, rfl⟩ := List.mem_map.mp hx
  have hk := List.mem_range.mp hk
  rcases (by omega : k = 0 ∨ k = 1 ∨ k = 2 ∨ k = 3 ∨ k = 4 ∨ k = 5) with rfl | rfl | rfl | rfl | rfl | rfl
  · exact wg_t 239 rfl rfl
  · exact wg_t 241 rfl rfl
  · exact wg_t 243 rfl rfl
  · exact wg_t 245 rfl rfl
  · exact wg_t 247 rfl rfl
  · exact wg_t 249 rfl rfl
set_option maxRecDepth 100000 in
theorem qu_K : ∀ x ∈ u_ws qR_K qT_K 14, x ∈ qwg := by
  intro x hx
  obtain ⟨k, hk, rfl⟩ := List.mem_map.mp hx
  have hk := List.mem_range.mp hk
  rcases (by omega : k = 0 ∨ k = 1 ∨ k = 2 ∨ k = 3 ∨ k = 4 ∨ k = 5 ∨ k = 6 ∨ k = 7 ∨ k = 8 ∨ k = 9 ∨ k = 10 ∨ k = 11 ∨ k = 12 ∨ k = 13) with rfl | rfl | rfl | rfl | rfl | rfl | rfl | rfl | rfl | rfl | rfl | rfl | rfl | rfl
  · exact wg_t 77 rfl rfl
  · exact wg_t 79 rfl rfl
  · exact wg_t 81 rfl rfl
  · exact wg_t 83 rfl rfl
  · exact wg_t 85 rfl rfl
  · exact wg_t 87 rfl rfl
  · exact wg_t 89 rfl rfl
  · exact wg_t 91 rfl rfl
  · exact wg_t 93 rfl rfl
  · exact wg_t 95 rfl rfl
  · exact wg_t 97 rfl rfl
  · exact wg_t 99 rfl rfl
  · exact wg_t 101 rfl rfl
  · exact wg_t 103 rfl rfl
set_option maxRecDepth 100000 in
theorem qu_C : ∀ x ∈ u_ws qR_C qT_C 4, x ∈ qwg := by
  intro x hx
  obtain ⟨k, hk, rfl⟩ := List.mem_map.mp hx
  have hk := List.mem_range.mp hk
  rcases (by omega : k = 0 ∨ k = 1 ∨ k = 2 ∨ k = 3) with rfl | rfl | rfl | rfl
  · exact wg_t 42 rfl rfl
  · exact wg_t 44 rfl rfl
  · exact wg_t 46 rfl rfl
  · exact wg_t 48 rfl rfl
set_option maxRecDepth 100000 in
theorem qu_E : ∀ x ∈ u_ws qR_E qT_E 5, x ∈ qwg := by
  intro x hx
  obtain ⟨k, hk, rfl⟩ := List.mem_map.mp hx
  have hk := List.mem_range.mp hk
  rcases (by omega : k = 0 ∨ k = 1 ∨ k = 2 ∨ k = 3 ∨ k = 4) with rfl | rfl | rfl | rfl | rfl
  · exact wg_t 222 rfl rfl
  · exact wg_t 224 rfl rfl
  · exact wg_t 226 rfl rfl
  · exact wg_t 228 rfl rfl
  · exact wg_t 230 rfl rfl
set_option maxRecDepth 100000 in
theorem qu_B : ∀ x ∈ u_ws qR_B qT_B 4, x ∈ qwg := by
  intro x hx
  obtain ⟨k, hk, rfl⟩ := List.mem_map.mp hx
  have hk := List.mem_range.mp hk
  rcases (by omega : k = 0 ∨ k = 1 ∨ k = 2 ∨ k = 3) with rfl | rfl | rfl | rfl
  · exact wg_t 150 rfl rfl
  · exact wg_t 152 rfl rfl
  · exact wg_t 154 rfl rfl
  · exact wg_t 156 rfl rfl
set_option maxRecDepth 100000 in
theorem qu_Y : ∀ x ∈ u_ws qR_Y qT_Y 5, x ∈ qwg := by
  intro x hx
  obtain ⟨k, hk, rfl⟩ := List.mem_map.mp hx
  have hk := List.mem_range.mp hk
  rcases (by omega : k = 0 ∨ k = 1 ∨ k = 2 ∨ k = 3 ∨ k = 4) with rfl | rfl | rfl | rfl | rfl
  · exact wg_t 131 rfl rfl
  · exact wg_t 133 rfl rfl
  · exact wg_t 135 rfl rfl
  · exact wg_t 137 rfl rfl
  · exact wg_t 139 rfl rfl
set_option maxRecDepth 100000 in
theorem qu_P : ∀ x ∈ u_ws qR_P qT_P 9, x ∈ qwg := by
  intro x hx
  obtain ⟨k, hk, rfl⟩ := List.mem_map.mp hx
  have hk := List.mem_range.mp hk
  rcases (by omega : k = 0 ∨ k = 1 ∨ k = 2 ∨ k = 3 ∨ k = 4 ∨ k = 5 ∨ k = 6 ∨ k = 7 ∨ k = 8) with rfl | rfl | rfl | rfl | rfl | rfl | rfl | rfl | rfl
  · exact wg_t 181 rfl rfl
  · exact wg_t 183 rfl rfl
  · exact wg_t 185 rfl rfl
  · exact wg_t 187 rfl rfl
  · exact wg_t 189 rfl rfl
  · exact wg_t 191 rfl rfl
  · exact wg_t 193 rfl rfl
  · exact wg_t 195 rfl rfl
  · exact wg_t 197 rfl rfl
set_option maxRecDepth 100000 in
theorem qu_T : ∀ x ∈ u_ws qR_T qT_T 2, x ∈ qwg := by
  intro x hx
  obtain ⟨k, hk, rfl⟩ := List.mem_map.mp hx
  have hk := List.mem_range.mp hk
  rcases (by omega : k = 0 ∨ k = 1) with rfl | rfl
  · exact wg_t 209 rfl rfl
  · exact wg_t 211 rfl rfl
set_option maxRecDepth 100000 in
theorem qu_M : ∀ x ∈ u_ws qR_M qT_M 32, x ∈ qwg := by
  intro x hx
  obtain ⟨k, hk, rfl⟩ := List.mem_map.mp hx
  have hk := List.mem_range.mp hk
  rcases (by omega : k = 0 ∨ k = 1 ∨ k = 2 ∨ k = 3 ∨ k = 4 ∨ k = 5 ∨ k = 6 ∨ k = 7 ∨ k = 8 ∨ k = 9 ∨ k = 10 ∨ k = 11 ∨ k = 12 ∨ k = 13 ∨ k = 14 ∨ k = 15 ∨ k = 16 ∨ k = 17 ∨ k = 18 ∨ k = 19 ∨ k = 20 ∨ k = 21 ∨ k = 22 ∨ k = 23 ∨ k = 24 ∨ k = 25 ∨ k = 26 ∨ k = 27 ∨ k = 28 ∨ k = 29 ∨ k = 30 ∨ k = 31) with rfl | rfl | rfl | rfl | rfl | rfl | rfl | rfl | rfl | rfl | rfl | rfl | rfl | rfl | rfl | rfl | rfl | rfl | rfl | rfl | rfl | rfl | rfl | rfl | rfl | rfl | rfl | rfl | rfl | rfl | rfl | rfl
  · exact wg_t 539 rfl rfl
  · exact wg_t 541 rfl rfl
  · exact wg_t 543 rfl rfl
  · exact wg_t 545 rfl rfl
  · exact wg_t 547 rfl rfl
  · exact wg_t 549 rfl rfl
  · exact wg_t 551 rfl rfl
  · exact wg_t 553 rfl rfl
  · exact wg_t 555 rfl rfl
  · exact wg_t 557 rfl rfl
  · exact wg_t 559 rfl rfl
  · exact wg_t 561 rfl rfl
  · exact wg_t 563 rfl rfl
  · exact wg_t 565 rfl rfl
  · exact wg_t 567 rfl rfl
  · exact wg_t 569 rfl rfl
  · exact wg_t 571 rfl rfl
  · exact wg_t 573 rfl rfl
  · exact wg_t 575 rfl rfl
  · exact wg_t 577 rfl rfl
  · exact wg_t 579 rfl rfl
  · exact wg_t 581 rfl rfl
  · exact wg_t 583 rfl rfl
  · exact wg_t 585 rfl rfl
  · exact wg_t 587 rfl rfl
  · exact wg_t 589 rfl rfl
  · exact wg_t 591 rfl rfl
  · exact wg_t 593 rfl rfl
  · exact wg_t 595 rfl rfl
  · exact wg_t 597 rfl rfl
  · exact wg_t 599 rfl rfl
  · exact wg_t 601 rfl rfl
end
section
theorem qd_B_init_0 : decode qc_B_init 0 = .ok (.aload_n 0, 1) := by decide +kernel
theorem qd_B_init_1 : decode qc_B_init 1 = .ok (.invokespecial 3, 3) := by decide +kernel
theorem qd_B_init_4 : decode qc_B_init 4 = .ok (.aload_n 0, 1) := by decide +kernel
theorem qd_B_init_5 : decode qc_B_init 5 = .ok (.new 9, 3) := by decide +kernel
theorem qd_B_init_8 : decode qc_B_init 8 = .ok (.dup, 1) := by decide +kernel
theorem qd_B_init_9 : decode qc_B_init 9 = .ok (.invokespecial 11, 3) := by decide +kernel
theorem qd_B_init_12 : decode qc_B_init 12 = .ok (.putfield 12, 3) := by decide +kernel
theorem qd_B_init_15 : decode qc_B_init 15 = .ok (.aload_n 0, 1) := by decide +kernel
theorem qd_B_init_16 : decode qc_B_init 16 = .ok (.bipush 64, 2) := by decide +kernel
theorem qd_B_init_18 : decode qc_B_init 18 = .ok (.newarray .int, 2) := by decide +kernel
theorem qd_B_init_20 : decode qc_B_init 20 = .ok (.putfield 18, 3) := by decide +kernel
theorem qd_B_init_23 : decode qc_B_init 23 = .ok (.aload_n 0, 1) := by decide +kernel
theorem qd_B_init_24 : decode qc_B_init 24 = .ok (.bipush 64, 2) := by decide +kernel
theorem qd_B_init_26 : decode qc_B_init 26 = .ok (.newarray .int, 2) := by decide +kernel
theorem qd_B_init_28 : decode qc_B_init 28 = .ok (.putfield 22, 3) := by decide +kernel
theorem qd_B_init_31 : decode qc_B_init 31 = .ok (.aload_n 0, 1) := by decide +kernel
theorem qd_B_init_32 : decode qc_B_init 32 = .ok (.sipush 320, 3) := by decide +kernel
theorem qd_B_init_35 : decode qc_B_init 35 = .ok (.newarray .int, 2) := by decide +kernel
theorem qd_B_init_37 : decode qc_B_init 37 = .ok (.putfield 25, 3) := by decide +kernel
theorem qd_B_init_40 : decode qc_B_init 40 = .ok (.return_, 1) := by decide +kernel
theorem qd_B_forget_0 : decode qc_B_forget 0 = .ok (.aload_n 0, 1) := by decide +kernel
theorem qd_B_forget_1 : decode qc_B_forget 1 = .ok (.getfield 12, 3) := by decide +kernel
theorem qd_B_forget_4 : decode qc_B_forget 4 = .ok (.invokevirtual 28, 3) := by decide +kernel
theorem qd_B_forget_7 : decode qc_B_forget 7 = .ok (.aload_n 0, 1) := by decide +kernel
theorem qd_B_forget_8 : decode qc_B_forget 8 = .ok (.getfield 18, 3) := by decide +kernel
theorem qd_B_forget_11 : decode qc_B_forget 11 = .ok (.iconst 0, 1) := by decide +kernel
theorem qd_B_forget_12 : decode qc_B_forget 12 = .ok (.invokestatic 31, 3) := by decide +kernel
theorem qd_B_forget_15 : decode qc_B_forget 15 = .ok (.aload_n 0, 1) := by decide +kernel
theorem qd_B_forget_16 : decode qc_B_forget 16 = .ok (.getfield 25, 3) := by decide +kernel
theorem qd_B_forget_19 : decode qc_B_forget 19 = .ok (.iconst 0, 1) := by decide +kernel
theorem qd_B_forget_20 : decode qc_B_forget 20 = .ok (.invokestatic 31, 3) := by decide +kernel
theorem qd_B_forget_23 : decode qc_B_forget 23 = .ok (.return_, 1) := by decide +kernel
theorem qd_B_fill_0 : decode qc_B_fill 0 = .ok (.iconst 0, 1) := by decide +kernel
theorem qd_B_fill_1 : decode qc_B_fill 1 = .ok (.istore 5, 2) := by decide +kernel
theorem qd_B_fill_3 : decode qc_B_fill 3 = .ok (.iload 5, 2) := by decide +kernel
theorem qd_B_fill_5 : decode qc_B_fill 5 = .ok (.bipush 64, 2) := by decide +kernel
theorem qd_B_fill_7 : decode qc_B_fill 7 = .ok (.if_icmp .ge 91, 3) := by decide +kernel
theorem qd_B_fill_10 : decode qc_B_fill 10 = .ok (.aload_n 1, 1) := by decide +kernel
theorem qd_B_fill_11 : decode qc_B_fill 11 = .ok (.iload 5, 2) := by decide +kernel
theorem qd_B_fill_13 : decode qc_B_fill 13 = .ok (.iload_n 2, 1) := by decide +kernel
theorem qd_B_fill_14 : decode qc_B_fill 14 = .ok (.iload_n 3, 1) := by decide +kernel
theorem qd_B_fill_15 : decode qc_B_fill 15 = .ok (.iload 4, 2) := by decide +kernel
theorem qd_B_fill_17 : decode qc_B_fill 17 = .ok (.invokevirtual 37, 3) := by decide +kernel
theorem qd_B_fill_20 : decode qc_B_fill 20 = .ok (.aload_n 0, 1) := by decide +kernel
theorem qd_B_fill_21 : decode qc_B_fill 21 = .ok (.getfield 12, 3) := by decide +kernel
theorem qd_B_fill_24 : decode qc_B_fill 24 = .ok (.aload_n 1, 1) := by decide +kernel
theorem qd_B_fill_25 : decode qc_B_fill 25 = .ok (.invokevirtual 43, 3) := by decide +kernel
theorem qd_B_fill_28 : decode qc_B_fill 28 = .ok (.istore 6, 2) := by decide +kernel
theorem qd_B_fill_30 : decode qc_B_fill 30 = .ok (.iload 6, 2) := by decide +kernel
theorem qd_B_fill_32 : decode qc_B_fill 32 = .ok (.iconst (-1), 1) := by decide +kernel
theorem qd_B_fill_33 : decode qc_B_fill 33 = .ok (.if_icmp .ne 5, 3) := by decide +kernel
theorem qd_B_fill_36 : decode qc_B_fill 36 = .ok (.iconst 0, 1) := by decide +kernel
theorem qd_B_fill_37 : decode qc_B_fill 37 = .ok (.ireturn, 1) := by decide +kernel
theorem qd_B_fill_38 : decode qc_B_fill 38 = .ok (.aload_n 0, 1) := by decide +kernel
theorem qd_B_fill_39 : decode qc_B_fill 39 = .ok (.getfield 18, 3) := by decide +kernel
theorem qd_B_fill_42 : decode qc_B_fill 42 = .ok (.iload 5, 2) := by decide +kernel
theorem qd_B_fill_44 : decode qc_B_fill 44 = .ok (.iload 6, 2) := by decide +kernel
theorem qd_B_fill_46 : decode qc_B_fill 46 = .ok (.iastore, 1) := by decide +kernel
theorem qd_B_fill_47 : decode qc_B_fill 47 = .ok (.aload_n 0, 1) := by decide +kernel
theorem qd_B_fill_48 : decode qc_B_fill 48 = .ok (.getfield 22, 3) := by decide +kernel
theorem qd_B_fill_51 : decode qc_B_fill 51 = .ok (.iload 5, 2) := by decide +kernel
theorem qd_B_fill_53 : decode qc_B_fill 53 = .ok (.aload_n 1, 1) := by decide +kernel
theorem qd_B_fill_54 : decode qc_B_fill 54 = .ok (.getfield 47, 3) := by decide +kernel
theorem qd_B_fill_57 : decode qc_B_fill 57 = .ok (.iastore, 1) := by decide +kernel
theorem qd_B_fill_58 : decode qc_B_fill 58 = .ok (.iconst 0, 1) := by decide +kernel
theorem qd_B_fill_59 : decode qc_B_fill 59 = .ok (.istore 7, 2) := by decide +kernel
theorem qd_B_fill_61 : decode qc_B_fill 61 = .ok (.iload 7, 2) := by decide +kernel
theorem qd_B_fill_63 : decode qc_B_fill 63 = .ok (.iconst 5, 1) := by decide +kernel
theorem qd_B_fill_64 : decode qc_B_fill 64 = .ok (.if_icmp .ge 28, 3) := by decide +kernel
theorem qd_B_fill_67 : decode qc_B_fill 67 = .ok (.aload_n 0, 1) := by decide +kernel
theorem qd_B_fill_68 : decode qc_B_fill 68 = .ok (.getfield 25, 3) := by decide +kernel
theorem qd_B_fill_71 : decode qc_B_fill 71 = .ok (.iload 5, 2) := by decide +kernel
theorem qd_B_fill_73 : decode qc_B_fill 73 = .ok (.iconst 5, 1) := by decide +kernel
theorem qd_B_fill_74 : decode qc_B_fill 74 = .ok (.imul, 1) := by decide +kernel
theorem qd_B_fill_75 : decode qc_B_fill 75 = .ok (.iload 7, 2) := by decide +kernel
theorem qd_B_fill_77 : decode qc_B_fill 77 = .ok (.iadd, 1) := by decide +kernel
theorem qd_B_fill_78 : decode qc_B_fill 78 = .ok (.aload_n 1, 1) := by decide +kernel
theorem qd_B_fill_79 : decode qc_B_fill 79 = .ok (.getfield 51, 3) := by decide +kernel
theorem qd_B_fill_82 : decode qc_B_fill 82 = .ok (.iload 7, 2) := by decide +kernel
theorem qd_B_fill_84 : decode qc_B_fill 84 = .ok (.iaload, 1) := by decide +kernel
theorem qd_B_fill_85 : decode qc_B_fill 85 = .ok (.iastore, 1) := by decide +kernel
theorem qd_B_fill_86 : decode qc_B_fill 86 = .ok (.iinc 7 1, 3) := by decide +kernel
theorem qd_B_fill_89 : decode qc_B_fill 89 = .ok (.goto (-28), 3) := by decide +kernel
theorem qd_B_fill_92 : decode qc_B_fill 92 = .ok (.iinc 5 1, 3) := by decide +kernel
theorem qd_B_fill_95 : decode qc_B_fill 95 = .ok (.goto (-92), 3) := by decide +kernel
theorem qd_B_fill_98 : decode qc_B_fill 98 = .ok (.iconst 1, 1) := by decide +kernel
theorem qd_B_fill_99 : decode qc_B_fill 99 = .ok (.ireturn, 1) := by decide +kernel
theorem qd_B_isDestroyed_0 : decode qc_B_isDestroyed 0 = .ok (.aload_n 0, 1) := by decide +kernel
theorem qd_B_isDestroyed_1 : decode qc_B_isDestroyed 1 = .ok (.getfield 12, 3) := by decide +kernel
theorem qd_B_isDestroyed_4 : decode qc_B_isDestroyed 4 = .ok (.getfield 52, 3) := by decide +kernel
theorem qd_B_isDestroyed_7 : decode qc_B_isDestroyed 7 = .ok (.aload_n 0, 1) := by decide +kernel
theorem qd_B_isDestroyed_8 : decode qc_B_isDestroyed 8 = .ok (.getfield 18, 3) := by decide +kernel
theorem qd_B_isDestroyed_11 : decode qc_B_isDestroyed 11 = .ok (.iload_n 1, 1) := by decide +kernel
theorem qd_B_isDestroyed_12 : decode qc_B_isDestroyed 12 = .ok (.iaload, 1) := by decide +kernel
theorem qd_B_isDestroyed_13 : decode qc_B_isDestroyed 13 = .ok (.iaload, 1) := by decide +kernel
theorem qd_B_isDestroyed_14 : decode qc_B_isDestroyed 14 = .ok (.iconst 3, 1) := by decide +kernel
theorem qd_B_isDestroyed_15 : decode qc_B_isDestroyed 15 = .ok (.if_icmp .ne 7, 3) := by decide +kernel
theorem qd_B_isDestroyed_18 : decode qc_B_isDestroyed 18 = .ok (.iconst 1, 1) := by decide +kernel
theorem qd_B_isDestroyed_19 : decode qc_B_isDestroyed 19 = .ok (.goto 4, 3) := by decide +kernel
theorem qd_B_isDestroyed_22 : decode qc_B_isDestroyed 22 = .ok (.iconst 0, 1) := by decide +kernel
theorem qd_B_isDestroyed_23 : decode qc_B_isDestroyed 23 = .ok (.ireturn, 1) := by decide +kernel
theorem qd_B_areFollowedAlike_0 : decode qc_B_areFollowedAlike 0 = .ok (.aload_n 0, 1) := by decide +kernel
theorem qd_B_areFollowedAlike_1 : decode qc_B_areFollowedAlike 1 = .ok (.getfield 22, 3) := by decide +kernel
theorem qd_B_areFollowedAlike_4 : decode qc_B_areFollowedAlike 4 = .ok (.iload_n 1, 1) := by decide +kernel
theorem qd_B_areFollowedAlike_5 : decode qc_B_areFollowedAlike 5 = .ok (.iaload, 1) := by decide +kernel
theorem qd_B_areFollowedAlike_6 : decode qc_B_areFollowedAlike 6 = .ok (.aload_n 0, 1) := by decide +kernel
theorem qd_B_areFollowedAlike_7 : decode qc_B_areFollowedAlike 7 = .ok (.getfield 22, 3) := by decide +kernel
theorem qd_B_areFollowedAlike_10 : decode qc_B_areFollowedAlike 10 = .ok (.iload_n 2, 1) := by decide +kernel
theorem qd_B_areFollowedAlike_11 : decode qc_B_areFollowedAlike 11 = .ok (.iaload, 1) := by decide +kernel
theorem qd_B_areFollowedAlike_12 : decode qc_B_areFollowedAlike 12 = .ok (.if_icmp .ne 20, 3) := by decide +kernel
theorem qd_B_areFollowedAlike_15 : decode qc_B_areFollowedAlike 15 = .ok (.aload_n 0, 1) := by decide +kernel
theorem qd_B_areFollowedAlike_16 : decode qc_B_areFollowedAlike 16 = .ok (.iload_n 1, 1) := by decide +kernel
theorem qd_B_areFollowedAlike_17 : decode qc_B_areFollowedAlike 17 = .ok (.invokevirtual 55, 3) := by decide +kernel
theorem qd_B_areFollowedAlike_20 : decode qc_B_areFollowedAlike 20 = .ok (.aload_n 0, 1) := by decide +kernel
theorem qd_B_areFollowedAlike_21 : decode qc_B_areFollowedAlike 21 = .ok (.iload_n 2, 1) := by decide +kernel
theorem qd_B_areFollowedAlike_22 : decode qc_B_areFollowedAlike 22 = .ok (.invokevirtual 55, 3) := by decide +kernel
theorem qd_B_areFollowedAlike_25 : decode qc_B_areFollowedAlike 25 = .ok (.if_icmp .ne 7, 3) := by decide +kernel
theorem qd_B_areFollowedAlike_28 : decode qc_B_areFollowedAlike 28 = .ok (.iconst 1, 1) := by decide +kernel
theorem qd_B_areFollowedAlike_29 : decode qc_B_areFollowedAlike 29 = .ok (.goto 4, 3) := by decide +kernel
theorem qd_B_areFollowedAlike_32 : decode qc_B_areFollowedAlike 32 = .ok (.iconst 0, 1) := by decide +kernel
theorem qd_B_areFollowedAlike_33 : decode qc_B_areFollowedAlike 33 = .ok (.ireturn, 1) := by decide +kernel
theorem qd_B_isFollowedLikeAnEarlierOne_0 : decode qc_B_isFollowedLikeAnEarlierOne 0 = .ok (.iconst 0, 1) := by decide +kernel
theorem qd_B_isFollowedLikeAnEarlierOne_1 : decode qc_B_isFollowedLikeAnEarlierOne 1 = .ok (.istore_n 2, 1) := by decide +kernel
theorem qd_B_isFollowedLikeAnEarlierOne_2 : decode qc_B_isFollowedLikeAnEarlierOne 2 = .ok (.iload_n 2, 1) := by decide +kernel
theorem qd_B_isFollowedLikeAnEarlierOne_3 : decode qc_B_isFollowedLikeAnEarlierOne 3 = .ok (.iload_n 1, 1) := by decide +kernel
theorem qd_B_isFollowedLikeAnEarlierOne_4 : decode qc_B_isFollowedLikeAnEarlierOne 4 = .ok (.if_icmp .ge 20, 3) := by decide +kernel
theorem qd_B_isFollowedLikeAnEarlierOne_7 : decode qc_B_isFollowedLikeAnEarlierOne 7 = .ok (.aload_n 0, 1) := by decide +kernel
theorem qd_B_isFollowedLikeAnEarlierOne_8 : decode qc_B_isFollowedLikeAnEarlierOne 8 = .ok (.iload_n 2, 1) := by decide +kernel
theorem qd_B_isFollowedLikeAnEarlierOne_9 : decode qc_B_isFollowedLikeAnEarlierOne 9 = .ok (.iload_n 1, 1) := by decide +kernel
theorem qd_B_isFollowedLikeAnEarlierOne_10 : decode qc_B_isFollowedLikeAnEarlierOne 10 = .ok (.invokevirtual 59, 3) := by decide +kernel
theorem qd_B_isFollowedLikeAnEarlierOne_13 : decode qc_B_isFollowedLikeAnEarlierOne 13 = .ok (.ifCond .eq 5, 3) := by decide +kernel
theorem qd_B_isFollowedLikeAnEarlierOne_16 : decode qc_B_isFollowedLikeAnEarlierOne 16 = .ok (.iconst 1, 1) := by decide +kernel
theorem qd_B_isFollowedLikeAnEarlierOne_17 : decode qc_B_isFollowedLikeAnEarlierOne 17 = .ok (.ireturn, 1) := by decide +kernel
theorem qd_B_isFollowedLikeAnEarlierOne_18 : decode qc_B_isFollowedLikeAnEarlierOne 18 = .ok (.iinc 2 1, 3) := by decide +kernel
theorem qd_B_isFollowedLikeAnEarlierOne_21 : decode qc_B_isFollowedLikeAnEarlierOne 21 = .ok (.goto (-19), 3) := by decide +kernel
theorem qd_B_isFollowedLikeAnEarlierOne_24 : decode qc_B_isFollowedLikeAnEarlierOne 24 = .ok (.iconst 0, 1) := by decide +kernel
theorem qd_B_isFollowedLikeAnEarlierOne_25 : decode qc_B_isFollowedLikeAnEarlierOne 25 = .ok (.ireturn, 1) := by decide +kernel
theorem qd_C_init_0 : decode qc_C_init 0 = .ok (.aload_n 0, 1) := by decide +kernel
theorem qd_C_init_1 : decode qc_C_init 1 = .ok (.invokespecial 3, 3) := by decide +kernel
theorem qd_C_init_4 : decode qc_C_init 4 = .ok (.aload_n 0, 1) := by decide +kernel
theorem qd_C_init_5 : decode qc_C_init 5 = .ok (.bipush 32, 2) := by decide +kernel
theorem qd_C_init_7 : decode qc_C_init 7 = .ok (.newarray .int, 2) := by decide +kernel
theorem qd_C_init_9 : decode qc_C_init 9 = .ok (.putfield 9, 3) := by decide +kernel
theorem qd_C_init_12 : decode qc_C_init 12 = .ok (.aload_n 0, 1) := by decide +kernel
theorem qd_C_init_13 : decode qc_C_init 13 = .ok (.bipush 32, 2) := by decide +kernel
theorem qd_C_init_15 : decode qc_C_init 15 = .ok (.newarray .int, 2) := by decide +kernel
theorem qd_C_init_17 : decode qc_C_init 17 = .ok (.putfield 15, 3) := by decide +kernel
theorem qd_C_init_20 : decode qc_C_init 20 = .ok (.aload_n 0, 1) := by decide +kernel
theorem qd_C_init_21 : decode qc_C_init 21 = .ok (.bipush 16, 2) := by decide +kernel
theorem qd_C_init_23 : decode qc_C_init 23 = .ok (.newarray .int, 2) := by decide +kernel
theorem qd_C_init_25 : decode qc_C_init 25 = .ok (.putfield 18, 3) := by decide +kernel
theorem qd_C_init_28 : decode qc_C_init 28 = .ok (.aload_n 0, 1) := by decide +kernel
theorem qd_C_init_29 : decode qc_C_init 29 = .ok (.iconst 0, 1) := by decide +kernel
theorem qd_C_init_30 : decode qc_C_init 30 = .ok (.putfield 21, 3) := by decide +kernel
theorem qd_C_init_33 : decode qc_C_init 33 = .ok (.aload_n 0, 1) := by decide +kernel
theorem qd_C_init_34 : decode qc_C_init 34 = .ok (.getfield 18, 3) := by decide +kernel
theorem qd_C_init_37 : decode qc_C_init 37 = .ok (.iconst (-1), 1) := by decide +kernel
theorem qd_C_init_38 : decode qc_C_init 38 = .ok (.invokestatic 25, 3) := by decide +kernel
theorem qd_C_init_41 : decode qc_C_init 41 = .ok (.return_, 1) := by decide +kernel
theorem qd_C_append_0 : decode qc_C_append 0 = .ok (.aload_n 0, 1) := by decide +kernel
theorem qd_C_append_1 : decode qc_C_append 1 = .ok (.getfield 21, 3) := by decide +kernel
theorem qd_C_append_4 : decode qc_C_append 4 = .ok (.bipush 32, 2) := by decide +kernel
theorem qd_C_append_6 : decode qc_C_append 6 = .ok (.if_icmp .lt 5, 3) := by decide +kernel
theorem qd_C_append_9 : decode qc_C_append 9 = .ok (.iconst (-1), 1) := by decide +kernel
theorem qd_C_append_10 : decode qc_C_append 10 = .ok (.ireturn, 1) := by decide +kernel
theorem qd_C_append_11 : decode qc_C_append 11 = .ok (.aload_n 0, 1) := by decide +kernel
theorem qd_C_append_12 : decode qc_C_append 12 = .ok (.getfield 9, 3) := by decide +kernel
theorem qd_C_append_15 : decode qc_C_append 15 = .ok (.aload_n 0, 1) := by decide +kernel
theorem qd_C_append_16 : decode qc_C_append 16 = .ok (.getfield 21, 3) := by decide +kernel
theorem qd_C_append_19 : decode qc_C_append 19 = .ok (.iload_n 1, 1) := by decide +kernel
theorem qd_C_append_20 : decode qc_C_append 20 = .ok (.iastore, 1) := by decide +kernel
theorem qd_C_append_21 : decode qc_C_append 21 = .ok (.aload_n 0, 1) := by decide +kernel
theorem qd_C_append_22 : decode qc_C_append 22 = .ok (.getfield 15, 3) := by decide +kernel
theorem qd_C_append_25 : decode qc_C_append 25 = .ok (.aload_n 0, 1) := by decide +kernel
theorem qd_C_append_26 : decode qc_C_append 26 = .ok (.getfield 21, 3) := by decide +kernel
theorem qd_C_append_29 : decode qc_C_append 29 = .ok (.iload_n 2, 1) := by decide +kernel
theorem qd_C_append_30 : decode qc_C_append 30 = .ok (.iastore, 1) := by decide +kernel
theorem qd_C_append_31 : decode qc_C_append 31 = .ok (.iload_n 1, 1) := by decide +kernel
theorem qd_C_append_32 : decode qc_C_append 32 = .ok (.bipush 16, 2) := by decide +kernel
theorem qd_C_append_34 : decode qc_C_append 34 = .ok (.if_icmp .ne 23, 3) := by decide +kernel
theorem qd_C_append_37 : decode qc_C_append 37 = .ok (.aload_n 0, 1) := by decide +kernel
theorem qd_C_append_38 : decode qc_C_append 38 = .ok (.getfield 18, 3) := by decide +kernel
theorem qd_C_append_41 : decode qc_C_append 41 = .ok (.iload_n 2, 1) := by decide +kernel
theorem qd_C_append_42 : decode qc_C_append 42 = .ok (.iaload, 1) := by decide +kernel
theorem qd_C_append_43 : decode qc_C_append 43 = .ok (.iconst (-1), 1) := by decide +kernel
theorem qd_C_append_44 : decode qc_C_append 44 = .ok (.if_icmp .ne 13, 3) := by decide +kernel
theorem qd_C_append_47 : decode qc_C_append 47 = .ok (.aload_n 0, 1) := by decide +kernel
theorem qd_C_append_48 : decode qc_C_append 48 = .ok (.getfield 18, 3) := by decide +kernel
theorem qd_C_append_51 : decode qc_C_append 51 = .ok (.iload_n 2, 1) := by decide +kernel
theorem qd_C_append_52 : decode qc_C_append 52 = .ok (.aload_n 0, 1) := by decide +kernel
theorem qd_C_append_53 : decode qc_C_append 53 = .ok (.getfield 21, 3) := by decide +kernel
theorem qd_C_append_56 : decode qc_C_append 56 = .ok (.iastore, 1) := by decide +kernel
theorem qd_C_append_57 : decode qc_C_append 57 = .ok (.aload_n 0, 1) := by decide +kernel
theorem qd_C_append_58 : decode qc_C_append 58 = .ok (.dup, 1) := by decide +kernel
theorem qd_C_append_59 : decode qc_C_append 59 = .ok (.getfield 21, 3) := by decide +kernel
theorem qd_C_append_62 : decode qc_C_append 62 = .ok (.iconst 1, 1) := by decide +kernel
theorem qd_C_append_63 : decode qc_C_append 63 = .ok (.iadd, 1) := by decide +kernel
theorem qd_C_append_64 : decode qc_C_append 64 = .ok (.putfield 21, 3) := by decide +kernel
theorem qd_C_append_67 : decode qc_C_append 67 = .ok (.aload_n 0, 1) := by decide +kernel
theorem qd_C_append_68 : decode qc_C_append 68 = .ok (.getfield 21, 3) := by decide +kernel
theorem qd_C_append_71 : decode qc_C_append 71 = .ok (.iconst 1, 1) := by decide +kernel
theorem qd_C_append_72 : decode qc_C_append 72 = .ok (.isub, 1) := by decide +kernel
theorem qd_C_append_73 : decode qc_C_append 73 = .ok (.ireturn, 1) := by decide +kernel
theorem qd_C_wipe_0 : decode qc_C_wipe 0 = .ok (.aload_n 0, 1) := by decide +kernel
theorem qd_C_wipe_1 : decode qc_C_wipe 1 = .ok (.iconst 0, 1) := by decide +kernel
theorem qd_C_wipe_2 : decode qc_C_wipe 2 = .ok (.putfield 21, 3) := by decide +kernel
theorem qd_C_wipe_5 : decode qc_C_wipe 5 = .ok (.aload_n 0, 1) := by decide +kernel
theorem qd_C_wipe_6 : decode qc_C_wipe 6 = .ok (.getfield 18, 3) := by decide +kernel
theorem qd_C_wipe_9 : decode qc_C_wipe 9 = .ok (.iconst (-1), 1) := by decide +kernel
theorem qd_C_wipe_10 : decode qc_C_wipe 10 = .ok (.invokestatic 25, 3) := by decide +kernel
theorem qd_C_wipe_13 : decode qc_C_wipe 13 = .ok (.return_, 1) := by decide +kernel
theorem qd_E_init_0 : decode qc_E_init 0 = .ok (.aload_n 0, 1) := by decide +kernel
theorem qd_E_init_1 : decode qc_E_init 1 = .ok (.invokespecial 3, 3) := by decide +kernel
theorem qd_E_init_4 : decode qc_E_init 4 = .ok (.aload_n 0, 1) := by decide +kernel
theorem qd_E_init_5 : decode qc_E_init 5 = .ok (.new 9, 3) := by decide +kernel
theorem qd_E_init_8 : decode qc_E_init 8 = .ok (.dup, 1) := by decide +kernel
theorem qd_E_init_9 : decode qc_E_init 9 = .ok (.invokespecial 11, 3) := by decide +kernel
theorem qd_E_init_12 : decode qc_E_init 12 = .ok (.putfield 12, 3) := by decide +kernel
theorem qd_E_init_15 : decode qc_E_init 15 = .ok (.aload_n 0, 1) := by decide +kernel
theorem qd_E_init_16 : decode qc_E_init 16 = .ok (.new 9, 3) := by decide +kernel
theorem qd_E_init_19 : decode qc_E_init 19 = .ok (.dup, 1) := by decide +kernel
theorem qd_E_init_20 : decode qc_E_init 20 = .ok (.invokespecial 11, 3) := by decide +kernel
theorem qd_E_init_23 : decode qc_E_init 23 = .ok (.putfield 18, 3) := by decide +kernel
theorem qd_E_init_26 : decode qc_E_init 26 = .ok (.aload_n 0, 1) := by decide +kernel
theorem qd_E_init_27 : decode qc_E_init 27 = .ok (.new 21, 3) := by decide +kernel
theorem qd_E_init_30 : decode qc_E_init 30 = .ok (.dup, 1) := by decide +kernel
theorem qd_E_init_31 : decode qc_E_init 31 = .ok (.invokespecial 23, 3) := by decide +kernel
theorem qd_E_init_34 : decode qc_E_init 34 = .ok (.putfield 24, 3) := by decide +kernel
theorem qd_E_init_37 : decode qc_E_init 37 = .ok (.aload_n 0, 1) := by decide +kernel
theorem qd_E_init_38 : decode qc_E_init 38 = .ok (.new 28, 3) := by decide +kernel
theorem qd_E_init_41 : decode qc_E_init 41 = .ok (.dup, 1) := by decide +kernel
theorem qd_E_init_42 : decode qc_E_init 42 = .ok (.invokespecial 30, 3) := by decide +kernel
theorem qd_E_init_45 : decode qc_E_init 45 = .ok (.putfield 31, 3) := by decide +kernel
theorem qd_E_init_48 : decode qc_E_init 48 = .ok (.aload_n 0, 1) := by decide +kernel
theorem qd_E_init_49 : decode qc_E_init 49 = .ok (.iconst 0, 1) := by decide +kernel
theorem qd_E_init_50 : decode qc_E_init 50 = .ok (.putfield 35, 3) := by decide +kernel
theorem qd_E_init_53 : decode qc_E_init 53 = .ok (.return_, 1) := by decide +kernel
theorem qd_E_forget_0 : decode qc_E_forget 0 = .ok (.aload_n 0, 1) := by decide +kernel
theorem qd_E_forget_1 : decode qc_E_forget 1 = .ok (.iconst 0, 1) := by decide +kernel
theorem qd_E_forget_2 : decode qc_E_forget 2 = .ok (.putfield 35, 3) := by decide +kernel
theorem qd_E_forget_5 : decode qc_E_forget 5 = .ok (.aload_n 0, 1) := by decide +kernel
theorem qd_E_forget_6 : decode qc_E_forget 6 = .ok (.getfield 12, 3) := by decide +kernel
theorem qd_E_forget_9 : decode qc_E_forget 9 = .ok (.invokevirtual 39, 3) := by decide +kernel
theorem qd_E_forget_12 : decode qc_E_forget 12 = .ok (.aload_n 0, 1) := by decide +kernel
theorem qd_E_forget_13 : decode qc_E_forget 13 = .ok (.getfield 18, 3) := by decide +kernel
theorem qd_E_forget_16 : decode qc_E_forget 16 = .ok (.invokevirtual 39, 3) := by decide +kernel
theorem qd_E_forget_19 : decode qc_E_forget 19 = .ok (.aload_n 0, 1) := by decide +kernel
theorem qd_E_forget_20 : decode qc_E_forget 20 = .ok (.getfield 24, 3) := by decide +kernel
theorem qd_E_forget_23 : decode qc_E_forget 23 = .ok (.invokevirtual 42, 3) := by decide +kernel
theorem qd_E_forget_26 : decode qc_E_forget 26 = .ok (.aload_n 0, 1) := by decide +kernel
theorem qd_E_forget_27 : decode qc_E_forget 27 = .ok (.getfield 31, 3) := by decide +kernel
theorem qd_E_forget_30 : decode qc_E_forget 30 = .ok (.invokevirtual 43, 3) := by decide +kernel
theorem qd_E_forget_33 : decode qc_E_forget 33 = .ok (.return_, 1) := by decide +kernel
theorem qd_E_surveySingles_0 : decode qc_E_surveySingles 0 = .ok (.aload_n 0, 1) := by decide +kernel
theorem qd_E_surveySingles_1 : decode qc_E_surveySingles 1 = .ok (.iconst 1, 1) := by decide +kernel
theorem qd_E_surveySingles_2 : decode qc_E_surveySingles 2 = .ok (.putfield 35, 3) := by decide +kernel
theorem qd_E_surveySingles_5 : decode qc_E_surveySingles 5 = .ok (.aload_n 0, 1) := by decide +kernel
theorem qd_E_surveySingles_6 : decode qc_E_surveySingles 6 = .ok (.getfield 18, 3) := by decide +kernel
theorem qd_E_surveySingles_9 : decode qc_E_surveySingles 9 = .ok (.aload_n 1, 1) := by decide +kernel
theorem qd_E_surveySingles_10 : decode qc_E_surveySingles 10 = .ok (.iload_n 2, 1) := by decide +kernel
theorem qd_E_surveySingles_11 : decode qc_E_surveySingles 11 = .ok (.iconst 0, 1) := by decide +kernel
theorem qd_E_surveySingles_12 : decode qc_E_surveySingles 12 = .ok (.iload_n 3, 1) := by decide +kernel
theorem qd_E_surveySingles_13 : decode qc_E_surveySingles 13 = .ok (.invokevirtual 44, 3) := by decide +kernel
theorem qd_E_surveySingles_16 : decode qc_E_surveySingles 16 = .ok (.ifCond .eq 15, 3) := by decide +kernel
theorem qd_E_surveySingles_19 : decode qc_E_surveySingles 19 = .ok (.aload_n 0, 1) := by decide +kernel
theorem qd_E_surveySingles_20 : decode qc_E_surveySingles 20 = .ok (.iconst 0, 1) := by decide +kernel
theorem qd_E_surveySingles_21 : decode qc_E_surveySingles 21 = .ok (.invokevirtual 48, 3) := by decide +kernel
theorem qd_E_surveySingles_24 : decode qc_E_surveySingles 24 = .ok (.ifCond .eq 7, 3) := by decide +kernel
theorem qd_E_surveySingles_27 : decode qc_E_surveySingles 27 = .ok (.iconst 1, 1) := by decide +kernel
theorem qd_E_surveySingles_28 : decode qc_E_surveySingles 28 = .ok (.goto 4, 3) := by decide +kernel
theorem qd_E_surveySingles_31 : decode qc_E_surveySingles 31 = .ok (.iconst 0, 1) := by decide +kernel
theorem qd_E_surveySingles_32 : decode qc_E_surveySingles 32 = .ok (.ireturn, 1) := by decide +kernel
theorem qd_E_surveyPairs_0 : decode qc_E_surveyPairs 0 = .ok (.aload_n 0, 1) := by decide +kernel
theorem qd_E_surveyPairs_1 : decode qc_E_surveyPairs 1 = .ok (.iconst 2, 1) := by decide +kernel
theorem qd_E_surveyPairs_2 : decode qc_E_surveyPairs 2 = .ok (.putfield 35, 3) := by decide +kernel
theorem qd_E_surveyPairs_5 : decode qc_E_surveyPairs 5 = .ok (.aload_n 0, 1) := by decide +kernel
theorem qd_E_surveyPairs_6 : decode qc_E_surveyPairs 6 = .ok (.getfield 12, 3) := by decide +kernel
theorem qd_E_surveyPairs_9 : decode qc_E_surveyPairs 9 = .ok (.aload_n 1, 1) := by decide +kernel
theorem qd_E_surveyPairs_10 : decode qc_E_surveyPairs 10 = .ok (.iload_n 2, 1) := by decide +kernel
theorem qd_E_surveyPairs_11 : decode qc_E_surveyPairs 11 = .ok (.iconst 0, 1) := by decide +kernel
theorem qd_E_surveyPairs_12 : decode qc_E_surveyPairs 12 = .ok (.iload_n 3, 1) := by decide +kernel
theorem qd_E_surveyPairs_13 : decode qc_E_surveyPairs 13 = .ok (.invokevirtual 44, 3) := by decide +kernel
theorem qd_E_surveyPairs_16 : decode qc_E_surveyPairs 16 = .ok (.ifCond .ne 5, 3) := by decide +kernel
theorem qd_E_surveyPairs_19 : decode qc_E_surveyPairs 19 = .ok (.iconst 0, 1) := by decide +kernel
theorem qd_E_surveyPairs_20 : decode qc_E_surveyPairs 20 = .ok (.ireturn, 1) := by decide +kernel
theorem qd_E_surveyPairs_21 : decode qc_E_surveyPairs 21 = .ok (.iconst 0, 1) := by decide +kernel
theorem qd_E_surveyPairs_22 : decode qc_E_surveyPairs 22 = .ok (.istore 4, 2) := by decide +kernel
theorem qd_E_surveyPairs_24 : decode qc_E_surveyPairs 24 = .ok (.iload 4, 2) := by decide +kernel
theorem qd_E_surveyPairs_26 : decode qc_E_surveyPairs 26 = .ok (.bipush 64, 2) := by decide +kernel
theorem qd_E_surveyPairs_28 : decode qc_E_surveyPairs 28 = .ok (.if_icmp .ge 66, 3) := by decide +kernel
theorem qd_E_surveyPairs_31 : decode qc_E_surveyPairs 31 = .ok (.aload_n 0, 1) := by decide +kernel
theorem qd_E_surveyPairs_32 : decode qc_E_surveyPairs 32 = .ok (.getfield 12, 3) := by decide +kernel
theorem qd_E_surveyPairs_35 : decode qc_E_surveyPairs 35 = .ok (.iload 4, 2) := by decide +kernel
theorem qd_E_surveyPairs_37 : decode qc_E_surveyPairs 37 = .ok (.invokevirtual 52, 3) := by decide +kernel
theorem qd_E_surveyPairs_40 : decode qc_E_surveyPairs 40 = .ok (.ifCond .eq 6, 3) := by decide +kernel
theorem qd_E_surveyPairs_43 : decode qc_E_surveyPairs 43 = .ok (.goto 45, 3) := by decide +kernel
theorem qd_E_surveyPairs_46 : decode qc_E_surveyPairs 46 = .ok (.aload_n 0, 1) := by decide +kernel
theorem qd_E_surveyPairs_47 : decode qc_E_surveyPairs 47 = .ok (.getfield 18, 3) := by decide +kernel
theorem qd_E_surveyPairs_50 : decode qc_E_surveyPairs 50 = .ok (.aload_n 1, 1) := by decide +kernel
theorem qd_E_surveyPairs_51 : decode qc_E_surveyPairs 51 = .ok (.aload_n 0, 1) := by decide +kernel
theorem qd_E_surveyPairs_52 : decode qc_E_surveyPairs 52 = .ok (.getfield 12, 3) := by decide +kernel
theorem qd_E_surveyPairs_55 : decode qc_E_surveyPairs 55 = .ok (.getfield 55, 3) := by decide +kernel
theorem qd_E_surveyPairs_58 : decode qc_E_surveyPairs 58 = .ok (.iload 4, 2) := by decide +kernel
theorem qd_E_surveyPairs_60 : decode qc_E_surveyPairs 60 = .ok (.iaload, 1) := by decide +kernel
theorem qd_E_surveyPairs_61 : decode qc_E_surveyPairs 61 = .ok (.aload_n 0, 1) := by decide +kernel
theorem qd_E_surveyPairs_62 : decode qc_E_surveyPairs 62 = .ok (.getfield 12, 3) := by decide +kernel
theorem qd_E_surveyPairs_65 : decode qc_E_surveyPairs 65 = .ok (.iload 4, 2) := by decide +kernel
theorem qd_E_surveyPairs_67 : decode qc_E_surveyPairs 67 = .ok (.invokevirtual 59, 3) := by decide +kernel
theorem qd_E_surveyPairs_70 : decode qc_E_surveyPairs 70 = .ok (.iload_n 3, 1) := by decide +kernel
theorem qd_E_surveyPairs_71 : decode qc_E_surveyPairs 71 = .ok (.invokevirtual 44, 3) := by decide +kernel
theorem qd_E_surveyPairs_74 : decode qc_E_surveyPairs 74 = .ok (.ifCond .eq 12, 3) := by decide +kernel
theorem qd_E_surveyPairs_77 : decode qc_E_surveyPairs 77 = .ok (.aload_n 0, 1) := by decide +kernel
theorem qd_E_surveyPairs_78 : decode qc_E_surveyPairs 78 = .ok (.iload 4, 2) := by decide +kernel
theorem qd_E_surveyPairs_80 : decode qc_E_surveyPairs 80 = .ok (.invokevirtual 62, 3) := by decide +kernel
theorem qd_E_surveyPairs_83 : decode qc_E_surveyPairs 83 = .ok (.ifCond .ne 5, 3) := by decide +kernel
theorem qd_E_surveyPairs_86 : decode qc_E_surveyPairs 86 = .ok (.iconst 0, 1) := by decide +kernel
theorem qd_E_surveyPairs_87 : decode qc_E_surveyPairs 87 = .ok (.ireturn, 1) := by decide +kernel
theorem qd_E_surveyPairs_88 : decode qc_E_surveyPairs 88 = .ok (.iinc 4 1, 3) := by decide +kernel
theorem qd_E_surveyPairs_91 : decode qc_E_surveyPairs 91 = .ok (.goto (-67), 3) := by decide +kernel
theorem qd_E_surveyPairs_94 : decode qc_E_surveyPairs 94 = .ok (.iconst 1, 1) := by decide +kernel
theorem qd_E_surveyPairs_95 : decode qc_E_surveyPairs 95 = .ok (.ireturn, 1) := by decide +kernel
theorem qd_E_conclude_0 : decode qc_E_conclude 0 = .ok (.iload_n 1, 1) := by decide +kernel
theorem qd_E_conclude_1 : decode qc_E_conclude 1 = .ok (.ifCond .ne 10, 3) := by decide +kernel
theorem qd_E_conclude_4 : decode qc_E_conclude 4 = .ok (.aload_n 0, 1) := by decide +kernel
theorem qd_E_conclude_5 : decode qc_E_conclude 5 = .ok (.invokevirtual 65, 3) := by decide +kernel
theorem qd_E_conclude_8 : decode qc_E_conclude 8 = .ok (.bipush (-2), 2) := by decide +kernel
theorem qd_E_conclude_10 : decode qc_E_conclude 10 = .ok (.ireturn, 1) := by decide +kernel
theorem qd_E_conclude_11 : decode qc_E_conclude 11 = .ok (.aload_n 0, 1) := by decide +kernel
theorem qd_E_conclude_12 : decode qc_E_conclude 12 = .ok (.getfield 24, 3) := by decide +kernel
theorem qd_E_conclude_15 : decode qc_E_conclude 15 = .ok (.invokevirtual 66, 3) := by decide +kernel
theorem qd_E_conclude_18 : decode qc_E_conclude 18 = .ok (.aload_n 0, 1) := by decide +kernel
theorem qd_E_conclude_19 : decode qc_E_conclude 19 = .ok (.getfield 24, 3) := by decide +kernel
theorem qd_E_conclude_22 : decode qc_E_conclude 22 = .ok (.getfield 69, 3) := by decide +kernel
theorem qd_E_conclude_25 : decode qc_E_conclude 25 = .ok (.ireturn, 1) := by decide +kernel
theorem qd_E_waysOf_0 : decode qc_E_waysOf 0 = .ok (.iload_n 1, 1) := by decide +kernel
theorem qd_E_waysOf_1 : decode qc_E_waysOf 1 = .ok (.aload_n 0, 1) := by decide +kernel
theorem qd_E_waysOf_2 : decode qc_E_waysOf 2 = .ok (.getfield 35, 3) := by decide +kernel
theorem qd_E_waysOf_5 : decode qc_E_waysOf 5 = .ok (.iconst 1, 1) := by decide +kernel
theorem qd_E_waysOf_6 : decode qc_E_waysOf 6 = .ok (.isub, 1) := by decide +kernel
theorem qd_E_waysOf_7 : decode qc_E_waysOf 7 = .ok (.if_icmp .ne 13, 3) := by decide +kernel
theorem qd_E_waysOf_10 : decode qc_E_waysOf 10 = .ok (.aload_n 0, 1) := by decide +kernel
theorem qd_E_waysOf_11 : decode qc_E_waysOf 11 = .ok (.getfield 18, 3) := by decide +kernel
theorem qd_E_waysOf_14 : decode qc_E_waysOf 14 = .ok (.getfield 72, 3) := by decide +kernel
theorem qd_E_waysOf_17 : decode qc_E_waysOf 17 = .ok (.goto 10, 3) := by decide +kernel
theorem qd_E_waysOf_20 : decode qc_E_waysOf 20 = .ok (.aload_n 0, 1) := by decide +kernel
theorem qd_E_waysOf_21 : decode qc_E_waysOf 21 = .ok (.getfield 12, 3) := by decide +kernel
theorem qd_E_waysOf_24 : decode qc_E_waysOf 24 = .ok (.getfield 72, 3) := by decide +kernel
theorem qd_E_waysOf_27 : decode qc_E_waysOf 27 = .ok (.areturn, 1) := by decide +kernel
theorem qd_E_wayOn_0 : decode qc_E_wayOn 0 = .ok (.iload_n 2, 1) := by decide +kernel
theorem qd_E_wayOn_1 : decode qc_E_wayOn 1 = .ok (.aload_n 0, 1) := by decide +kernel
theorem qd_E_wayOn_2 : decode qc_E_wayOn 2 = .ok (.getfield 35, 3) := by decide +kernel
theorem qd_E_wayOn_5 : decode qc_E_wayOn 5 = .ok (.iconst 1, 1) := by decide +kernel
theorem qd_E_wayOn_6 : decode qc_E_wayOn 6 = .ok (.isub, 1) := by decide +kernel
theorem qd_E_wayOn_7 : decode qc_E_wayOn 7 = .ok (.if_icmp .ne 15, 3) := by decide +kernel
theorem qd_E_wayOn_10 : decode qc_E_wayOn 10 = .ok (.aload_n 0, 1) := by decide +kernel
theorem qd_E_wayOn_11 : decode qc_E_wayOn 11 = .ok (.getfield 24, 3) := by decide +kernel
theorem qd_E_wayOn_14 : decode qc_E_wayOn 14 = .ok (.getfield 76, 3) := by decide +kernel
theorem qd_E_wayOn_17 : decode qc_E_wayOn 17 = .ok (.iload_n 1, 1) := by decide +kernel
theorem qd_E_wayOn_18 : decode qc_E_wayOn 18 = .ok (.iaload, 1) := by decide +kernel
theorem qd_E_wayOn_19 : decode qc_E_wayOn 19 = .ok (.goto 12, 3) := by decide +kernel
theorem qd_E_wayOn_22 : decode qc_E_wayOn 22 = .ok (.aload_n 0, 1) := by decide +kernel
theorem qd_E_wayOn_23 : decode qc_E_wayOn 23 = .ok (.getfield 24, 3) := by decide +kernel
theorem qd_E_wayOn_26 : decode qc_E_wayOn 26 = .ok (.getfield 79, 3) := by decide +kernel
theorem qd_E_wayOn_29 : decode qc_E_wayOn 29 = .ok (.iload_n 1, 1) := by decide +kernel
theorem qd_E_wayOn_30 : decode qc_E_wayOn 30 = .ok (.iaload, 1) := by decide +kernel
theorem qd_E_wayOn_31 : decode qc_E_wayOn 31 = .ok (.ireturn, 1) := by decide +kernel
theorem qd_E_countFollowersOfAllAlike_0 : decode qc_E_countFollowersOfAllAlike 0 = .ok (.iload_n 1, 1) := by decide +kernel
theorem qd_E_countFollowersOfAllAlike_1 : decode qc_E_countFollowersOfAllAlike 1 = .ok (.istore_n 2, 1) := by decide +kernel
theorem qd_E_countFollowersOfAllAlike_2 : decode qc_E_countFollowersOfAllAlike 2 = .ok (.iload_n 2, 1) := by decide +kernel
theorem qd_E_countFollowersOfAllAlike_3 : decode qc_E_countFollowersOfAllAlike 3 = .ok (.bipush 64, 2) := by decide +kernel
theorem qd_E_countFollowersOfAllAlike_5 : decode qc_E_countFollowersOfAllAlike 5 = .ok (.if_icmp .ge 31, 3) := by decide +kernel
theorem qd_E_countFollowersOfAllAlike_8 : decode qc_E_countFollowersOfAllAlike 8 = .ok (.aload_n 0, 1) := by decide +kernel
theorem qd_E_countFollowersOfAllAlike_9 : decode qc_E_countFollowersOfAllAlike 9 = .ok (.getfield 12, 3) := by decide +kernel
theorem qd_E_countFollowersOfAllAlike_12 : decode qc_E_countFollowersOfAllAlike 12 = .ok (.iload_n 1, 1) := by decide +kernel
theorem qd_E_countFollowersOfAllAlike_13 : decode qc_E_countFollowersOfAllAlike 13 = .ok (.iload_n 2, 1) := by decide +kernel
theorem qd_E_countFollowersOfAllAlike_14 : decode qc_E_countFollowersOfAllAlike 14 = .ok (.invokevirtual 82, 3) := by decide +kernel
theorem qd_E_countFollowersOfAllAlike_17 : decode qc_E_countFollowersOfAllAlike 17 = .ok (.ifCond .eq 13, 3) := by decide +kernel
theorem qd_E_countFollowersOfAllAlike_20 : decode qc_E_countFollowersOfAllAlike 20 = .ok (.aload_n 0, 1) := by decide +kernel
theorem qd_E_countFollowersOfAllAlike_21 : decode qc_E_countFollowersOfAllAlike 21 = .ok (.iload_n 2, 1) := by decide +kernel
theorem qd_E_countFollowersOfAllAlike_22 : decode qc_E_countFollowersOfAllAlike 22 = .ok (.invokevirtual 48, 3) := by decide +kernel
theorem qd_E_countFollowersOfAllAlike_25 : decode qc_E_countFollowersOfAllAlike 25 = .ok (.ifCond .ne 5, 3) := by decide +kernel
theorem qd_E_countFollowersOfAllAlike_28 : decode qc_E_countFollowersOfAllAlike 28 = .ok (.iconst 0, 1) := by decide +kernel
theorem qd_E_countFollowersOfAllAlike_29 : decode qc_E_countFollowersOfAllAlike 29 = .ok (.ireturn, 1) := by decide +kernel
theorem qd_E_countFollowersOfAllAlike_30 : decode qc_E_countFollowersOfAllAlike 30 = .ok (.iinc 2 1, 3) := by decide +kernel
theorem qd_E_countFollowersOfAllAlike_33 : decode qc_E_countFollowersOfAllAlike 33 = .ok (.goto (-31), 3) := by decide +kernel
theorem qd_E_countFollowersOfAllAlike_36 : decode qc_E_countFollowersOfAllAlike 36 = .ok (.iconst 1, 1) := by decide +kernel
theorem qd_E_countFollowersOfAllAlike_37 : decode qc_E_countFollowersOfAllAlike 37 = .ok (.ireturn, 1) := by decide +kernel
theorem qd_E_countFollowers_0 : decode qc_E_countFollowers 0 = .ok (.iconst 0, 1) := by decide +kernel
theorem qd_E_countFollowers_1 : decode qc_E_countFollowers 1 = .ok (.istore_n 2, 1) := by decide +kernel
theorem qd_E_countFollowers_2 : decode qc_E_countFollowers 2 = .ok (.iload_n 2, 1) := by decide +kernel
theorem qd_E_countFollowers_3 : decode qc_E_countFollowers 3 = .ok (.bipush 64, 2) := by decide +kernel
theorem qd_E_countFollowers_5 : decode qc_E_countFollowers 5 = .ok (.if_icmp .ge 121, 3) := by decide +kernel
theorem qd_E_countFollowers_8 : decode qc_E_countFollowers 8 = .ok (.iload_n 1, 1) := by decide +kernel
theorem qd_E_countFollowers_9 : decode qc_E_countFollowers 9 = .ok (.bipush 64, 2) := by decide +kernel
theorem qd_E_countFollowers_11 : decode qc_E_countFollowers 11 = .ok (.imul, 1) := by decide +kernel
theorem qd_E_countFollowers_12 : decode qc_E_countFollowers 12 = .ok (.iload_n 2, 1) := by decide +kernel
theorem qd_E_countFollowers_13 : decode qc_E_countFollowers 13 = .ok (.iadd, 1) := by decide +kernel
theorem qd_E_countFollowers_14 : decode qc_E_countFollowers 14 = .ok (.istore_n 3, 1) := by decide +kernel
theorem qd_E_countFollowers_15 : decode qc_E_countFollowers 15 = .ok (.aload_n 0, 1) := by decide +kernel
theorem qd_E_countFollowers_16 : decode qc_E_countFollowers 16 = .ok (.getfield 24, 3) := by decide +kernel
theorem qd_E_countFollowers_19 : decode qc_E_countFollowers 19 = .ok (.aload_n 0, 1) := by decide +kernel
theorem qd_E_countFollowers_20 : decode qc_E_countFollowers 20 = .ok (.getfield 12, 3) := by decide +kernel
theorem qd_E_countFollowers_23 : decode qc_E_countFollowers 23 = .ok (.getfield 86, 3) := by decide +kernel
theorem qd_E_countFollowers_26 : decode qc_E_countFollowers 26 = .ok (.iload_n 1, 1) := by decide +kernel
theorem qd_E_countFollowers_27 : decode qc_E_countFollowers 27 = .ok (.iaload, 1) := by decide +kernel
theorem qd_E_countFollowers_28 : decode qc_E_countFollowers 28 = .ok (.aload_n 0, 1) := by decide +kernel
theorem qd_E_countFollowers_29 : decode qc_E_countFollowers 29 = .ok (.getfield 18, 3) := by decide +kernel
theorem qd_E_countFollowers_32 : decode qc_E_countFollowers 32 = .ok (.getfield 86, 3) := by decide +kernel
theorem qd_E_countFollowers_35 : decode qc_E_countFollowers 35 = .ok (.iload_n 2, 1) := by decide +kernel
theorem qd_E_countFollowers_36 : decode qc_E_countFollowers 36 = .ok (.iaload, 1) := by decide +kernel
theorem qd_E_countFollowers_37 : decode qc_E_countFollowers 37 = .ok (.iload_n 3, 1) := by decide +kernel
theorem qd_E_countFollowers_38 : decode qc_E_countFollowers 38 = .ok (.aload_n 0, 1) := by decide +kernel
theorem qd_E_countFollowers_39 : decode qc_E_countFollowers 39 = .ok (.getfield 18, 3) := by decide +kernel
theorem qd_E_countFollowers_42 : decode qc_E_countFollowers 42 = .ok (.getfield 55, 3) := by decide +kernel
theorem qd_E_countFollowers_45 : decode qc_E_countFollowers 45 = .ok (.iload_n 2, 1) := by decide +kernel
theorem qd_E_countFollowers_46 : decode qc_E_countFollowers 46 = .ok (.iaload, 1) := by decide +kernel
theorem qd_E_countFollowers_47 : decode qc_E_countFollowers 47 = .ok (.invokevirtual 89, 3) := by decide +kernel
theorem qd_E_countFollowers_50 : decode qc_E_countFollowers 50 = .ok (.istore 4, 2) := by decide +kernel
theorem qd_E_countFollowers_52 : decode qc_E_countFollowers 52 = .ok (.iload 4, 2) := by decide +kernel
theorem qd_E_countFollowers_54 : decode qc_E_countFollowers 54 = .ok (.iconst (-1), 1) := by decide +kernel
theorem qd_E_countFollowers_55 : decode qc_E_countFollowers 55 = .ok (.if_icmp .ne 5, 3) := by decide +kernel
theorem qd_E_countFollowers_58 : decode qc_E_countFollowers 58 = .ok (.iconst 0, 1) := by decide +kernel
theorem qd_E_countFollowers_59 : decode qc_E_countFollowers 59 = .ok (.ireturn, 1) := by decide +kernel
theorem qd_E_countFollowers_60 : decode qc_E_countFollowers 60 = .ok (.iconst 0, 1) := by decide +kernel
theorem qd_E_countFollowers_61 : decode qc_E_countFollowers 61 = .ok (.istore 5, 2) := by decide +kernel
theorem qd_E_countFollowers_63 : decode qc_E_countFollowers 63 = .ok (.iload 5, 2) := by decide +kernel
theorem qd_E_countFollowers_65 : decode qc_E_countFollowers 65 = .ok (.iconst 5, 1) := by decide +kernel
theorem qd_E_countFollowers_66 : decode qc_E_countFollowers 66 = .ok (.if_icmp .ge 54, 3) := by decide +kernel
theorem qd_E_countFollowers_69 : decode qc_E_countFollowers 69 = .ok (.aload_n 0, 1) := by decide +kernel
theorem qd_E_countFollowers_70 : decode qc_E_countFollowers 70 = .ok (.getfield 12, 3) := by decide +kernel
theorem qd_E_countFollowers_73 : decode qc_E_countFollowers 73 = .ok (.getfield 93, 3) := by decide +kernel
theorem qd_E_countFollowers_76 : decode qc_E_countFollowers 76 = .ok (.iload_n 1, 1) := by decide +kernel
theorem qd_E_countFollowers_77 : decode qc_E_countFollowers 77 = .ok (.iconst 5, 1) := by decide +kernel
theorem qd_E_countFollowers_78 : decode qc_E_countFollowers 78 = .ok (.imul, 1) := by decide +kernel
theorem qd_E_countFollowers_79 : decode qc_E_countFollowers 79 = .ok (.iload 5, 2) := by decide +kernel
theorem qd_E_countFollowers_81 : decode qc_E_countFollowers 81 = .ok (.iadd, 1) := by decide +kernel
theorem qd_E_countFollowers_82 : decode qc_E_countFollowers 82 = .ok (.iaload, 1) := by decide +kernel
theorem qd_E_countFollowers_83 : decode qc_E_countFollowers 83 = .ok (.aload_n 0, 1) := by decide +kernel
theorem qd_E_countFollowers_84 : decode qc_E_countFollowers 84 = .ok (.getfield 18, 3) := by decide +kernel
theorem qd_E_countFollowers_87 : decode qc_E_countFollowers 87 = .ok (.getfield 93, 3) := by decide +kernel
theorem qd_E_countFollowers_90 : decode qc_E_countFollowers 90 = .ok (.iload_n 2, 1) := by decide +kernel
theorem qd_E_countFollowers_91 : decode qc_E_countFollowers 91 = .ok (.iconst 5, 1) := by decide +kernel
theorem qd_E_countFollowers_92 : decode qc_E_countFollowers 92 = .ok (.imul, 1) := by decide +kernel
theorem qd_E_countFollowers_93 : decode qc_E_countFollowers 93 = .ok (.iload 5, 2) := by decide +kernel
theorem qd_E_countFollowers_95 : decode qc_E_countFollowers 95 = .ok (.iadd, 1) := by decide +kernel
theorem qd_E_countFollowers_96 : decode qc_E_countFollowers 96 = .ok (.iaload, 1) := by decide +kernel
theorem qd_E_countFollowers_97 : decode qc_E_countFollowers 97 = .ok (.ior, 1) := by decide +kernel
theorem qd_E_countFollowers_98 : decode qc_E_countFollowers 98 = .ok (.istore 6, 2) := by decide +kernel
theorem qd_E_countFollowers_100 : decode qc_E_countFollowers 100 = .ok (.aload_n 0, 1) := by decide +kernel
theorem qd_E_countFollowers_101 : decode qc_E_countFollowers 101 = .ok (.getfield 31, 3) := by decide +kernel
theorem qd_E_countFollowers_104 : decode qc_E_countFollowers 104 = .ok (.iload 4, 2) := by decide +kernel
theorem qd_E_countFollowers_106 : decode qc_E_countFollowers 106 = .ok (.iload 5, 2) := by decide +kernel
theorem qd_E_countFollowers_108 : decode qc_E_countFollowers 108 = .ok (.iload 6, 2) := by decide +kernel
theorem qd_E_countFollowers_110 : decode qc_E_countFollowers 110 = .ok (.iload_n 3, 1) := by decide +kernel
theorem qd_E_countFollowers_111 : decode qc_E_countFollowers 111 = .ok (.invokevirtual 96, 3) := by decide +kernel
theorem qd_E_countFollowers_114 : decode qc_E_countFollowers 114 = .ok (.iinc 5 1, 3) := by decide +kernel
theorem qd_E_countFollowers_117 : decode qc_E_countFollowers 117 = .ok (.goto (-54), 3) := by decide +kernel
theorem qd_E_countFollowers_120 : decode qc_E_countFollowers 120 = .ok (.iinc 2 1, 3) := by decide +kernel
theorem qd_E_countFollowers_123 : decode qc_E_countFollowers 123 = .ok (.goto (-121), 3) := by decide +kernel
theorem qd_E_countFollowers_126 : decode qc_E_countFollowers 126 = .ok (.iconst 1, 1) := by decide +kernel
theorem qd_E_countFollowers_127 : decode qc_E_countFollowers 127 = .ok (.ireturn, 1) := by decide +kernel
theorem qd_P_init_0 : decode qc_P_init 0 = .ok (.aload_n 0, 1) := by decide +kernel
theorem qd_P_init_1 : decode qc_P_init 1 = .ok (.invokespecial 3, 3) := by decide +kernel
theorem qd_P_init_4 : decode qc_P_init 4 = .ok (.aload_n 0, 1) := by decide +kernel
theorem qd_P_init_5 : decode qc_P_init 5 = .ok (.sipush 1600, 3) := by decide +kernel
theorem qd_P_init_8 : decode qc_P_init 8 = .ok (.newarray .int, 2) := by decide +kernel
theorem qd_P_init_10 : decode qc_P_init 10 = .ok (.putfield 9, 3) := by decide +kernel
theorem qd_P_init_13 : decode qc_P_init 13 = .ok (.aload_n 0, 1) := by decide +kernel
theorem qd_P_init_14 : decode qc_P_init 14 = .ok (.bipush 40, 2) := by decide +kernel
theorem qd_P_init_16 : decode qc_P_init 16 = .ok (.newarray .int, 2) := by decide +kernel
theorem qd_P_init_18 : decode qc_P_init 18 = .ok (.putfield 15, 3) := by decide +kernel
theorem qd_P_init_21 : decode qc_P_init 21 = .ok (.aload_n 0, 1) := by decide +kernel
theorem qd_P_init_22 : decode qc_P_init 22 = .ok (.bipush 40, 2) := by decide +kernel
theorem qd_P_init_24 : decode qc_P_init 24 = .ok (.newarray .int, 2) := by decide +kernel
theorem qd_P_init_26 : decode qc_P_init 26 = .ok (.putfield 18, 3) := by decide +kernel
theorem qd_P_init_29 : decode qc_P_init 29 = .ok (.aload_n 0, 1) := by decide +kernel
theorem qd_P_init_30 : decode qc_P_init 30 = .ok (.bipush 40, 2) := by decide +kernel
theorem qd_P_init_32 : decode qc_P_init 32 = .ok (.newarray .int, 2) := by decide +kernel
theorem qd_P_init_34 : decode qc_P_init 34 = .ok (.putfield 21, 3) := by decide +kernel
theorem qd_P_init_37 : decode qc_P_init 37 = .ok (.aload_n 0, 1) := by decide +kernel
theorem qd_P_init_38 : decode qc_P_init 38 = .ok (.bipush 40, 2) := by decide +kernel
theorem qd_P_init_40 : decode qc_P_init 40 = .ok (.newarray .int, 2) := by decide +kernel
theorem qd_P_init_42 : decode qc_P_init 42 = .ok (.putfield 24, 3) := by decide +kernel
theorem qd_P_init_45 : decode qc_P_init 45 = .ok (.aload_n 0, 1) := by decide +kernel
theorem qd_P_init_46 : decode qc_P_init 46 = .ok (.bipush 40, 2) := by decide +kernel
theorem qd_P_init_48 : decode qc_P_init 48 = .ok (.newarray .int, 2) := by decide +kernel
theorem qd_P_init_50 : decode qc_P_init 50 = .ok (.putfield 27, 3) := by decide +kernel
theorem qd_P_init_53 : decode qc_P_init 53 = .ok (.aload_n 0, 1) := by decide +kernel
theorem qd_P_init_54 : decode qc_P_init 54 = .ok (.bipush 40, 2) := by decide +kernel
theorem qd_P_init_56 : decode qc_P_init 56 = .ok (.newarray .int, 2) := by decide +kernel
theorem qd_P_init_58 : decode qc_P_init 58 = .ok (.putfield 30, 3) := by decide +kernel
theorem qd_P_init_61 : decode qc_P_init 61 = .ok (.aload_n 0, 1) := by decide +kernel
theorem qd_P_init_62 : decode qc_P_init 62 = .ok (.bipush 40, 2) := by decide +kernel
theorem qd_P_init_64 : decode qc_P_init 64 = .ok (.newarray .int, 2) := by decide +kernel
theorem qd_P_init_66 : decode qc_P_init 66 = .ok (.putfield 33, 3) := by decide +kernel
theorem qd_P_init_69 : decode qc_P_init 69 = .ok (.aload_n 0, 1) := by decide +kernel
theorem qd_P_init_70 : decode qc_P_init 70 = .ok (.iconst 0, 1) := by decide +kernel
theorem qd_P_init_71 : decode qc_P_init 71 = .ok (.putfield 36, 3) := by decide +kernel
theorem qd_P_init_74 : decode qc_P_init 74 = .ok (.return_, 1) := by decide +kernel
theorem qd_P_forget_0 : decode qc_P_forget 0 = .ok (.aload_n 0, 1) := by decide +kernel
theorem qd_P_forget_1 : decode qc_P_forget 1 = .ok (.iconst 0, 1) := by decide +kernel
theorem qd_P_forget_2 : decode qc_P_forget 2 = .ok (.putfield 36, 3) := by decide +kernel
theorem qd_P_forget_5 : decode qc_P_forget 5 = .ok (.aload_n 0, 1) := by decide +kernel
theorem qd_P_forget_6 : decode qc_P_forget 6 = .ok (.getfield 9, 3) := by decide +kernel
theorem qd_P_forget_9 : decode qc_P_forget 9 = .ok (.iconst (-1), 1) := by decide +kernel
theorem qd_P_forget_10 : decode qc_P_forget 10 = .ok (.invokestatic 40, 3) := by decide +kernel
theorem qd_P_forget_13 : decode qc_P_forget 13 = .ok (.return_, 1) := by decide +kernel
theorem qd_P_rowOf_0 : decode qc_P_rowOf 0 = .ok (.iload_n 1, 1) := by decide +kernel
theorem qd_P_rowOf_1 : decode qc_P_rowOf 1 = .ok (.aload_n 0, 1) := by decide +kernel
theorem qd_P_rowOf_2 : decode qc_P_rowOf 2 = .ok (.getfield 36, 3) := by decide +kernel
theorem qd_P_rowOf_5 : decode qc_P_rowOf 5 = .ok (.invokestatic 46, 3) := by decide +kernel
theorem qd_P_rowOf_8 : decode qc_P_rowOf 8 = .ok (.ifCond .eq 12, 3) := by decide +kernel
theorem qd_P_rowOf_11 : decode qc_P_rowOf 11 = .ok (.aload_n 0, 1) := by decide +kernel
theorem qd_P_rowOf_12 : decode qc_P_rowOf 12 = .ok (.getfield 33, 3) := by decide +kernel
theorem qd_P_rowOf_15 : decode qc_P_rowOf 15 = .ok (.iload_n 1, 1) := by decide +kernel
theorem qd_P_rowOf_16 : decode qc_P_rowOf 16 = .ok (.iaload, 1) := by decide +kernel
theorem qd_P_rowOf_17 : decode qc_P_rowOf 17 = .ok (.goto 4, 3) := by decide +kernel
theorem qd_P_rowOf_20 : decode qc_P_rowOf 20 = .ok (.iconst (-1), 1) := by decide +kernel
theorem qd_P_rowOf_21 : decode qc_P_rowOf 21 = .ok (.ireturn, 1) := by decide +kernel
theorem qd_P_meet_0 : decode qc_P_meet 0 = .ok (.aload_n 0, 1) := by decide +kernel
theorem qd_P_meet_1 : decode qc_P_meet 1 = .ok (.getfield 9, 3) := by decide +kernel
theorem qd_P_meet_4 : decode qc_P_meet 4 = .ok (.iload_n 1, 1) := by decide +kernel
theorem qd_P_meet_5 : decode qc_P_meet 5 = .ok (.bipush 40, 2) := by decide +kernel
theorem qd_P_meet_7 : decode qc_P_meet 7 = .ok (.imul, 1) := by decide +kernel
theorem qd_P_meet_8 : decode qc_P_meet 8 = .ok (.iload_n 2, 1) := by decide +kernel
theorem qd_P_meet_9 : decode qc_P_meet 9 = .ok (.iadd, 1) := by decide +kernel
theorem qd_P_meet_10 : decode qc_P_meet 10 = .ok (.iaload, 1) := by decide +kernel
theorem qd_P_meet_11 : decode qc_P_meet 11 = .ok (.istore 5, 2) := by decide +kernel
theorem qd_P_meet_13 : decode qc_P_meet 13 = .ok (.iload 5, 2) := by decide +kernel
theorem qd_P_meet_15 : decode qc_P_meet 15 = .ok (.iconst (-1), 1) := by decide +kernel
theorem qd_P_meet_16 : decode qc_P_meet 16 = .ok (.if_icmp .ne 13, 3) := by decide +kernel
theorem qd_P_meet_19 : decode qc_P_meet 19 = .ok (.aload_n 0, 1) := by decide +kernel
theorem qd_P_meet_20 : decode qc_P_meet 20 = .ok (.iload_n 1, 1) := by decide +kernel
theorem qd_P_meet_21 : decode qc_P_meet 21 = .ok (.iload_n 2, 1) := by decide +kernel
theorem qd_P_meet_22 : decode qc_P_meet 22 = .ok (.iload_n 3, 1) := by decide +kernel
theorem qd_P_meet_23 : decode qc_P_meet 23 = .ok (.iload 4, 2) := by decide +kernel
theorem qd_P_meet_25 : decode qc_P_meet 25 = .ok (.invokevirtual 50, 3) := by decide +kernel
theorem qd_P_meet_28 : decode qc_P_meet 28 = .ok (.ireturn, 1) := by decide +kernel
theorem qd_P_meet_29 : decode qc_P_meet 29 = .ok (.aload_n 0, 1) := by decide +kernel
theorem qd_P_meet_30 : decode qc_P_meet 30 = .ok (.getfield 21, 3) := by decide +kernel
theorem qd_P_meet_33 : decode qc_P_meet 33 = .ok (.iload 5, 2) := by decide +kernel
theorem qd_P_meet_35 : decode qc_P_meet 35 = .ok (.dup2, 1) := by decide +kernel
theorem qd_P_meet_36 : decode qc_P_meet 36 = .ok (.iaload, 1) := by decide +kernel
theorem qd_P_meet_37 : decode qc_P_meet 37 = .ok (.iconst 1, 1) := by decide +kernel
theorem qd_P_meet_38 : decode qc_P_meet 38 = .ok (.iadd, 1) := by decide +kernel
theorem qd_P_meet_39 : decode qc_P_meet 39 = .ok (.iastore, 1) := by decide +kernel
theorem qd_P_meet_40 : decode qc_P_meet 40 = .ok (.aload_n 0, 1) := by decide +kernel
theorem qd_P_meet_41 : decode qc_P_meet 41 = .ok (.getfield 30, 3) := by decide +kernel
theorem qd_P_meet_44 : decode qc_P_meet 44 = .ok (.iload 5, 2) := by decide +kernel
theorem qd_P_meet_46 : decode qc_P_meet 46 = .ok (.dup2, 1) := by decide +kernel
theorem qd_P_meet_47 : decode qc_P_meet 47 = .ok (.iaload, 1) := by decide +kernel
theorem qd_P_meet_48 : decode qc_P_meet 48 = .ok (.aload_n 0, 1) := by decide +kernel
theorem qd_P_meet_49 : decode qc_P_meet 49 = .ok (.getfield 27, 3) := by decide +kernel
theorem qd_P_meet_52 : decode qc_P_meet 52 = .ok (.iload 5, 2) := by decide +kernel
theorem qd_P_meet_54 : decode qc_P_meet 54 = .ok (.iaload, 1) := by decide +kernel
theorem qd_P_meet_55 : decode qc_P_meet 55 = .ok (.iload 4, 2) := by decide +kernel
theorem qd_P_meet_57 : decode qc_P_meet 57 = .ok (.ixor, 1) := by decide +kernel
theorem qd_P_meet_58 : decode qc_P_meet 58 = .ok (.ior, 1) := by decide +kernel
theorem qd_P_meet_59 : decode qc_P_meet 59 = .ok (.iastore, 1) := by decide +kernel
theorem qd_P_meet_60 : decode qc_P_meet 60 = .ok (.iload_n 3, 1) := by decide +kernel
theorem qd_P_meet_61 : decode qc_P_meet 61 = .ok (.aload_n 0, 1) := by decide +kernel
theorem qd_P_meet_62 : decode qc_P_meet 62 = .ok (.getfield 24, 3) := by decide +kernel
theorem qd_P_meet_65 : decode qc_P_meet 65 = .ok (.iload 5, 2) := by decide +kernel
theorem qd_P_meet_67 : decode qc_P_meet 67 = .ok (.iaload, 1) := by decide +kernel
theorem qd_P_meet_68 : decode qc_P_meet 68 = .ok (.if_icmp .ge 20, 3) := by decide +kernel
theorem qd_P_meet_71 : decode qc_P_meet 71 = .ok (.aload_n 0, 1) := by decide +kernel
theorem qd_P_meet_72 : decode qc_P_meet 72 = .ok (.getfield 24, 3) := by decide +kernel
theorem qd_P_meet_75 : decode qc_P_meet 75 = .ok (.iload 5, 2) := by decide +kernel
theorem qd_P_meet_77 : decode qc_P_meet 77 = .ok (.iload_n 3, 1) := by decide +kernel
theorem qd_P_meet_78 : decode qc_P_meet 78 = .ok (.iastore, 1) := by decide +kernel
theorem qd_P_meet_79 : decode qc_P_meet 79 = .ok (.aload_n 0, 1) := by decide +kernel
theorem qd_P_meet_80 : decode qc_P_meet 80 = .ok (.getfield 27, 3) := by decide +kernel
theorem qd_P_meet_83 : decode qc_P_meet 83 = .ok (.iload 5, 2) := by decide +kernel
theorem qd_P_meet_85 : decode qc_P_meet 85 = .ok (.iload 4, 2) := by decide +kernel
theorem qd_P_meet_87 : decode qc_P_meet 87 = .ok (.iastore, 1) := by decide +kernel
theorem qd_P_meet_88 : decode qc_P_meet 88 = .ok (.iload 5, 2) := by decide +kernel
theorem qd_P_meet_90 : decode qc_P_meet 90 = .ok (.ireturn, 1) := by decide +kernel
theorem qd_P_open_0 : decode qc_P_open 0 = .ok (.aload_n 0, 1) := by decide +kernel
theorem qd_P_open_1 : decode qc_P_open 1 = .ok (.getfield 36, 3) := by decide +kernel
theorem qd_P_open_4 : decode qc_P_open 4 = .ok (.bipush 40, 2) := by decide +kernel
theorem qd_P_open_6 : decode qc_P_open 6 = .ok (.if_icmp .lt 5, 3) := by decide +kernel
theorem qd_P_open_9 : decode qc_P_open 9 = .ok (.iconst (-1), 1) := by decide +kernel
theorem qd_P_open_10 : decode qc_P_open 10 = .ok (.ireturn, 1) := by decide +kernel
theorem qd_P_open_11 : decode qc_P_open 11 = .ok (.aload_n 0, 1) := by decide +kernel
theorem qd_P_open_12 : decode qc_P_open 12 = .ok (.getfield 36, 3) := by decide +kernel
theorem qd_P_open_15 : decode qc_P_open 15 = .ok (.istore 5, 2) := by decide +kernel
theorem qd_P_open_17 : decode qc_P_open 17 = .ok (.aload_n 0, 1) := by decide +kernel
theorem qd_P_open_18 : decode qc_P_open 18 = .ok (.dup, 1) := by decide +kernel
theorem qd_P_open_19 : decode qc_P_open 19 = .ok (.getfield 36, 3) := by decide +kernel
theorem qd_P_open_22 : decode qc_P_open 22 = .ok (.iconst 1, 1) := by decide +kernel
theorem qd_P_open_23 : decode qc_P_open 23 = .ok (.iadd, 1) := by decide +kernel
theorem qd_P_open_24 : decode qc_P_open 24 = .ok (.putfield 36, 3) := by decide +kernel
theorem qd_P_open_27 : decode qc_P_open 27 = .ok (.aload_n 0, 1) := by decide +kernel
theorem qd_P_open_28 : decode qc_P_open 28 = .ok (.getfield 9, 3) := by decide +kernel
theorem qd_P_open_31 : decode qc_P_open 31 = .ok (.iload_n 1, 1) := by decide +kernel
theorem qd_P_open_32 : decode qc_P_open 32 = .ok (.bipush 40, 2) := by decide +kernel
theorem qd_P_open_34 : decode qc_P_open 34 = .ok (.imul, 1) := by decide +kernel
theorem qd_P_open_35 : decode qc_P_open 35 = .ok (.iload_n 2, 1) := by decide +kernel
theorem qd_P_open_36 : decode qc_P_open 36 = .ok (.iadd, 1) := by decide +kernel
theorem qd_P_open_37 : decode qc_P_open 37 = .ok (.iload 5, 2) := by decide +kernel
theorem qd_P_open_39 : decode qc_P_open 39 = .ok (.iastore, 1) := by decide +kernel
theorem qd_P_open_40 : decode qc_P_open 40 = .ok (.aload_n 0, 1) := by decide +kernel
theorem qd_P_open_41 : decode qc_P_open 41 = .ok (.getfield 15, 3) := by decide +kernel
theorem qd_P_open_44 : decode qc_P_open 44 = .ok (.iload 5, 2) := by decide +kernel
theorem qd_P_open_46 : decode qc_P_open 46 = .ok (.iload_n 1, 1) := by decide +kernel
theorem qd_P_open_47 : decode qc_P_open 47 = .ok (.iastore, 1) := by decide +kernel
theorem qd_P_open_48 : decode qc_P_open 48 = .ok (.aload_n 0, 1) := by decide +kernel
theorem qd_P_open_49 : decode qc_P_open 49 = .ok (.getfield 18, 3) := by decide +kernel
theorem qd_P_open_52 : decode qc_P_open 52 = .ok (.iload 5, 2) := by decide +kernel
theorem qd_P_open_54 : decode qc_P_open 54 = .ok (.iload_n 2, 1) := by decide +kernel
theorem qd_P_open_55 : decode qc_P_open 55 = .ok (.iastore, 1) := by decide +kernel
theorem qd_P_open_56 : decode qc_P_open 56 = .ok (.aload_n 0, 1) := by decide +kernel
theorem qd_P_open_57 : decode qc_P_open 57 = .ok (.getfield 21, 3) := by decide +kernel
theorem qd_P_open_60 : decode qc_P_open 60 = .ok (.iload 5, 2) := by decide +kernel
theorem qd_P_open_62 : decode qc_P_open 62 = .ok (.iconst 1, 1) := by decide +kernel
theorem qd_P_open_63 : decode qc_P_open 63 = .ok (.iastore, 1) := by decide +kernel
theorem qd_P_open_64 : decode qc_P_open 64 = .ok (.aload_n 0, 1) := by decide +kernel
theorem qd_P_open_65 : decode qc_P_open 65 = .ok (.getfield 24, 3) := by decide +kernel
theorem qd_P_open_68 : decode qc_P_open 68 = .ok (.iload 5, 2) := by decide +kernel
theorem qd_P_open_70 : decode qc_P_open 70 = .ok (.iload_n 3, 1) := by decide +kernel
theorem qd_P_open_71 : decode qc_P_open 71 = .ok (.iastore, 1) := by decide +kernel
theorem qd_P_open_72 : decode qc_P_open 72 = .ok (.aload_n 0, 1) := by decide +kernel
theorem qd_P_open_73 : decode qc_P_open 73 = .ok (.getfield 27, 3) := by decide +kernel
theorem qd_P_open_76 : decode qc_P_open 76 = .ok (.iload 5, 2) := by decide +kernel
theorem qd_P_open_78 : decode qc_P_open 78 = .ok (.iload 4, 2) := by decide +kernel
theorem qd_P_open_80 : decode qc_P_open 80 = .ok (.iastore, 1) := by decide +kernel
theorem qd_P_open_81 : decode qc_P_open 81 = .ok (.aload_n 0, 1) := by decide +kernel
theorem qd_P_open_82 : decode qc_P_open 82 = .ok (.getfield 30, 3) := by decide +kernel
theorem qd_P_open_85 : decode qc_P_open 85 = .ok (.iload 5, 2) := by decide +kernel
theorem qd_P_open_87 : decode qc_P_open 87 = .ok (.iconst 0, 1) := by decide +kernel
theorem qd_P_open_88 : decode qc_P_open 88 = .ok (.iastore, 1) := by decide +kernel
theorem qd_P_open_89 : decode qc_P_open 89 = .ok (.iload 5, 2) := by decide +kernel
theorem qd_P_open_91 : decode qc_P_open 91 = .ok (.ireturn, 1) := by decide +kernel
theorem qd_P_putInOrder_0 : decode qc_P_putInOrder 0 = .ok (.iconst 0, 1) := by decide +kernel
theorem qd_P_putInOrder_1 : decode qc_P_putInOrder 1 = .ok (.istore_n 1, 1) := by decide +kernel
theorem qd_P_putInOrder_2 : decode qc_P_putInOrder 2 = .ok (.iload_n 1, 1) := by decide +kernel
theorem qd_P_putInOrder_3 : decode qc_P_putInOrder 3 = .ok (.aload_n 0, 1) := by decide +kernel
theorem qd_P_putInOrder_4 : decode qc_P_putInOrder 4 = .ok (.getfield 36, 3) := by decide +kernel
theorem qd_P_putInOrder_7 : decode qc_P_putInOrder 7 = .ok (.if_icmp .ge 52, 3) := by decide +kernel
theorem qd_P_putInOrder_10 : decode qc_P_putInOrder 10 = .ok (.iconst 0, 1) := by decide +kernel
theorem qd_P_putInOrder_11 : decode qc_P_putInOrder 11 = .ok (.istore_n 2, 1) := by decide +kernel
theorem qd_P_putInOrder_12 : decode qc_P_putInOrder 12 = .ok (.iconst 0, 1) := by decide +kernel
theorem qd_P_putInOrder_13 : decode qc_P_putInOrder 13 = .ok (.istore_n 3, 1) := by decide +kernel
theorem qd_P_putInOrder_14 : decode qc_P_putInOrder 14 = .ok (.iload_n 3, 1) := by decide +kernel
theorem qd_P_putInOrder_15 : decode qc_P_putInOrder 15 = .ok (.aload_n 0, 1) := by decide +kernel
theorem qd_P_putInOrder_16 : decode qc_P_putInOrder 16 = .ok (.getfield 36, 3) := by decide +kernel
theorem qd_P_putInOrder_19 : decode qc_P_putInOrder 19 = .ok (.if_icmp .ge 27, 3) := by decide +kernel
theorem qd_P_putInOrder_22 : decode qc_P_putInOrder 22 = .ok (.aload_n 0, 1) := by decide +kernel
theorem qd_P_putInOrder_23 : decode qc_P_putInOrder 23 = .ok (.getfield 24, 3) := by decide +kernel
theorem qd_P_putInOrder_26 : decode qc_P_putInOrder 26 = .ok (.iload_n 3, 1) := by decide +kernel
theorem qd_P_putInOrder_27 : decode qc_P_putInOrder 27 = .ok (.iaload, 1) := by decide +kernel
theorem qd_P_putInOrder_28 : decode qc_P_putInOrder 28 = .ok (.aload_n 0, 1) := by decide +kernel
theorem qd_P_putInOrder_29 : decode qc_P_putInOrder 29 = .ok (.getfield 24, 3) := by decide +kernel
theorem qd_P_putInOrder_32 : decode qc_P_putInOrder 32 = .ok (.iload_n 1, 1) := by decide +kernel
theorem qd_P_putInOrder_33 : decode qc_P_putInOrder 33 = .ok (.iaload, 1) := by decide +kernel
theorem qd_P_putInOrder_34 : decode qc_P_putInOrder 34 = .ok (.if_icmp .ge 6, 3) := by decide +kernel
theorem qd_P_putInOrder_37 : decode qc_P_putInOrder 37 = .ok (.iinc 2 1, 3) := by decide +kernel
theorem qd_P_putInOrder_40 : decode qc_P_putInOrder 40 = .ok (.iinc 3 1, 3) := by decide +kernel
theorem qd_P_putInOrder_43 : decode qc_P_putInOrder 43 = .ok (.goto (-29), 3) := by decide +kernel
theorem qd_P_putInOrder_46 : decode qc_P_putInOrder 46 = .ok (.aload_n 0, 1) := by decide +kernel
theorem qd_P_putInOrder_47 : decode qc_P_putInOrder 47 = .ok (.getfield 33, 3) := by decide +kernel
theorem qd_P_putInOrder_50 : decode qc_P_putInOrder 50 = .ok (.iload_n 2, 1) := by decide +kernel
theorem qd_P_putInOrder_51 : decode qc_P_putInOrder 51 = .ok (.iload_n 1, 1) := by decide +kernel
theorem qd_P_putInOrder_52 : decode qc_P_putInOrder 52 = .ok (.iastore, 1) := by decide +kernel
theorem qd_P_putInOrder_53 : decode qc_P_putInOrder 53 = .ok (.iinc 1 1, 3) := by decide +kernel
theorem qd_P_putInOrder_56 : decode qc_P_putInOrder 56 = .ok (.goto (-54), 3) := by decide +kernel
theorem qd_P_putInOrder_59 : decode qc_P_putInOrder 59 = .ok (.return_, 1) := by decide +kernel
theorem qd_T_init_0 : decode qc_T_init 0 = .ok (.aload_n 0, 1) := by decide +kernel
theorem qd_T_init_1 : decode qc_T_init 1 = .ok (.invokespecial 3, 3) := by decide +kernel
theorem qd_T_init_4 : decode qc_T_init 4 = .ok (.aload_n 0, 1) := by decide +kernel
theorem qd_T_init_5 : decode qc_T_init 5 = .ok (.sipush 160, 3) := by decide +kernel
theorem qd_T_init_8 : decode qc_T_init 8 = .ok (.newarray .int, 2) := by decide +kernel
theorem qd_T_init_10 : decode qc_T_init 10 = .ok (.putfield 9, 3) := by decide +kernel
theorem qd_T_init_13 : decode qc_T_init 13 = .ok (.aload_n 0, 1) := by decide +kernel
theorem qd_T_init_14 : decode qc_T_init 14 = .ok (.sipush 6400, 3) := by decide +kernel
theorem qd_T_init_17 : decode qc_T_init 17 = .ok (.newarray .int, 2) := by decide +kernel
theorem qd_T_init_19 : decode qc_T_init 19 = .ok (.putfield 15, 3) := by decide +kernel
theorem qd_T_init_22 : decode qc_T_init 22 = .ok (.aload_n 0, 1) := by decide +kernel
theorem qd_T_init_23 : decode qc_T_init 23 = .ok (.getfield 9, 3) := by decide +kernel
theorem qd_T_init_26 : decode qc_T_init 26 = .ok (.iconst (-1), 1) := by decide +kernel
theorem qd_T_init_27 : decode qc_T_init 27 = .ok (.invokestatic 18, 3) := by decide +kernel
theorem qd_T_init_30 : decode qc_T_init 30 = .ok (.return_, 1) := by decide +kernel
theorem qd_T_forget_0 : decode qc_T_forget 0 = .ok (.aload_n 0, 1) := by decide +kernel
theorem qd_T_forget_1 : decode qc_T_forget 1 = .ok (.getfield 9, 3) := by decide +kernel
theorem qd_T_forget_4 : decode qc_T_forget 4 = .ok (.iconst (-1), 1) := by decide +kernel
theorem qd_T_forget_5 : decode qc_T_forget 5 = .ok (.invokestatic 18, 3) := by decide +kernel
theorem qd_T_forget_8 : decode qc_T_forget 8 = .ok (.aload_n 0, 1) := by decide +kernel
theorem qd_T_forget_9 : decode qc_T_forget 9 = .ok (.getfield 15, 3) := by decide +kernel
theorem qd_T_forget_12 : decode qc_T_forget 12 = .ok (.iconst 0, 1) := by decide +kernel
theorem qd_T_forget_13 : decode qc_T_forget 13 = .ok (.invokestatic 18, 3) := by decide +kernel
theorem qd_T_forget_16 : decode qc_T_forget 16 = .ok (.return_, 1) := by decide +kernel
theorem qd_T_note_0 : decode qc_T_note 0 = .ok (.iload_n 3, 1) := by decide +kernel
theorem qd_T_note_1 : decode qc_T_note 1 = .ok (.istore 5, 2) := by decide +kernel
theorem qd_T_note_3 : decode qc_T_note 3 = .ok (.iconst 0, 1) := by decide +kernel
theorem qd_T_note_4 : decode qc_T_note 4 = .ok (.istore 6, 2) := by decide +kernel
theorem qd_T_note_6 : decode qc_T_note 6 = .ok (.iload 6, 2) := by decide +kernel
theorem qd_T_note_8 : decode qc_T_note 8 = .ok (.bipush 32, 2) := by decide +kernel
theorem qd_T_note_10 : decode qc_T_note 10 = .ok (.if_icmp .ge 86, 3) := by decide +kernel
theorem qd_T_note_13 : decode qc_T_note 13 = .ok (.iload 5, 2) := by decide +kernel
theorem qd_T_note_15 : decode qc_T_note 15 = .ok (.ifCond .eq 81, 3) := by decide +kernel
theorem qd_T_note_18 : decode qc_T_note 18 = .ok (.iload 5, 2) := by decide +kernel
theorem qd_T_note_20 : decode qc_T_note 20 = .ok (.iconst 1, 1) := by decide +kernel
theorem qd_T_note_21 : decode qc_T_note 21 = .ok (.iand, 1) := by decide +kernel
theorem qd_T_note_22 : decode qc_T_note 22 = .ok (.ifCond .eq 62, 3) := by decide +kernel
theorem qd_T_note_25 : decode qc_T_note 25 = .ok (.iload_n 2, 1) := by decide +kernel
theorem qd_T_note_26 : decode qc_T_note 26 = .ok (.bipush 32, 2) := by decide +kernel
theorem qd_T_note_28 : decode qc_T_note 28 = .ok (.imul, 1) := by decide +kernel
theorem qd_T_note_29 : decode qc_T_note 29 = .ok (.iload 6, 2) := by decide +kernel
theorem qd_T_note_31 : decode qc_T_note 31 = .ok (.iadd, 1) := by decide +kernel
theorem qd_T_note_32 : decode qc_T_note 32 = .ok (.istore 7, 2) := by decide +kernel
theorem qd_T_note_34 : decode qc_T_note 34 = .ok (.aload_n 0, 1) := by decide +kernel
theorem qd_T_note_35 : decode qc_T_note 35 = .ok (.getfield 15, 3) := by decide +kernel
theorem qd_T_note_38 : decode qc_T_note 38 = .ok (.iload_n 1, 1) := by decide +kernel
theorem qd_T_note_39 : decode qc_T_note 39 = .ok (.iconst 5, 1) := by decide +kernel
theorem qd_T_note_40 : decode qc_T_note 40 = .ok (.imul, 1) := by decide +kernel
theorem qd_T_note_41 : decode qc_T_note 41 = .ok (.bipush 32, 2) := by decide +kernel
theorem qd_T_note_43 : decode qc_T_note 43 = .ok (.imul, 1) := by decide +kernel
theorem qd_T_note_44 : decode qc_T_note 44 = .ok (.iload 7, 2) := by decide +kernel
theorem qd_T_note_46 : decode qc_T_note 46 = .ok (.iadd, 1) := by decide +kernel
theorem qd_T_note_47 : decode qc_T_note 47 = .ok (.dup2, 1) := by decide +kernel
theorem qd_T_note_48 : decode qc_T_note 48 = .ok (.iaload, 1) := by decide +kernel
theorem qd_T_note_49 : decode qc_T_note 49 = .ok (.iconst 1, 1) := by decide +kernel
theorem qd_T_note_50 : decode qc_T_note 50 = .ok (.iadd, 1) := by decide +kernel
theorem qd_T_note_51 : decode qc_T_note 51 = .ok (.iastore, 1) := by decide +kernel
theorem qd_T_note_52 : decode qc_T_note 52 = .ok (.aload_n 0, 1) := by decide +kernel
theorem qd_T_note_53 : decode qc_T_note 53 = .ok (.getfield 9, 3) := by decide +kernel
theorem qd_T_note_56 : decode qc_T_note 56 = .ok (.iload 7, 2) := by decide +kernel
theorem qd_T_note_58 : decode qc_T_note 58 = .ok (.iaload, 1) := by decide +kernel
theorem qd_T_note_59 : decode qc_T_note 59 = .ok (.iconst (-1), 1) := by decide +kernel
theorem qd_T_note_60 : decode qc_T_note 60 = .ok (.if_icmp .eq 15, 3) := by decide +kernel
theorem qd_T_note_63 : decode qc_T_note 63 = .ok (.iload 4, 2) := by decide +kernel
theorem qd_T_note_65 : decode qc_T_note 65 = .ok (.aload_n 0, 1) := by decide +kernel
theorem qd_T_note_66 : decode qc_T_note 66 = .ok (.getfield 9, 3) := by decide +kernel
theorem qd_T_note_69 : decode qc_T_note 69 = .ok (.iload 7, 2) := by decide +kernel
theorem qd_T_note_71 : decode qc_T_note 71 = .ok (.iaload, 1) := by decide +kernel
theorem qd_T_note_72 : decode qc_T_note 72 = .ok (.if_icmp .ge 12, 3) := by decide +kernel
theorem qd_T_note_75 : decode qc_T_note 75 = .ok (.aload_n 0, 1) := by decide +kernel
theorem qd_T_note_76 : decode qc_T_note 76 = .ok (.getfield 9, 3) := by decide +kernel
theorem qd_T_note_79 : decode qc_T_note 79 = .ok (.iload 7, 2) := by decide +kernel
theorem qd_T_note_81 : decode qc_T_note 81 = .ok (.iload 4, 2) := by decide +kernel
theorem qd_T_note_83 : decode qc_T_note 83 = .ok (.iastore, 1) := by decide +kernel
theorem qd_T_note_84 : decode qc_T_note 84 = .ok (.iload 5, 2) := by decide +kernel
theorem qd_T_note_86 : decode qc_T_note 86 = .ok (.iconst 1, 1) := by decide +kernel
theorem qd_T_note_87 : decode qc_T_note 87 = .ok (.iushr, 1) := by decide +kernel
theorem qd_T_note_88 : decode qc_T_note 88 = .ok (.istore 5, 2) := by decide +kernel
theorem qd_T_note_90 : decode qc_T_note 90 = .ok (.iinc 6 1, 3) := by decide +kernel
theorem qd_T_note_93 : decode qc_T_note 93 = .ok (.goto (-87), 3) := by decide +kernel
theorem qd_T_note_96 : decode qc_T_note 96 = .ok (.return_, 1) := by decide +kernel
theorem qd_T_leastOf_0 : decode qc_T_leastOf 0 = .ok (.aload_n 0, 1) := by decide +kernel
theorem qd_T_leastOf_1 : decode qc_T_leastOf 1 = .ok (.getfield 9, 3) := by decide +kernel
theorem qd_T_leastOf_4 : decode qc_T_leastOf 4 = .ok (.iload_n 1, 1) := by decide +kernel
theorem qd_T_leastOf_5 : decode qc_T_leastOf 5 = .ok (.bipush 32, 2) := by decide +kernel
theorem qd_T_leastOf_7 : decode qc_T_leastOf 7 = .ok (.imul, 1) := by decide +kernel
theorem qd_T_leastOf_8 : decode qc_T_leastOf 8 = .ok (.iload_n 2, 1) := by decide +kernel
theorem qd_T_leastOf_9 : decode qc_T_leastOf 9 = .ok (.iadd, 1) := by decide +kernel
theorem qd_T_leastOf_10 : decode qc_T_leastOf 10 = .ok (.iaload, 1) := by decide +kernel
theorem qd_T_leastOf_11 : decode qc_T_leastOf 11 = .ok (.ireturn, 1) := by decide +kernel
theorem qd_T_countOf_0 : decode qc_T_countOf 0 = .ok (.aload_n 0, 1) := by decide +kernel
theorem qd_T_countOf_1 : decode qc_T_countOf 1 = .ok (.getfield 15, 3) := by decide +kernel
theorem qd_T_countOf_4 : decode qc_T_countOf 4 = .ok (.iload_n 1, 1) := by decide +kernel
theorem qd_T_countOf_5 : decode qc_T_countOf 5 = .ok (.iconst 5, 1) := by decide +kernel
theorem qd_T_countOf_6 : decode qc_T_countOf 6 = .ok (.imul, 1) := by decide +kernel
theorem qd_T_countOf_7 : decode qc_T_countOf 7 = .ok (.iload_n 2, 1) := by decide +kernel
theorem qd_T_countOf_8 : decode qc_T_countOf 8 = .ok (.iadd, 1) := by decide +kernel
theorem qd_T_countOf_9 : decode qc_T_countOf 9 = .ok (.bipush 32, 2) := by decide +kernel
theorem qd_T_countOf_11 : decode qc_T_countOf 11 = .ok (.imul, 1) := by decide +kernel
theorem qd_T_countOf_12 : decode qc_T_countOf 12 = .ok (.iload_n 3, 1) := by decide +kernel
theorem qd_T_countOf_13 : decode qc_T_countOf 13 = .ok (.iadd, 1) := by decide +kernel
theorem qd_T_countOf_14 : decode qc_T_countOf 14 = .ok (.iaload, 1) := by decide +kernel
theorem qd_T_countOf_15 : decode qc_T_countOf 15 = .ok (.ireturn, 1) := by decide +kernel
theorem qd_Y_init_0 : decode qc_Y_init 0 = .ok (.aload_n 0, 1) := by decide +kernel
theorem qd_Y_init_1 : decode qc_Y_init 1 = .ok (.invokespecial 3, 3) := by decide +kernel
theorem qd_Y_init_4 : decode qc_Y_init 4 = .ok (.aload_n 0, 1) := by decide +kernel
theorem qd_Y_init_5 : decode qc_Y_init 5 = .ok (.sipush 1640, 3) := by decide +kernel
theorem qd_Y_init_8 : decode qc_Y_init 8 = .ok (.newarray .int, 2) := by decide +kernel
theorem qd_Y_init_10 : decode qc_Y_init 10 = .ok (.putfield 9, 3) := by decide +kernel
theorem qd_Y_init_13 : decode qc_Y_init 13 = .ok (.aload_n 0, 1) := by decide +kernel
theorem qd_Y_init_14 : decode qc_Y_init 14 = .ok (.bipush 40, 2) := by decide +kernel
theorem qd_Y_init_16 : decode qc_Y_init 16 = .ok (.newarray .int, 2) := by decide +kernel
theorem qd_Y_init_18 : decode qc_Y_init 18 = .ok (.putfield 15, 3) := by decide +kernel
theorem qd_Y_init_21 : decode qc_Y_init 21 = .ok (.aload_n 0, 1) := by decide +kernel
theorem qd_Y_init_22 : decode qc_Y_init 22 = .ok (.bipush 40, 2) := by decide +kernel
theorem qd_Y_init_24 : decode qc_Y_init 24 = .ok (.newarray .int, 2) := by decide +kernel
theorem qd_Y_init_26 : decode qc_Y_init 26 = .ok (.putfield 18, 3) := by decide +kernel
theorem qd_Y_init_29 : decode qc_Y_init 29 = .ok (.aload_n 0, 1) := by decide +kernel
theorem qd_Y_init_30 : decode qc_Y_init 30 = .ok (.bipush 40, 2) := by decide +kernel
theorem qd_Y_init_32 : decode qc_Y_init 32 = .ok (.newarray .int, 2) := by decide +kernel
theorem qd_Y_init_34 : decode qc_Y_init 34 = .ok (.putfield 21, 3) := by decide +kernel
theorem qd_Y_init_37 : decode qc_Y_init 37 = .ok (.aload_n 0, 1) := by decide +kernel
theorem qd_Y_init_38 : decode qc_Y_init 38 = .ok (.iconst 0, 1) := by decide +kernel
theorem qd_Y_init_39 : decode qc_Y_init 39 = .ok (.putfield 24, 3) := by decide +kernel
theorem qd_Y_init_42 : decode qc_Y_init 42 = .ok (.return_, 1) := by decide +kernel
theorem qd_Y_forget_0 : decode qc_Y_forget 0 = .ok (.aload_n 0, 1) := by decide +kernel
theorem qd_Y_forget_1 : decode qc_Y_forget 1 = .ok (.iconst 0, 1) := by decide +kernel
theorem qd_Y_forget_2 : decode qc_Y_forget 2 = .ok (.putfield 24, 3) := by decide +kernel
theorem qd_Y_forget_5 : decode qc_Y_forget 5 = .ok (.return_, 1) := by decide +kernel
theorem qd_Y_numberOf_0 : decode qc_Y_numberOf 0 = .ok (.iconst 0, 1) := by decide +kernel
theorem qd_Y_numberOf_1 : decode qc_Y_numberOf 1 = .ok (.istore_n 2, 1) := by decide +kernel
theorem qd_Y_numberOf_2 : decode qc_Y_numberOf 2 = .ok (.iload_n 2, 1) := by decide +kernel
theorem qd_Y_numberOf_3 : decode qc_Y_numberOf 3 = .ok (.aload_n 0, 1) := by decide +kernel
theorem qd_Y_numberOf_4 : decode qc_Y_numberOf 4 = .ok (.getfield 24, 3) := by decide +kernel
theorem qd_Y_numberOf_7 : decode qc_Y_numberOf 7 = .ok (.if_icmp .ge 20, 3) := by decide +kernel
theorem qd_Y_numberOf_10 : decode qc_Y_numberOf 10 = .ok (.aload_n 0, 1) := by decide +kernel
theorem qd_Y_numberOf_11 : decode qc_Y_numberOf 11 = .ok (.aload_n 1, 1) := by decide +kernel
theorem qd_Y_numberOf_12 : decode qc_Y_numberOf 12 = .ok (.iload_n 2, 1) := by decide +kernel
theorem qd_Y_numberOf_13 : decode qc_Y_numberOf 13 = .ok (.invokevirtual 28, 3) := by decide +kernel
theorem qd_Y_numberOf_16 : decode qc_Y_numberOf 16 = .ok (.ifCond .eq 5, 3) := by decide +kernel
theorem qd_Y_numberOf_19 : decode qc_Y_numberOf 19 = .ok (.iload_n 2, 1) := by decide +kernel
theorem qd_Y_numberOf_20 : decode qc_Y_numberOf 20 = .ok (.ireturn, 1) := by decide +kernel
theorem qd_Y_numberOf_21 : decode qc_Y_numberOf 21 = .ok (.iinc 2 1, 3) := by decide +kernel
theorem qd_Y_numberOf_24 : decode qc_Y_numberOf 24 = .ok (.goto (-22), 3) := by decide +kernel
theorem qd_Y_numberOf_27 : decode qc_Y_numberOf 27 = .ok (.aload_n 0, 1) := by decide +kernel
theorem qd_Y_numberOf_28 : decode qc_Y_numberOf 28 = .ok (.getfield 24, 3) := by decide +kernel
theorem qd_Y_numberOf_31 : decode qc_Y_numberOf 31 = .ok (.bipush 40, 2) := by decide +kernel
theorem qd_Y_numberOf_33 : decode qc_Y_numberOf 33 = .ok (.if_icmp .lt 5, 3) := by decide +kernel
theorem qd_Y_numberOf_36 : decode qc_Y_numberOf 36 = .ok (.iconst (-1), 1) := by decide +kernel
theorem qd_Y_numberOf_37 : decode qc_Y_numberOf 37 = .ok (.ireturn, 1) := by decide +kernel
theorem qd_Y_numberOf_38 : decode qc_Y_numberOf 38 = .ok (.aload_n 0, 1) := by decide +kernel
theorem qd_Y_numberOf_39 : decode qc_Y_numberOf 39 = .ok (.aload_n 1, 1) := by decide +kernel
theorem qd_Y_numberOf_40 : decode qc_Y_numberOf 40 = .ok (.aload_n 0, 1) := by decide +kernel
theorem qd_Y_numberOf_41 : decode qc_Y_numberOf 41 = .ok (.getfield 24, 3) := by decide +kernel
theorem qd_Y_numberOf_44 : decode qc_Y_numberOf 44 = .ok (.invokevirtual 32, 3) := by decide +kernel
theorem qd_Y_numberOf_47 : decode qc_Y_numberOf 47 = .ok (.aload_n 0, 1) := by decide +kernel
theorem qd_Y_numberOf_48 : decode qc_Y_numberOf 48 = .ok (.dup, 1) := by decide +kernel
theorem qd_Y_numberOf_49 : decode qc_Y_numberOf 49 = .ok (.getfield 24, 3) := by decide +kernel
theorem qd_Y_numberOf_52 : decode qc_Y_numberOf 52 = .ok (.iconst 1, 1) := by decide +kernel
theorem qd_Y_numberOf_53 : decode qc_Y_numberOf 53 = .ok (.iadd, 1) := by decide +kernel
theorem qd_Y_numberOf_54 : decode qc_Y_numberOf 54 = .ok (.putfield 24, 3) := by decide +kernel
theorem qd_Y_numberOf_57 : decode qc_Y_numberOf 57 = .ok (.aload_n 0, 1) := by decide +kernel
theorem qd_Y_numberOf_58 : decode qc_Y_numberOf 58 = .ok (.getfield 24, 3) := by decide +kernel
theorem qd_Y_numberOf_61 : decode qc_Y_numberOf 61 = .ok (.iconst 1, 1) := by decide +kernel
theorem qd_Y_numberOf_62 : decode qc_Y_numberOf 62 = .ok (.isub, 1) := by decide +kernel
theorem qd_Y_numberOf_63 : decode qc_Y_numberOf 63 = .ok (.ireturn, 1) := by decide +kernel
theorem qd_Y_stepOf_0 : decode qc_Y_stepOf 0 = .ok (.iload_n 2, 1) := by decide +kernel
theorem qd_Y_stepOf_1 : decode qc_Y_stepOf 1 = .ok (.aload_n 0, 1) := by decide +kernel
theorem qd_Y_stepOf_2 : decode qc_Y_stepOf 2 = .ok (.getfield 15, 3) := by decide +kernel
theorem qd_Y_stepOf_5 : decode qc_Y_stepOf 5 = .ok (.iload_n 1, 1) := by decide +kernel
theorem qd_Y_stepOf_6 : decode qc_Y_stepOf 6 = .ok (.iaload, 1) := by decide +kernel
theorem qd_Y_stepOf_7 : decode qc_Y_stepOf 7 = .ok (.invokestatic 36, 3) := by decide +kernel
theorem qd_Y_stepOf_10 : decode qc_Y_stepOf 10 = .ok (.ifCond .eq 17, 3) := by decide +kernel
theorem qd_Y_stepOf_13 : decode qc_Y_stepOf 13 = .ok (.aload_n 0, 1) := by decide +kernel
theorem qd_Y_stepOf_14 : decode qc_Y_stepOf 14 = .ok (.getfield 9, 3) := by decide +kernel
theorem qd_Y_stepOf_17 : decode qc_Y_stepOf 17 = .ok (.iload_n 1, 1) := by decide +kernel
theorem qd_Y_stepOf_18 : decode qc_Y_stepOf 18 = .ok (.bipush 41, 2) := by decide +kernel
theorem qd_Y_stepOf_20 : decode qc_Y_stepOf 20 = .ok (.imul, 1) := by decide +kernel
theorem qd_Y_stepOf_21 : decode qc_Y_stepOf 21 = .ok (.iload_n 2, 1) := by decide +kernel
theorem qd_Y_stepOf_22 : decode qc_Y_stepOf 22 = .ok (.iadd, 1) := by decide +kernel
theorem qd_Y_stepOf_23 : decode qc_Y_stepOf 23 = .ok (.iaload, 1) := by decide +kernel
theorem qd_Y_stepOf_24 : decode qc_Y_stepOf 24 = .ok (.goto 4, 3) := by decide +kernel
theorem qd_Y_stepOf_27 : decode qc_Y_stepOf 27 = .ok (.iconst (-1), 1) := by decide +kernel
theorem qd_Y_stepOf_28 : decode qc_Y_stepOf 28 = .ok (.ireturn, 1) := by decide +kernel
theorem qd_Y_isWayOf_0 : decode qc_Y_isWayOf 0 = .ok (.aload_n 0, 1) := by decide +kernel
theorem qd_Y_isWayOf_1 : decode qc_Y_isWayOf 1 = .ok (.getfield 18, 3) := by decide +kernel
theorem qd_Y_isWayOf_4 : decode qc_Y_isWayOf 4 = .ok (.iload_n 2, 1) := by decide +kernel
theorem qd_Y_isWayOf_5 : decode qc_Y_isWayOf 5 = .ok (.iaload, 1) := by decide +kernel
theorem qd_Y_isWayOf_6 : decode qc_Y_isWayOf 6 = .ok (.aload_n 1, 1) := by decide +kernel
theorem qd_Y_isWayOf_7 : decode qc_Y_isWayOf 7 = .ok (.getfield 40, 3) := by decide +kernel
theorem qd_Y_isWayOf_10 : decode qc_Y_isWayOf 10 = .ok (.if_icmp .ne 29, 3) := by decide +kernel
theorem qd_Y_isWayOf_13 : decode qc_Y_isWayOf 13 = .ok (.aload_n 0, 1) := by decide +kernel
theorem qd_Y_isWayOf_14 : decode qc_Y_isWayOf 14 = .ok (.getfield 21, 3) := by decide +kernel
theorem qd_Y_isWayOf_17 : decode qc_Y_isWayOf 17 = .ok (.iload_n 2, 1) := by decide +kernel
theorem qd_Y_isWayOf_18 : decode qc_Y_isWayOf 18 = .ok (.iaload, 1) := by decide +kernel
theorem qd_Y_isWayOf_19 : decode qc_Y_isWayOf 19 = .ok (.aload_n 1, 1) := by decide +kernel
theorem qd_Y_isWayOf_20 : decode qc_Y_isWayOf 20 = .ok (.getfield 45, 3) := by decide +kernel
theorem qd_Y_isWayOf_23 : decode qc_Y_isWayOf 23 = .ok (.if_icmp .ne 16, 3) := by decide +kernel
theorem qd_Y_isWayOf_26 : decode qc_Y_isWayOf 26 = .ok (.aload_n 0, 1) := by decide +kernel
theorem qd_Y_isWayOf_27 : decode qc_Y_isWayOf 27 = .ok (.getfield 15, 3) := by decide +kernel
theorem qd_Y_isWayOf_30 : decode qc_Y_isWayOf 30 = .ok (.iload_n 2, 1) := by decide +kernel
theorem qd_Y_isWayOf_31 : decode qc_Y_isWayOf 31 = .ok (.iaload, 1) := by decide +kernel
theorem qd_Y_isWayOf_32 : decode qc_Y_isWayOf 32 = .ok (.aload_n 1, 1) := by decide +kernel
theorem qd_Y_isWayOf_33 : decode qc_Y_isWayOf 33 = .ok (.getfield 48, 3) := by decide +kernel
theorem qd_Y_isWayOf_36 : decode qc_Y_isWayOf 36 = .ok (.if_icmp .eq 5, 3) := by decide +kernel
theorem qd_Y_isWayOf_39 : decode qc_Y_isWayOf 39 = .ok (.iconst 0, 1) := by decide +kernel
theorem qd_Y_isWayOf_40 : decode qc_Y_isWayOf 40 = .ok (.ireturn, 1) := by decide +kernel
theorem qd_Y_isWayOf_41 : decode qc_Y_isWayOf 41 = .ok (.iload_n 2, 1) := by decide +kernel
theorem qd_Y_isWayOf_42 : decode qc_Y_isWayOf 42 = .ok (.bipush 41, 2) := by decide +kernel
theorem qd_Y_isWayOf_44 : decode qc_Y_isWayOf 44 = .ok (.imul, 1) := by decide +kernel
theorem qd_Y_isWayOf_45 : decode qc_Y_isWayOf 45 = .ok (.istore_n 3, 1) := by decide +kernel
theorem qd_Y_isWayOf_46 : decode qc_Y_isWayOf 46 = .ok (.iconst 0, 1) := by decide +kernel
theorem qd_Y_isWayOf_47 : decode qc_Y_isWayOf 47 = .ok (.istore 4, 2) := by decide +kernel
theorem qd_Y_isWayOf_49 : decode qc_Y_isWayOf 49 = .ok (.iload 4, 2) := by decide +kernel
theorem qd_Y_isWayOf_51 : decode qc_Y_isWayOf 51 = .ok (.aload_n 1, 1) := by decide +kernel
theorem qd_Y_isWayOf_52 : decode qc_Y_isWayOf 52 = .ok (.getfield 48, 3) := by decide +kernel
theorem qd_Y_isWayOf_55 : decode qc_Y_isWayOf 55 = .ok (.if_icmp .ge 30, 3) := by decide +kernel
theorem qd_Y_isWayOf_58 : decode qc_Y_isWayOf 58 = .ok (.aload_n 0, 1) := by decide +kernel
theorem qd_Y_isWayOf_59 : decode qc_Y_isWayOf 59 = .ok (.getfield 9, 3) := by decide +kernel
theorem qd_Y_isWayOf_62 : decode qc_Y_isWayOf 62 = .ok (.iload_n 3, 1) := by decide +kernel
theorem qd_Y_isWayOf_63 : decode qc_Y_isWayOf 63 = .ok (.iload 4, 2) := by decide +kernel
theorem qd_Y_isWayOf_65 : decode qc_Y_isWayOf 65 = .ok (.iadd, 1) := by decide +kernel
theorem qd_Y_isWayOf_66 : decode qc_Y_isWayOf 66 = .ok (.iaload, 1) := by decide +kernel
theorem qd_Y_isWayOf_67 : decode qc_Y_isWayOf 67 = .ok (.aload_n 1, 1) := by decide +kernel
theorem qd_Y_isWayOf_68 : decode qc_Y_isWayOf 68 = .ok (.getfield 51, 3) := by decide +kernel
theorem qd_Y_isWayOf_71 : decode qc_Y_isWayOf 71 = .ok (.iload 4, 2) := by decide +kernel
theorem qd_Y_isWayOf_73 : decode qc_Y_isWayOf 73 = .ok (.iaload, 1) := by decide +kernel
theorem qd_Y_isWayOf_74 : decode qc_Y_isWayOf 74 = .ok (.if_icmp .eq 5, 3) := by decide +kernel
theorem qd_Y_isWayOf_77 : decode qc_Y_isWayOf 77 = .ok (.iconst 0, 1) := by decide +kernel
theorem qd_Y_isWayOf_78 : decode qc_Y_isWayOf 78 = .ok (.ireturn, 1) := by decide +kernel
theorem qd_Y_isWayOf_79 : decode qc_Y_isWayOf 79 = .ok (.iinc 4 1, 3) := by decide +kernel
theorem qd_Y_isWayOf_82 : decode qc_Y_isWayOf 82 = .ok (.goto (-33), 3) := by decide +kernel
theorem qd_Y_isWayOf_85 : decode qc_Y_isWayOf 85 = .ok (.iconst 1, 1) := by decide +kernel
theorem qd_Y_isWayOf_86 : decode qc_Y_isWayOf 86 = .ok (.ireturn, 1) := by decide +kernel
theorem qd_Y_keep_0 : decode qc_Y_keep 0 = .ok (.aload_n 0, 1) := by decide +kernel
theorem qd_Y_keep_1 : decode qc_Y_keep 1 = .ok (.getfield 18, 3) := by decide +kernel
theorem qd_Y_keep_4 : decode qc_Y_keep 4 = .ok (.iload_n 2, 1) := by decide +kernel
theorem qd_Y_keep_5 : decode qc_Y_keep 5 = .ok (.aload_n 1, 1) := by decide +kernel
theorem qd_Y_keep_6 : decode qc_Y_keep 6 = .ok (.getfield 40, 3) := by decide +kernel
theorem qd_Y_keep_9 : decode qc_Y_keep 9 = .ok (.iastore, 1) := by decide +kernel
theorem qd_Y_keep_10 : decode qc_Y_keep 10 = .ok (.aload_n 0, 1) := by decide +kernel
theorem qd_Y_keep_11 : decode qc_Y_keep 11 = .ok (.getfield 21, 3) := by decide +kernel
theorem qd_Y_keep_14 : decode qc_Y_keep 14 = .ok (.iload_n 2, 1) := by decide +kernel
theorem qd_Y_keep_15 : decode qc_Y_keep 15 = .ok (.aload_n 1, 1) := by decide +kernel
theorem qd_Y_keep_16 : decode qc_Y_keep 16 = .ok (.getfield 45, 3) := by decide +kernel
theorem qd_Y_keep_19 : decode qc_Y_keep 19 = .ok (.iastore, 1) := by decide +kernel
theorem qd_Y_keep_20 : decode qc_Y_keep 20 = .ok (.aload_n 0, 1) := by decide +kernel
theorem qd_Y_keep_21 : decode qc_Y_keep 21 = .ok (.getfield 15, 3) := by decide +kernel
theorem qd_Y_keep_24 : decode qc_Y_keep 24 = .ok (.iload_n 2, 1) := by decide +kernel
theorem qd_Y_keep_25 : decode qc_Y_keep 25 = .ok (.aload_n 1, 1) := by decide +kernel
theorem qd_Y_keep_26 : decode qc_Y_keep 26 = .ok (.getfield 48, 3) := by decide +kernel
theorem qd_Y_keep_29 : decode qc_Y_keep 29 = .ok (.iastore, 1) := by decide +kernel
theorem qd_Y_keep_30 : decode qc_Y_keep 30 = .ok (.iload_n 2, 1) := by decide +kernel
theorem qd_Y_keep_31 : decode qc_Y_keep 31 = .ok (.bipush 41, 2) := by decide +kernel
theorem qd_Y_keep_33 : decode qc_Y_keep 33 = .ok (.imul, 1) := by decide +kernel
theorem qd_Y_keep_34 : decode qc_Y_keep 34 = .ok (.istore_n 3, 1) := by decide +kernel
theorem qd_Y_keep_35 : decode qc_Y_keep 35 = .ok (.iconst 0, 1) := by decide +kernel
theorem qd_Y_keep_36 : decode qc_Y_keep 36 = .ok (.istore 4, 2) := by decide +kernel
theorem qd_Y_keep_38 : decode qc_Y_keep 38 = .ok (.iload 4, 2) := by decide +kernel
theorem qd_Y_keep_40 : decode qc_Y_keep 40 = .ok (.aload_n 1, 1) := by decide +kernel
theorem qd_Y_keep_41 : decode qc_Y_keep 41 = .ok (.getfield 48, 3) := by decide +kernel
theorem qd_Y_keep_44 : decode qc_Y_keep 44 = .ok (.if_icmp .ge 25, 3) := by decide +kernel
theorem qd_Y_keep_47 : decode qc_Y_keep 47 = .ok (.aload_n 0, 1) := by decide +kernel
theorem qd_Y_keep_48 : decode qc_Y_keep 48 = .ok (.getfield 9, 3) := by decide +kernel
theorem qd_Y_keep_51 : decode qc_Y_keep 51 = .ok (.iload_n 3, 1) := by decide +kernel
theorem qd_Y_keep_52 : decode qc_Y_keep 52 = .ok (.iload 4, 2) := by decide +kernel
theorem qd_Y_keep_54 : decode qc_Y_keep 54 = .ok (.iadd, 1) := by decide +kernel
theorem qd_Y_keep_55 : decode qc_Y_keep 55 = .ok (.aload_n 1, 1) := by decide +kernel
theorem qd_Y_keep_56 : decode qc_Y_keep 56 = .ok (.getfield 51, 3) := by decide +kernel
theorem qd_Y_keep_59 : decode qc_Y_keep 59 = .ok (.iload 4, 2) := by decide +kernel
theorem qd_Y_keep_61 : decode qc_Y_keep 61 = .ok (.iaload, 1) := by decide +kernel
theorem qd_Y_keep_62 : decode qc_Y_keep 62 = .ok (.iastore, 1) := by decide +kernel
theorem qd_Y_keep_63 : decode qc_Y_keep 63 = .ok (.iinc 4 1, 3) := by decide +kernel
theorem qd_Y_keep_66 : decode qc_Y_keep 66 = .ok (.goto (-28), 3) := by decide +kernel
theorem qd_Y_keep_69 : decode qc_Y_keep 69 = .ok (.return_, 1) := by decide +kernel
theorem qd_A_fill_0 : decode qc_A_fill 0 = .ok (.iconst 0, 1) := by decide +kernel
theorem qd_A_fill_1 : decode qc_A_fill 1 = .ok (.istore_n 2, 1) := by decide +kernel
theorem qd_A_fill_2 : decode qc_A_fill 2 = .ok (.aload_n 0, 1) := by decide +kernel
theorem qd_A_fill_3 : decode qc_A_fill 3 = .ok (.arraylength, 1) := by decide +kernel
theorem qd_A_fill_4 : decode qc_A_fill 4 = .ok (.istore_n 3, 1) := by decide +kernel
theorem qd_A_fill_5 : decode qc_A_fill 5 = .ok (.iload_n 2, 1) := by decide +kernel
theorem qd_A_fill_6 : decode qc_A_fill 6 = .ok (.iload_n 3, 1) := by decide +kernel
theorem qd_A_fill_7 : decode qc_A_fill 7 = .ok (.if_icmp .ge 13, 3) := by decide +kernel
theorem qd_A_fill_10 : decode qc_A_fill 10 = .ok (.aload_n 0, 1) := by decide +kernel
theorem qd_A_fill_11 : decode qc_A_fill 11 = .ok (.iload_n 2, 1) := by decide +kernel
theorem qd_A_fill_12 : decode qc_A_fill 12 = .ok (.iload_n 1, 1) := by decide +kernel
theorem qd_A_fill_13 : decode qc_A_fill 13 = .ok (.iastore, 1) := by decide +kernel
theorem qd_A_fill_14 : decode qc_A_fill 14 = .ok (.iinc 2 1, 3) := by decide +kernel
theorem qd_A_fill_17 : decode qc_A_fill 17 = .ok (.goto (-12), 3) := by decide +kernel
theorem qd_A_fill_20 : decode qc_A_fill 20 = .ok (.return_, 1) := by decide +kernel
end
section
theorem qd_K_init_0 : decode qc_K_init 0 = .ok (.aload_n 0, 1) := by decide +kernel
theorem qd_K_init_1 : decode qc_K_init 1 = .ok (.invokespecial 3, 3) := by decide +kernel
theorem qd_K_init_4 : decode qc_K_init 4 = .ok (.aload_n 0, 1) := by decide +kernel
theorem qd_K_init_5 : decode qc_K_init 5 = .ok (.new 9, 3) := by decide +kernel
theorem qd_K_init_8 : decode qc_K_init 8 = .ok (.dup, 1) := by decide +kernel
theorem qd_K_init_9 : decode qc_K_init 9 = .ok (.invokespecial 11, 3) := by decide +kernel
theorem qd_K_init_12 : decode qc_K_init 12 = .ok (.putfield 12, 3) := by decide +kernel
theorem qd_K_init_15 : decode qc_K_init 15 = .ok (.aload_n 0, 1) := by decide +kernel
theorem qd_K_init_16 : decode qc_K_init 16 = .ok (.bipush 6, 2) := by decide +kernel
theorem qd_K_init_18 : decode qc_K_init 18 = .ok (.newarray .int, 2) := by decide +kernel
theorem qd_K_init_20 : decode qc_K_init 20 = .ok (.putfield 18, 3) := by decide +kernel
theorem qd_K_init_23 : decode qc_K_init 23 = .ok (.aload_n 0, 1) := by decide +kernel
theorem qd_K_init_24 : decode qc_K_init 24 = .ok (.iconst 0, 1) := by decide +kernel
theorem qd_K_init_25 : decode qc_K_init 25 = .ok (.putfield 22, 3) := by decide +kernel
theorem qd_K_init_28 : decode qc_K_init 28 = .ok (.aload_n 0, 1) := by decide +kernel
theorem qd_K_init_29 : decode qc_K_init 29 = .ok (.iconst 0, 1) := by decide +kernel
theorem qd_K_init_30 : decode qc_K_init 30 = .ok (.putfield 26, 3) := by decide +kernel
theorem qd_K_init_33 : decode qc_K_init 33 = .ok (.aload_n 0, 1) := by decide +kernel
theorem qd_K_init_34 : decode qc_K_init 34 = .ok (.iconst 0, 1) := by decide +kernel
theorem qd_K_init_35 : decode qc_K_init 35 = .ok (.putfield 29, 3) := by decide +kernel
theorem qd_K_init_38 : decode qc_K_init 38 = .ok (.aload_n 0, 1) := by decide +kernel
theorem qd_K_init_39 : decode qc_K_init 39 = .ok (.iconst 0, 1) := by decide +kernel
theorem qd_K_init_40 : decode qc_K_init 40 = .ok (.putfield 32, 3) := by decide +kernel
theorem qd_K_init_43 : decode qc_K_init 43 = .ok (.aload_n 0, 1) := by decide +kernel
theorem qd_K_init_44 : decode qc_K_init 44 = .ok (.iconst 0, 1) := by decide +kernel
theorem qd_K_init_45 : decode qc_K_init 45 = .ok (.putfield 35, 3) := by decide +kernel
theorem qd_K_init_48 : decode qc_K_init 48 = .ok (.aload_n 0, 1) := by decide +kernel
theorem qd_K_init_49 : decode qc_K_init 49 = .ok (.iconst 0, 1) := by decide +kernel
theorem qd_K_init_50 : decode qc_K_init 50 = .ok (.putfield 38, 3) := by decide +kernel
theorem qd_K_init_53 : decode qc_K_init 53 = .ok (.aload_n 0, 1) := by decide +kernel
theorem qd_K_init_54 : decode qc_K_init 54 = .ok (.iconst 0, 1) := by decide +kernel
theorem qd_K_init_55 : decode qc_K_init 55 = .ok (.putfield 41, 3) := by decide +kernel
theorem qd_K_init_58 : decode qc_K_init 58 = .ok (.aload_n 0, 1) := by decide +kernel
theorem qd_K_init_59 : decode qc_K_init 59 = .ok (.iconst 0, 1) := by decide +kernel
theorem qd_K_init_60 : decode qc_K_init 60 = .ok (.putfield 44, 3) := by decide +kernel
theorem qd_K_init_63 : decode qc_K_init 63 = .ok (.aload_n 0, 1) := by decide +kernel
theorem qd_K_init_64 : decode qc_K_init 64 = .ok (.bipush 41, 2) := by decide +kernel
theorem qd_K_init_66 : decode qc_K_init 66 = .ok (.newarray .int, 2) := by decide +kernel
theorem qd_K_init_68 : decode qc_K_init 68 = .ok (.putfield 48, 3) := by decide +kernel
theorem qd_K_init_71 : decode qc_K_init 71 = .ok (.aload_n 0, 1) := by decide +kernel
theorem qd_K_init_72 : decode qc_K_init 72 = .ok (.iconst 0, 1) := by decide +kernel
theorem qd_K_init_73 : decode qc_K_init 73 = .ok (.putfield 51, 3) := by decide +kernel
theorem qd_K_init_76 : decode qc_K_init 76 = .ok (.aload_n 0, 1) := by decide +kernel
theorem qd_K_init_77 : decode qc_K_init 77 = .ok (.iconst 0, 1) := by decide +kernel
theorem qd_K_init_78 : decode qc_K_init 78 = .ok (.putfield 54, 3) := by decide +kernel
theorem qd_K_init_81 : decode qc_K_init 81 = .ok (.aload_n 0, 1) := by decide +kernel
theorem qd_K_init_82 : decode qc_K_init 82 = .ok (.iconst 5, 1) := by decide +kernel
theorem qd_K_init_83 : decode qc_K_init 83 = .ok (.newarray .int, 2) := by decide +kernel
theorem qd_K_init_85 : decode qc_K_init 85 = .ok (.putfield 57, 3) := by decide +kernel
theorem qd_K_init_88 : decode qc_K_init 88 = .ok (.return_, 1) := by decide +kernel
theorem qd_K_transact_0 : decode qc_K_transact 0 = .ok (.aload_n 0, 1) := by decide +kernel
theorem qd_K_transact_1 : decode qc_K_transact 1 = .ok (.iload_n 1, 1) := by decide +kernel
theorem qd_K_transact_2 : decode qc_K_transact 2 = .ok (.iload_n 2, 1) := by decide +kernel
theorem qd_K_transact_3 : decode qc_K_transact 3 = .ok (.iload_n 3, 1) := by decide +kernel
theorem qd_K_transact_4 : decode qc_K_transact 4 = .ok (.ifCond .eq 7, 3) := by decide +kernel
theorem qd_K_transact_7 : decode qc_K_transact 7 = .ok (.iconst 0, 1) := by decide +kernel
theorem qd_K_transact_8 : decode qc_K_transact 8 = .ok (.goto 5, 3) := by decide +kernel
theorem qd_K_transact_11 : decode qc_K_transact 11 = .ok (.iload 4, 2) := by decide +kernel
theorem qd_K_transact_13 : decode qc_K_transact 13 = .ok (.invokevirtual 60, 3) := by decide +kernel
theorem qd_K_transact_16 : decode qc_K_transact 16 = .ok (.aload_n 0, 1) := by decide +kernel
theorem qd_K_transact_17 : decode qc_K_transact 17 = .ok (.iload_n 3, 1) := by decide +kernel
theorem qd_K_transact_18 : decode qc_K_transact 18 = .ok (.ifCond .eq 7, 3) := by decide +kernel
theorem qd_K_transact_21 : decode qc_K_transact 21 = .ok (.iconst 4, 1) := by decide +kernel
theorem qd_K_transact_22 : decode qc_K_transact 22 = .ok (.goto 4, 3) := by decide +kernel
theorem qd_K_transact_25 : decode qc_K_transact 25 = .ok (.iconst 5, 1) := by decide +kernel
theorem qd_K_transact_26 : decode qc_K_transact 26 = .ok (.putfield 35, 3) := by decide +kernel
theorem qd_K_transact_29 : decode qc_K_transact 29 = .ok (.iconst 0, 1) := by decide +kernel
theorem qd_K_transact_30 : decode qc_K_transact 30 = .ok (.istore 5, 2) := by decide +kernel
theorem qd_K_transact_32 : decode qc_K_transact 32 = .ok (.iload 5, 2) := by decide +kernel
theorem qd_K_transact_34 : decode qc_K_transact 34 = .ok (.bipush 41, 2) := by decide +kernel
theorem qd_K_transact_36 : decode qc_K_transact 36 = .ok (.if_icmp .ge 73, 3) := by decide +kernel
theorem qd_K_transact_39 : decode qc_K_transact 39 = .ok (.aload_n 0, 1) := by decide +kernel
theorem qd_K_transact_40 : decode qc_K_transact 40 = .ok (.getfield 35, 3) := by decide +kernel
theorem qd_K_transact_43 : decode qc_K_transact 43 = .ok (.iconst 5, 1) := by decide +kernel
theorem qd_K_transact_44 : decode qc_K_transact 44 = .ok (.if_icmp .ne 65, 3) := by decide +kernel
theorem qd_K_transact_47 : decode qc_K_transact 47 = .ok (.aload_n 0, 1) := by decide +kernel
theorem qd_K_transact_48 : decode qc_K_transact 48 = .ok (.getfield 32, 3) := by decide +kernel
theorem qd_K_transact_51 : decode qc_K_transact 51 = .ok (.aload_n 0, 1) := by decide +kernel
theorem qd_K_transact_52 : decode qc_K_transact 52 = .ok (.getfield 12, 3) := by decide +kernel
theorem qd_K_transact_55 : decode qc_K_transact 55 = .ok (.getfield 64, 3) := by decide +kernel
theorem qd_K_transact_58 : decode qc_K_transact 58 = .ok (.if_icmp .lt 11, 3) := by decide +kernel
theorem qd_K_transact_61 : decode qc_K_transact 61 = .ok (.aload_n 0, 1) := by decide +kernel
theorem qd_K_transact_62 : decode qc_K_transact 62 = .ok (.iconst 0, 1) := by decide +kernel
theorem qd_K_transact_63 : decode qc_K_transact 63 = .ok (.putfield 35, 3) := by decide +kernel
theorem qd_K_transact_66 : decode qc_K_transact 66 = .ok (.goto 37, 3) := by decide +kernel
theorem qd_K_transact_69 : decode qc_K_transact 69 = .ok (.aload_n 0, 1) := by decide +kernel
theorem qd_K_transact_70 : decode qc_K_transact 70 = .ok (.iload 5, 2) := by decide +kernel
theorem qd_K_transact_72 : decode qc_K_transact 72 = .ok (.invokevirtual 67, 3) := by decide +kernel
theorem qd_K_transact_75 : decode qc_K_transact 75 = .ok (.aload_n 0, 1) := by decide +kernel
theorem qd_K_transact_76 : decode qc_K_transact 76 = .ok (.aload_n 0, 1) := by decide +kernel
theorem qd_K_transact_77 : decode qc_K_transact 77 = .ok (.getfield 12, 3) := by decide +kernel
theorem qd_K_transact_80 : decode qc_K_transact 80 = .ok (.getfield 71, 3) := by decide +kernel
theorem qd_K_transact_83 : decode qc_K_transact 83 = .ok (.aload_n 0, 1) := by decide +kernel
theorem qd_K_transact_84 : decode qc_K_transact 84 = .ok (.getfield 32, 3) := by decide +kernel
theorem qd_K_transact_87 : decode qc_K_transact 87 = .ok (.iaload, 1) := by decide +kernel
theorem qd_K_transact_88 : decode qc_K_transact 88 = .ok (.aload_n 0, 1) := by decide +kernel
theorem qd_K_transact_89 : decode qc_K_transact 89 = .ok (.getfield 12, 3) := by decide +kernel
theorem qd_K_transact_92 : decode qc_K_transact 92 = .ok (.getfield 74, 3) := by decide +kernel
theorem qd_K_transact_95 : decode qc_K_transact 95 = .ok (.aload_n 0, 1) := by decide +kernel
theorem qd_K_transact_96 : decode qc_K_transact 96 = .ok (.getfield 32, 3) := by decide +kernel
theorem qd_K_transact_99 : decode qc_K_transact 99 = .ok (.iaload, 1) := by decide +kernel
theorem qd_K_transact_100 : decode qc_K_transact 100 = .ok (.invokevirtual 77, 3) := by decide +kernel
theorem qd_K_transact_103 : decode qc_K_transact 103 = .ok (.iinc 5 1, 3) := by decide +kernel
theorem qd_K_transact_106 : decode qc_K_transact 106 = .ok (.goto (-74), 3) := by decide +kernel
theorem qd_K_transact_109 : decode qc_K_transact 109 = .ok (.aload_n 0, 1) := by decide +kernel
theorem qd_K_transact_110 : decode qc_K_transact 110 = .ok (.getfield 35, 3) := by decide +kernel
theorem qd_K_transact_113 : decode qc_K_transact 113 = .ok (.iconst 1, 1) := by decide +kernel
theorem qd_K_transact_114 : decode qc_K_transact 114 = .ok (.if_icmp .eq 11, 3) := by decide +kernel
theorem qd_K_transact_117 : decode qc_K_transact 117 = .ok (.aload_n 0, 1) := by decide +kernel
theorem qd_K_transact_118 : decode qc_K_transact 118 = .ok (.getfield 35, 3) := by decide +kernel
theorem qd_K_transact_121 : decode qc_K_transact 121 = .ok (.iconst 2, 1) := by decide +kernel
theorem qd_K_transact_122 : decode qc_K_transact 122 = .ok (.if_icmp .ne 8, 3) := by decide +kernel
theorem qd_K_transact_125 : decode qc_K_transact 125 = .ok (.aload_n 0, 1) := by decide +kernel
theorem qd_K_transact_126 : decode qc_K_transact 126 = .ok (.iload_n 2, 1) := by decide +kernel
theorem qd_K_transact_127 : decode qc_K_transact 127 = .ok (.putfield 26, 3) := by decide +kernel
theorem qd_K_transact_130 : decode qc_K_transact 130 = .ok (.return_, 1) := by decide +kernel
theorem qd_K_begin_0 : decode qc_K_begin 0 = .ok (.aload_n 0, 1) := by decide +kernel
theorem qd_K_begin_1 : decode qc_K_begin 1 = .ok (.iconst 0, 1) := by decide +kernel
theorem qd_K_begin_2 : decode qc_K_begin 2 = .ok (.putfield 22, 3) := by decide +kernel
theorem qd_K_begin_5 : decode qc_K_begin 5 = .ok (.aload_n 0, 1) := by decide +kernel
theorem qd_K_begin_6 : decode qc_K_begin 6 = .ok (.iload_n 2, 1) := by decide +kernel
theorem qd_K_begin_7 : decode qc_K_begin 7 = .ok (.putfield 26, 3) := by decide +kernel
theorem qd_K_begin_10 : decode qc_K_begin 10 = .ok (.aload_n 0, 1) := by decide +kernel
theorem qd_K_begin_11 : decode qc_K_begin 11 = .ok (.iload_n 3, 1) := by decide +kernel
theorem qd_K_begin_12 : decode qc_K_begin 12 = .ok (.putfield 29, 3) := by decide +kernel
theorem qd_K_begin_15 : decode qc_K_begin 15 = .ok (.aload_n 0, 1) := by decide +kernel
theorem qd_K_begin_16 : decode qc_K_begin 16 = .ok (.iconst 0, 1) := by decide +kernel
theorem qd_K_begin_17 : decode qc_K_begin 17 = .ok (.putfield 32, 3) := by decide +kernel
theorem qd_K_begin_20 : decode qc_K_begin 20 = .ok (.aload_n 0, 1) := by decide +kernel
theorem qd_K_begin_21 : decode qc_K_begin 21 = .ok (.iload_n 1, 1) := by decide +kernel
theorem qd_K_begin_22 : decode qc_K_begin 22 = .ok (.iconst 4, 1) := by decide +kernel
theorem qd_K_begin_23 : decode qc_K_begin 23 = .ok (.idiv, 1) := by decide +kernel
theorem qd_K_begin_24 : decode qc_K_begin 24 = .ok (.putfield 38, 3) := by decide +kernel
theorem qd_K_begin_27 : decode qc_K_begin 27 = .ok (.aload_n 0, 1) := by decide +kernel
theorem qd_K_begin_28 : decode qc_K_begin 28 = .ok (.iload_n 1, 1) := by decide +kernel
theorem qd_K_begin_29 : decode qc_K_begin 29 = .ok (.iconst 4, 1) := by decide +kernel
theorem qd_K_begin_30 : decode qc_K_begin 30 = .ok (.irem, 1) := by decide +kernel
theorem qd_K_begin_31 : decode qc_K_begin 31 = .ok (.putfield 41, 3) := by decide +kernel
theorem qd_K_begin_34 : decode qc_K_begin 34 = .ok (.aload_n 0, 1) := by decide +kernel
theorem qd_K_begin_35 : decode qc_K_begin 35 = .ok (.iconst 0, 1) := by decide +kernel
theorem qd_K_begin_36 : decode qc_K_begin 36 = .ok (.putfield 44, 3) := by decide +kernel
theorem qd_K_begin_39 : decode qc_K_begin 39 = .ok (.aload_n 0, 1) := by decide +kernel
theorem qd_K_begin_40 : decode qc_K_begin 40 = .ok (.iconst 0, 1) := by decide +kernel
theorem qd_K_begin_41 : decode qc_K_begin 41 = .ok (.putfield 51, 3) := by decide +kernel
theorem qd_K_begin_44 : decode qc_K_begin 44 = .ok (.aload_n 0, 1) := by decide +kernel
theorem qd_K_begin_45 : decode qc_K_begin 45 = .ok (.iconst 0, 1) := by decide +kernel
theorem qd_K_begin_46 : decode qc_K_begin 46 = .ok (.putfield 54, 3) := by decide +kernel
theorem qd_K_begin_49 : decode qc_K_begin 49 = .ok (.aload_n 0, 1) := by decide +kernel
theorem qd_K_begin_50 : decode qc_K_begin 50 = .ok (.getfield 57, 3) := by decide +kernel
theorem qd_K_begin_53 : decode qc_K_begin 53 = .ok (.iconst 0, 1) := by decide +kernel
theorem qd_K_begin_54 : decode qc_K_begin 54 = .ok (.invokestatic 81, 3) := by decide +kernel
theorem qd_K_begin_57 : decode qc_K_begin 57 = .ok (.return_, 1) := by decide +kernel
theorem qd_K_keepStep_0 : decode qc_K_keepStep 0 = .ok (.aload_n 0, 1) := by decide +kernel
theorem qd_K_keepStep_1 : decode qc_K_keepStep 1 = .ok (.getfield 48, 3) := by decide +kernel
theorem qd_K_keepStep_4 : decode qc_K_keepStep 4 = .ok (.iload_n 1, 1) := by decide +kernel
theorem qd_K_keepStep_5 : decode qc_K_keepStep 5 = .ok (.aload_n 0, 1) := by decide +kernel
theorem qd_K_keepStep_6 : decode qc_K_keepStep 6 = .ok (.getfield 32, 3) := by decide +kernel
theorem qd_K_keepStep_9 : decode qc_K_keepStep 9 = .ok (.iastore, 1) := by decide +kernel
theorem qd_K_keepStep_10 : decode qc_K_keepStep 10 = .ok (.aload_n 0, 1) := by decide +kernel
theorem qd_K_keepStep_11 : decode qc_K_keepStep 11 = .ok (.iload_n 1, 1) := by decide +kernel
theorem qd_K_keepStep_12 : decode qc_K_keepStep 12 = .ok (.iconst 1, 1) := by decide +kernel
theorem qd_K_keepStep_13 : decode qc_K_keepStep 13 = .ok (.iadd, 1) := by decide +kernel
theorem qd_K_keepStep_14 : decode qc_K_keepStep 14 = .ok (.putfield 51, 3) := by decide +kernel
theorem qd_K_keepStep_17 : decode qc_K_keepStep 17 = .ok (.aload_n 0, 1) := by decide +kernel
theorem qd_K_keepStep_18 : decode qc_K_keepStep 18 = .ok (.aload_n 0, 1) := by decide +kernel
theorem qd_K_keepStep_19 : decode qc_K_keepStep 19 = .ok (.getfield 54, 3) := by decide +kernel
theorem qd_K_keepStep_22 : decode qc_K_keepStep 22 = .ok (.bipush 31, 2) := by decide +kernel
theorem qd_K_keepStep_24 : decode qc_K_keepStep 24 = .ok (.imul, 1) := by decide +kernel
theorem qd_K_keepStep_25 : decode qc_K_keepStep 25 = .ok (.aload_n 0, 1) := by decide +kernel
theorem qd_K_keepStep_26 : decode qc_K_keepStep 26 = .ok (.getfield 32, 3) := by decide +kernel
theorem qd_K_keepStep_29 : decode qc_K_keepStep 29 = .ok (.iadd, 1) := by decide +kernel
theorem qd_K_keepStep_30 : decode qc_K_keepStep 30 = .ok (.iconst 1, 1) := by decide +kernel
theorem qd_K_keepStep_31 : decode qc_K_keepStep 31 = .ok (.iadd, 1) := by decide +kernel
theorem qd_K_keepStep_32 : decode qc_K_keepStep 32 = .ok (.putfield 54, 3) := by decide +kernel
theorem qd_K_keepStep_35 : decode qc_K_keepStep 35 = .ok (.return_, 1) := by decide +kernel
theorem qd_K_perform_0 : decode qc_K_perform 0 = .ok (.aload_n 0, 1) := by decide +kernel
theorem qd_K_perform_1 : decode qc_K_perform 1 = .ok (.iload_n 1, 1) := by decide +kernel
theorem qd_K_perform_2 : decode qc_K_perform 2 = .ok (.iload_n 2, 1) := by decide +kernel
theorem qd_K_perform_3 : decode qc_K_perform 3 = .ok (.invokevirtual 87, 3) := by decide +kernel
theorem qd_K_perform_6 : decode qc_K_perform 6 = .ok (.istore_n 3, 1) := by decide +kernel
theorem qd_K_perform_7 : decode qc_K_perform 7 = .ok (.iload_n 3, 1) := by decide +kernel
theorem qd_K_perform_8 : decode qc_K_perform 8 = .ok (.iconst (-1), 1) := by decide +kernel
theorem qd_K_perform_9 : decode qc_K_perform 9 = .ok (.if_icmp .eq 14, 3) := by decide +kernel
theorem qd_K_perform_12 : decode qc_K_perform 12 = .ok (.aload_n 0, 1) := by decide +kernel
theorem qd_K_perform_13 : decode qc_K_perform 13 = .ok (.iload_n 3, 1) := by decide +kernel
theorem qd_K_perform_14 : decode qc_K_perform 14 = .ok (.invokevirtual 91, 3) := by decide +kernel
theorem qd_K_perform_17 : decode qc_K_perform 17 = .ok (.aload_n 0, 1) := by decide +kernel
theorem qd_K_perform_18 : decode qc_K_perform 18 = .ok (.iconst 2, 1) := by decide +kernel
theorem qd_K_perform_19 : decode qc_K_perform 19 = .ok (.putfield 35, 3) := by decide +kernel
theorem qd_K_perform_22 : decode qc_K_perform 22 = .ok (.return_, 1) := by decide +kernel
theorem qd_K_perform_23 : decode qc_K_perform 23 = .ok (.aload_n 0, 1) := by decide +kernel
theorem qd_K_perform_24 : decode qc_K_perform 24 = .ok (.iconst 0, 1) := by decide +kernel
theorem qd_K_perform_25 : decode qc_K_perform 25 = .ok (.invokevirtual 94, 3) := by decide +kernel
theorem qd_K_perform_28 : decode qc_K_perform 28 = .ok (.istore 4, 2) := by decide +kernel
theorem qd_K_perform_30 : decode qc_K_perform 30 = .ok (.aload_n 0, 1) := by decide +kernel
theorem qd_K_perform_31 : decode qc_K_perform 31 = .ok (.iconst 1, 1) := by decide +kernel
theorem qd_K_perform_32 : decode qc_K_perform 32 = .ok (.invokevirtual 94, 3) := by decide +kernel
theorem qd_K_perform_35 : decode qc_K_perform 35 = .ok (.istore 5, 2) := by decide +kernel
theorem qd_K_perform_37 : decode qc_K_perform 37 = .ok (.aload_n 0, 1) := by decide +kernel
theorem qd_K_perform_38 : decode qc_K_perform 38 = .ok (.iload_n 1, 1) := by decide +kernel
theorem qd_K_perform_39 : decode qc_K_perform 39 = .ok (.iload 4, 2) := by decide +kernel
theorem qd_K_perform_41 : decode qc_K_perform 41 = .ok (.iload 5, 2) := by decide +kernel
theorem qd_K_perform_43 : decode qc_K_perform 43 = .ok (.invokevirtual 98, 3) := by decide +kernel
theorem qd_K_perform_46 : decode qc_K_perform 46 = .ok (.aload_n 0, 1) := by decide +kernel
theorem qd_K_perform_47 : decode qc_K_perform 47 = .ok (.dup, 1) := by decide +kernel
theorem qd_K_perform_48 : decode qc_K_perform 48 = .ok (.getfield 29, 3) := by decide +kernel
theorem qd_K_perform_51 : decode qc_K_perform 51 = .ok (.getstatic 101, 3) := by decide +kernel
theorem qd_K_perform_54 : decode qc_K_perform 54 = .ok (.iload_n 1, 1) := by decide +kernel
theorem qd_K_perform_55 : decode qc_K_perform 55 = .ok (.iaload, 1) := by decide +kernel
theorem qd_K_perform_56 : decode qc_K_perform 56 = .ok (.isub, 1) := by decide +kernel
theorem qd_K_perform_57 : decode qc_K_perform 57 = .ok (.putfield 29, 3) := by decide +kernel
theorem qd_K_perform_60 : decode qc_K_perform 60 = .ok (.aload_n 0, 1) := by decide +kernel
theorem qd_K_perform_61 : decode qc_K_perform 61 = .ok (.dup, 1) := by decide +kernel
theorem qd_K_perform_62 : decode qc_K_perform 62 = .ok (.getfield 22, 3) := by decide +kernel
theorem qd_K_perform_65 : decode qc_K_perform 65 = .ok (.getstatic 104, 3) := by decide +kernel
theorem qd_K_perform_68 : decode qc_K_perform 68 = .ok (.iload_n 1, 1) := by decide +kernel
theorem qd_K_perform_69 : decode qc_K_perform 69 = .ok (.iaload, 1) := by decide +kernel
theorem qd_K_perform_70 : decode qc_K_perform 70 = .ok (.isub, 1) := by decide +kernel
theorem qd_K_perform_71 : decode qc_K_perform 71 = .ok (.putfield 22, 3) := by decide +kernel
theorem qd_K_perform_74 : decode qc_K_perform 74 = .ok (.aload_n 0, 1) := by decide +kernel
theorem qd_K_perform_75 : decode qc_K_perform 75 = .ok (.dup, 1) := by decide +kernel
theorem qd_K_perform_76 : decode qc_K_perform 76 = .ok (.getfield 32, 3) := by decide +kernel
theorem qd_K_perform_79 : decode qc_K_perform 79 = .ok (.iconst 1, 1) := by decide +kernel
theorem qd_K_perform_80 : decode qc_K_perform 80 = .ok (.iadd, 1) := by decide +kernel
theorem qd_K_perform_81 : decode qc_K_perform 81 = .ok (.putfield 32, 3) := by decide +kernel
theorem qd_K_perform_84 : decode qc_K_perform 84 = .ok (.getstatic 107, 3) := by decide +kernel
theorem qd_K_perform_87 : decode qc_K_perform 87 = .ok (.iload_n 1, 1) := by decide +kernel
theorem qd_K_perform_88 : decode qc_K_perform 88 = .ok (.iaload, 1) := by decide +kernel
theorem qd_K_perform_89 : decode qc_K_perform 89 = .ok (.iconst 1, 1) := by decide +kernel
theorem qd_K_perform_90 : decode qc_K_perform 90 = .ok (.if_icmp .ne 35, 3) := by decide +kernel
theorem qd_K_perform_93 : decode qc_K_perform 93 = .ok (.aload_n 0, 1) := by decide +kernel
theorem qd_K_perform_94 : decode qc_K_perform 94 = .ok (.getfield 18, 3) := by decide +kernel
theorem qd_K_perform_97 : decode qc_K_perform 97 = .ok (.aload_n 0, 1) := by decide +kernel
theorem qd_K_perform_98 : decode qc_K_perform 98 = .ok (.getfield 22, 3) := by decide +kernel
theorem qd_K_perform_101 : decode qc_K_perform 101 = .ok (.aload_n 0, 1) := by decide +kernel
theorem qd_K_perform_102 : decode qc_K_perform 102 = .ok (.iload_n 1, 1) := by decide +kernel
theorem qd_K_perform_103 : decode qc_K_perform 103 = .ok (.iload_n 2, 1) := by decide +kernel
theorem qd_K_perform_104 : decode qc_K_perform 104 = .ok (.iload 4, 2) := by decide +kernel
theorem qd_K_perform_106 : decode qc_K_perform 106 = .ok (.iload 5, 2) := by decide +kernel
theorem qd_K_perform_108 : decode qc_K_perform 108 = .ok (.invokevirtual 110, 3) := by decide +kernel
theorem qd_K_perform_111 : decode qc_K_perform 111 = .ok (.iastore, 1) := by decide +kernel
theorem qd_K_perform_112 : decode qc_K_perform 112 = .ok (.aload_n 0, 1) := by decide +kernel
theorem qd_K_perform_113 : decode qc_K_perform 113 = .ok (.dup, 1) := by decide +kernel
theorem qd_K_perform_114 : decode qc_K_perform 114 = .ok (.getfield 22, 3) := by decide +kernel
theorem qd_K_perform_117 : decode qc_K_perform 117 = .ok (.iconst 1, 1) := by decide +kernel
theorem qd_K_perform_118 : decode qc_K_perform 118 = .ok (.iadd, 1) := by decide +kernel
theorem qd_K_perform_119 : decode qc_K_perform 119 = .ok (.putfield 22, 3) := by decide +kernel
theorem qd_K_perform_122 : decode qc_K_perform 122 = .ok (.goto 13, 3) := by decide +kernel
theorem qd_K_perform_125 : decode qc_K_perform 125 = .ok (.aload_n 0, 1) := by decide +kernel
theorem qd_K_perform_126 : decode qc_K_perform 126 = .ok (.iload_n 1, 1) := by decide +kernel
theorem qd_K_perform_127 : decode qc_K_perform 127 = .ok (.iload_n 2, 1) := by decide +kernel
theorem qd_K_perform_128 : decode qc_K_perform 128 = .ok (.iload 4, 2) := by decide +kernel
theorem qd_K_perform_130 : decode qc_K_perform 130 = .ok (.iload 5, 2) := by decide +kernel
theorem qd_K_perform_132 : decode qc_K_perform 132 = .ok (.invokevirtual 114, 3) := by decide +kernel
theorem qd_K_perform_135 : decode qc_K_perform 135 = .ok (.return_, 1) := by decide +kernel
theorem qd_K_faultOf_0 : decode qc_K_faultOf 0 = .ok (.aload_n 0, 1) := by decide +kernel
theorem qd_K_faultOf_1 : decode qc_K_faultOf 1 = .ok (.getfield 22, 3) := by decide +kernel
theorem qd_K_faultOf_4 : decode qc_K_faultOf 4 = .ok (.getstatic 104, 3) := by decide +kernel
theorem qd_K_faultOf_7 : decode qc_K_faultOf 7 = .ok (.iload_n 1, 1) := by decide +kernel
theorem qd_K_faultOf_8 : decode qc_K_faultOf 8 = .ok (.iaload, 1) := by decide +kernel
theorem qd_K_faultOf_9 : decode qc_K_faultOf 9 = .ok (.isub, 1) := by decide +kernel
theorem qd_K_faultOf_10 : decode qc_K_faultOf 10 = .ok (.istore_n 3, 1) := by decide +kernel
theorem qd_K_faultOf_11 : decode qc_K_faultOf 11 = .ok (.aload_n 0, 1) := by decide +kernel
theorem qd_K_faultOf_12 : decode qc_K_faultOf 12 = .ok (.getfield 29, 3) := by decide +kernel
theorem qd_K_faultOf_15 : decode qc_K_faultOf 15 = .ok (.getstatic 101, 3) := by decide +kernel
theorem qd_K_faultOf_18 : decode qc_K_faultOf 18 = .ok (.iload_n 1, 1) := by decide +kernel
theorem qd_K_faultOf_19 : decode qc_K_faultOf 19 = .ok (.iaload, 1) := by decide +kernel
theorem qd_K_faultOf_20 : decode qc_K_faultOf 20 = .ok (.if_icmp .lt 19, 3) := by decide +kernel
theorem qd_K_faultOf_23 : decode qc_K_faultOf 23 = .ok (.iload_n 3, 1) := by decide +kernel
theorem qd_K_faultOf_24 : decode qc_K_faultOf 24 = .ok (.ifCond .lt 15, 3) := by decide +kernel
theorem qd_K_faultOf_27 : decode qc_K_faultOf 27 = .ok (.iload_n 3, 1) := by decide +kernel
theorem qd_K_faultOf_28 : decode qc_K_faultOf 28 = .ok (.getstatic 107, 3) := by decide +kernel
theorem qd_K_faultOf_31 : decode qc_K_faultOf 31 = .ok (.iload_n 1, 1) := by decide +kernel
theorem qd_K_faultOf_32 : decode qc_K_faultOf 32 = .ok (.iaload, 1) := by decide +kernel
theorem qd_K_faultOf_33 : decode qc_K_faultOf 33 = .ok (.iadd, 1) := by decide +kernel
theorem qd_K_faultOf_34 : decode qc_K_faultOf 34 = .ok (.bipush 6, 2) := by decide +kernel
theorem qd_K_faultOf_36 : decode qc_K_faultOf 36 = .ok (.if_icmp .le 5, 3) := by decide +kernel
theorem qd_K_faultOf_39 : decode qc_K_faultOf 39 = .ok (.iconst 4, 1) := by decide +kernel
theorem qd_K_faultOf_40 : decode qc_K_faultOf 40 = .ok (.ireturn, 1) := by decide +kernel
theorem qd_K_faultOf_41 : decode qc_K_faultOf 41 = .ok (.iload_n 1, 1) := by decide +kernel
theorem qd_K_faultOf_42 : decode qc_K_faultOf 42 = .ok (.lookupswitch 148 #[(3, 50), (4, 64), (17, 80), (18, 103), (21, 134)], 50) := by decide +kernel
theorem qd_K_faultOf_92 : decode qc_K_faultOf 92 = .ok (.iload_n 2, 1) := by decide +kernel
theorem qd_K_faultOf_93 : decode qc_K_faultOf 93 = .ok (.aload_n 0, 1) := by decide +kernel
theorem qd_K_faultOf_94 : decode qc_K_faultOf 94 = .ok (.getfield 22, 3) := by decide +kernel
theorem qd_K_faultOf_97 : decode qc_K_faultOf 97 = .ok (.if_icmp .ge 7, 3) := by decide +kernel
theorem qd_K_faultOf_100 : decode qc_K_faultOf 100 = .ok (.iconst (-1), 1) := by decide +kernel
theorem qd_K_faultOf_101 : decode qc_K_faultOf 101 = .ok (.goto 4, 3) := by decide +kernel
theorem qd_K_faultOf_104 : decode qc_K_faultOf 104 = .ok (.iconst 4, 1) := by decide +kernel
theorem qd_K_faultOf_105 : decode qc_K_faultOf 105 = .ok (.ireturn, 1) := by decide +kernel
theorem qd_K_faultOf_106 : decode qc_K_faultOf 106 = .ok (.iload_n 2, 1) := by decide +kernel
theorem qd_K_faultOf_107 : decode qc_K_faultOf 107 = .ok (.iconst 1, 1) := by decide +kernel
theorem qd_K_faultOf_108 : decode qc_K_faultOf 108 = .ok (.iadd, 1) := by decide +kernel
theorem qd_K_faultOf_109 : decode qc_K_faultOf 109 = .ok (.aload_n 0, 1) := by decide +kernel
theorem qd_K_faultOf_110 : decode qc_K_faultOf 110 = .ok (.getfield 22, 3) := by decide +kernel
theorem qd_K_faultOf_113 : decode qc_K_faultOf 113 = .ok (.if_icmp .ge 7, 3) := by decide +kernel
theorem qd_K_faultOf_116 : decode qc_K_faultOf 116 = .ok (.iconst (-1), 1) := by decide +kernel
theorem qd_K_faultOf_117 : decode qc_K_faultOf 117 = .ok (.goto 4, 3) := by decide +kernel
theorem qd_K_faultOf_120 : decode qc_K_faultOf 120 = .ok (.iconst 4, 1) := by decide +kernel
theorem qd_K_faultOf_121 : decode qc_K_faultOf 121 = .ok (.ireturn, 1) := by decide +kernel
theorem qd_K_faultOf_122 : decode qc_K_faultOf 122 = .ok (.aload_n 0, 1) := by decide +kernel
theorem qd_K_faultOf_123 : decode qc_K_faultOf 123 = .ok (.getfield 12, 3) := by decide +kernel
theorem qd_K_faultOf_126 : decode qc_K_faultOf 126 = .ok (.getfield 118, 3) := by decide +kernel
theorem qd_K_faultOf_129 : decode qc_K_faultOf 129 = .ok (.aload_n 0, 1) := by decide +kernel
theorem qd_K_faultOf_130 : decode qc_K_faultOf 130 = .ok (.iconst 0, 1) := by decide +kernel
theorem qd_K_faultOf_131 : decode qc_K_faultOf 131 = .ok (.invokevirtual 94, 3) := by decide +kernel
theorem qd_K_faultOf_134 : decode qc_K_faultOf 134 = .ok (.iaload, 1) := by decide +kernel
theorem qd_K_faultOf_135 : decode qc_K_faultOf 135 = .ok (.iconst (-1), 1) := by decide +kernel
theorem qd_K_faultOf_136 : decode qc_K_faultOf 136 = .ok (.if_icmp .eq 7, 3) := by decide +kernel
theorem qd_K_faultOf_139 : decode qc_K_faultOf 139 = .ok (.iconst (-1), 1) := by decide +kernel
theorem qd_K_faultOf_140 : decode qc_K_faultOf 140 = .ok (.goto 4, 3) := by decide +kernel
theorem qd_K_faultOf_143 : decode qc_K_faultOf 143 = .ok (.iconst 4, 1) := by decide +kernel
theorem qd_K_faultOf_144 : decode qc_K_faultOf 144 = .ok (.ireturn, 1) := by decide +kernel
theorem qd_K_faultOf_145 : decode qc_K_faultOf 145 = .ok (.aload_n 0, 1) := by decide +kernel
theorem qd_K_faultOf_146 : decode qc_K_faultOf 146 = .ok (.iconst 1, 1) := by decide +kernel
theorem qd_K_faultOf_147 : decode qc_K_faultOf 147 = .ok (.invokevirtual 94, 3) := by decide +kernel
theorem qd_K_faultOf_150 : decode qc_K_faultOf 150 = .ok (.ifCond .eq 20, 3) := by decide +kernel
theorem qd_K_faultOf_153 : decode qc_K_faultOf 153 = .ok (.aload_n 0, 1) := by decide +kernel
theorem qd_K_faultOf_154 : decode qc_K_faultOf 154 = .ok (.getfield 12, 3) := by decide +kernel
theorem qd_K_faultOf_157 : decode qc_K_faultOf 157 = .ok (.getfield 118, 3) := by decide +kernel
theorem qd_K_faultOf_160 : decode qc_K_faultOf 160 = .ok (.aload_n 0, 1) := by decide +kernel
theorem qd_K_faultOf_161 : decode qc_K_faultOf 161 = .ok (.iconst 0, 1) := by decide +kernel
theorem qd_K_faultOf_162 : decode qc_K_faultOf 162 = .ok (.invokevirtual 94, 3) := by decide +kernel
theorem qd_K_faultOf_165 : decode qc_K_faultOf 165 = .ok (.iaload, 1) := by decide +kernel
theorem qd_K_faultOf_166 : decode qc_K_faultOf 166 = .ok (.iconst (-1), 1) := by decide +kernel
theorem qd_K_faultOf_167 : decode qc_K_faultOf 167 = .ok (.if_icmp .eq 7, 3) := by decide +kernel
theorem qd_K_faultOf_170 : decode qc_K_faultOf 170 = .ok (.iconst (-1), 1) := by decide +kernel
theorem qd_K_faultOf_171 : decode qc_K_faultOf 171 = .ok (.goto 4, 3) := by decide +kernel
theorem qd_K_faultOf_174 : decode qc_K_faultOf 174 = .ok (.iconst 4, 1) := by decide +kernel
theorem qd_K_faultOf_175 : decode qc_K_faultOf 175 = .ok (.ireturn, 1) := by decide +kernel
theorem qd_K_faultOf_176 : decode qc_K_faultOf 176 = .ok (.aload_n 0, 1) := by decide +kernel
theorem qd_K_faultOf_177 : decode qc_K_faultOf 177 = .ok (.iconst 0, 1) := by decide +kernel
theorem qd_K_faultOf_178 : decode qc_K_faultOf 178 = .ok (.invokevirtual 94, 3) := by decide +kernel
theorem qd_K_faultOf_181 : decode qc_K_faultOf 181 = .ok (.ifCond .eq 7, 3) := by decide +kernel
theorem qd_K_faultOf_184 : decode qc_K_faultOf 184 = .ok (.iconst (-1), 1) := by decide +kernel
theorem qd_K_faultOf_185 : decode qc_K_faultOf 185 = .ok (.goto 4, 3) := by decide +kernel
theorem qd_K_faultOf_188 : decode qc_K_faultOf 188 = .ok (.iconst 0, 1) := by decide +kernel
theorem qd_K_faultOf_189 : decode qc_K_faultOf 189 = .ok (.ireturn, 1) := by decide +kernel
theorem qd_K_faultOf_190 : decode qc_K_faultOf 190 = .ok (.iconst (-1), 1) := by decide +kernel
theorem qd_K_faultOf_191 : decode qc_K_faultOf 191 = .ok (.ireturn, 1) := by decide +kernel
theorem qd_K_look_0 : decode qc_K_look 0 = .ok (.iload_n 1, 1) := by decide +kernel
theorem qd_K_look_1 : decode qc_K_look 1 = .ok (.bipush 6, 2) := by decide +kernel
theorem qd_K_look_3 : decode qc_K_look 3 = .ok (.if_icmp .ne 11, 3) := by decide +kernel
theorem qd_K_look_6 : decode qc_K_look 6 = .ok (.iload_n 3, 1) := by decide +kernel
theorem qd_K_look_7 : decode qc_K_look 7 = .ok (.iload_n 2, 1) := by decide +kernel
theorem qd_K_look_8 : decode qc_K_look 8 = .ok (.iadd, 1) := by decide +kernel
theorem qd_K_look_9 : decode qc_K_look 9 = .ok (.bipush 16, 2) := by decide +kernel
theorem qd_K_look_11 : decode qc_K_look 11 = .ok (.if_icmp .ge 28, 3) := by decide +kernel
theorem qd_K_look_14 : decode qc_K_look 14 = .ok (.iload_n 1, 1) := by decide +kernel
theorem qd_K_look_15 : decode qc_K_look 15 = .ok (.bipush 8, 2) := by decide +kernel
theorem qd_K_look_17 : decode qc_K_look 17 = .ok (.if_icmp .ne 11, 3) := by decide +kernel
theorem qd_K_look_20 : decode qc_K_look 20 = .ok (.iload_n 3, 1) := by decide +kernel
theorem qd_K_look_21 : decode qc_K_look 21 = .ok (.iload_n 2, 1) := by decide +kernel
theorem qd_K_look_22 : decode qc_K_look 22 = .ok (.imul, 1) := by decide +kernel
theorem qd_K_look_23 : decode qc_K_look 23 = .ok (.bipush 16, 2) := by decide +kernel
theorem qd_K_look_25 : decode qc_K_look 25 = .ok (.if_icmp .ge 14, 3) := by decide +kernel
theorem qd_K_look_28 : decode qc_K_look 28 = .ok (.iload_n 1, 1) := by decide +kernel
theorem qd_K_look_29 : decode qc_K_look 29 = .ok (.bipush 7, 2) := by decide +kernel
theorem qd_K_look_31 : decode qc_K_look 31 = .ok (.if_icmp .ne 12, 3) := by decide +kernel
theorem qd_K_look_34 : decode qc_K_look 34 = .ok (.iload_n 2, 1) := by decide +kernel
theorem qd_K_look_35 : decode qc_K_look 35 = .ok (.iload_n 3, 1) := by decide +kernel
theorem qd_K_look_36 : decode qc_K_look 36 = .ok (.if_icmp .le 7, 3) := by decide +kernel
theorem qd_K_look_39 : decode qc_K_look 39 = .ok (.iconst 1, 1) := by decide +kernel
theorem qd_K_look_40 : decode qc_K_look 40 = .ok (.goto 4, 3) := by decide +kernel
theorem qd_K_look_43 : decode qc_K_look 43 = .ok (.iconst 0, 1) := by decide +kernel
theorem qd_K_look_44 : decode qc_K_look 44 = .ok (.istore 4, 2) := by decide +kernel
theorem qd_K_look_46 : decode qc_K_look 46 = .ok (.iload 4, 2) := by decide +kernel
theorem qd_K_look_48 : decode qc_K_look 48 = .ok (.ifCond .eq 11, 3) := by decide +kernel
theorem qd_K_look_51 : decode qc_K_look 51 = .ok (.aload_n 0, 1) := by decide +kernel
theorem qd_K_look_52 : decode qc_K_look 52 = .ok (.iconst 1, 1) := by decide +kernel
theorem qd_K_look_53 : decode qc_K_look 53 = .ok (.invokevirtual 91, 3) := by decide +kernel
theorem qd_K_look_56 : decode qc_K_look 56 = .ok (.goto 42, 3) := by decide +kernel
theorem qd_K_look_59 : decode qc_K_look 59 = .ok (.iload_n 1, 1) := by decide +kernel
theorem qd_K_look_60 : decode qc_K_look 60 = .ok (.bipush 24, 2) := by decide +kernel
theorem qd_K_look_62 : decode qc_K_look 62 = .ok (.if_icmp .ne 18, 3) := by decide +kernel
theorem qd_K_look_65 : decode qc_K_look 65 = .ok (.aload_n 0, 1) := by decide +kernel
theorem qd_K_look_66 : decode qc_K_look 66 = .ok (.getfield 41, 3) := by decide +kernel
theorem qd_K_look_69 : decode qc_K_look 69 = .ok (.ifCond .eq 11, 3) := by decide +kernel
theorem qd_K_look_72 : decode qc_K_look 72 = .ok (.aload_n 0, 1) := by decide +kernel
theorem qd_K_look_73 : decode qc_K_look 73 = .ok (.iconst 2, 1) := by decide +kernel
theorem qd_K_look_74 : decode qc_K_look 74 = .ok (.invokevirtual 91, 3) := by decide +kernel
theorem qd_K_look_77 : decode qc_K_look 77 = .ok (.goto 21, 3) := by decide +kernel
theorem qd_K_look_80 : decode qc_K_look 80 = .ok (.iload_n 1, 1) := by decide +kernel
theorem qd_K_look_81 : decode qc_K_look 81 = .ok (.bipush 15, 2) := by decide +kernel
theorem qd_K_look_83 : decode qc_K_look 83 = .ok (.if_icmp .ne 15, 3) := by decide +kernel
theorem qd_K_look_86 : decode qc_K_look 86 = .ok (.aload_n 0, 1) := by decide +kernel
theorem qd_K_look_87 : decode qc_K_look 87 = .ok (.getfield 44, 3) := by decide +kernel
theorem qd_K_look_90 : decode qc_K_look 90 = .ok (.ifCond .eq 8, 3) := by decide +kernel
theorem qd_K_look_93 : decode qc_K_look 93 = .ok (.aload_n 0, 1) := by decide +kernel
theorem qd_K_look_94 : decode qc_K_look 94 = .ok (.iconst 3, 1) := by decide +kernel
theorem qd_K_look_95 : decode qc_K_look 95 = .ok (.invokevirtual 91, 3) := by decide +kernel
theorem qd_K_look_98 : decode qc_K_look 98 = .ok (.return_, 1) := by decide +kernel
theorem qd_K_wordPut_0 : decode qc_K_wordPut 0 = .ok (.iload_n 1, 1) := by decide +kernel
theorem qd_K_wordPut_1 : decode qc_K_wordPut 1 = .ok (.tableswitch 210 0 20 #[99, 101, 106, 111, 210, 210, 117, 125, 133, 141, 146, 151, 163, 175, 185, 210, 210, 210, 210, 196, 202], 99) := by decide +kernel
theorem qd_K_wordPut_100 : decode qc_K_wordPut 100 = .ok (.iload_n 2, 1) := by decide +kernel
theorem qd_K_wordPut_101 : decode qc_K_wordPut 101 = .ok (.ireturn, 1) := by decide +kernel
theorem qd_K_wordPut_102 : decode qc_K_wordPut 102 = .ok (.aload_n 0, 1) := by decide +kernel
theorem qd_K_wordPut_103 : decode qc_K_wordPut 103 = .ok (.getfield 38, 3) := by decide +kernel
theorem qd_K_wordPut_106 : decode qc_K_wordPut 106 = .ok (.ireturn, 1) := by decide +kernel
theorem qd_K_wordPut_107 : decode qc_K_wordPut 107 = .ok (.aload_n 0, 1) := by decide +kernel
theorem qd_K_wordPut_108 : decode qc_K_wordPut 108 = .ok (.getfield 41, 3) := by decide +kernel
theorem qd_K_wordPut_111 : decode qc_K_wordPut 111 = .ok (.ireturn, 1) := by decide +kernel
theorem qd_K_wordPut_112 : decode qc_K_wordPut 112 = .ok (.aload_n 0, 1) := by decide +kernel
theorem qd_K_wordPut_113 : decode qc_K_wordPut 113 = .ok (.iload_n 2, 1) := by decide +kernel
theorem qd_K_wordPut_114 : decode qc_K_wordPut 114 = .ok (.invokevirtual 94, 3) := by decide +kernel
theorem qd_K_wordPut_117 : decode qc_K_wordPut 117 = .ok (.ireturn, 1) := by decide +kernel
theorem qd_K_wordPut_118 : decode qc_K_wordPut 118 = .ok (.iload 4, 2) := by decide +kernel
theorem qd_K_wordPut_120 : decode qc_K_wordPut 120 = .ok (.iload_n 3, 1) := by decide +kernel
theorem qd_K_wordPut_121 : decode qc_K_wordPut 121 = .ok (.iadd, 1) := by decide +kernel
theorem qd_K_wordPut_122 : decode qc_K_wordPut 122 = .ok (.bipush 15, 2) := by decide +kernel
theorem qd_K_wordPut_124 : decode qc_K_wordPut 124 = .ok (.iand, 1) := by decide +kernel
theorem qd_K_wordPut_125 : decode qc_K_wordPut 125 = .ok (.ireturn, 1) := by decide +kernel
theorem qd_K_wordPut_126 : decode qc_K_wordPut 126 = .ok (.iload 4, 2) := by decide +kernel
theorem qd_K_wordPut_128 : decode qc_K_wordPut 128 = .ok (.iload_n 3, 1) := by decide +kernel
theorem qd_K_wordPut_129 : decode qc_K_wordPut 129 = .ok (.isub, 1) := by decide +kernel
theorem qd_K_wordPut_130 : decode qc_K_wordPut 130 = .ok (.bipush 15, 2) := by decide +kernel
theorem qd_K_wordPut_132 : decode qc_K_wordPut 132 = .ok (.iand, 1) := by decide +kernel
theorem qd_K_wordPut_133 : decode qc_K_wordPut 133 = .ok (.ireturn, 1) := by decide +kernel
theorem qd_K_wordPut_134 : decode qc_K_wordPut 134 = .ok (.iload 4, 2) := by decide +kernel
theorem qd_K_wordPut_136 : decode qc_K_wordPut 136 = .ok (.iload_n 3, 1) := by decide +kernel
theorem qd_K_wordPut_137 : decode qc_K_wordPut 137 = .ok (.imul, 1) := by decide +kernel
theorem qd_K_wordPut_138 : decode qc_K_wordPut 138 = .ok (.bipush 15, 2) := by decide +kernel
theorem qd_K_wordPut_140 : decode qc_K_wordPut 140 = .ok (.iand, 1) := by decide +kernel
theorem qd_K_wordPut_141 : decode qc_K_wordPut 141 = .ok (.ireturn, 1) := by decide +kernel
theorem qd_K_wordPut_142 : decode qc_K_wordPut 142 = .ok (.iload 4, 2) := by decide +kernel
theorem qd_K_wordPut_144 : decode qc_K_wordPut 144 = .ok (.iload_n 3, 1) := by decide +kernel
theorem qd_K_wordPut_145 : decode qc_K_wordPut 145 = .ok (.iand, 1) := by decide +kernel
theorem qd_K_wordPut_146 : decode qc_K_wordPut 146 = .ok (.ireturn, 1) := by decide +kernel
theorem qd_K_wordPut_147 : decode qc_K_wordPut 147 = .ok (.iload 4, 2) := by decide +kernel
theorem qd_K_wordPut_149 : decode qc_K_wordPut 149 = .ok (.iload_n 3, 1) := by decide +kernel
theorem qd_K_wordPut_150 : decode qc_K_wordPut 150 = .ok (.ixor, 1) := by decide +kernel
theorem qd_K_wordPut_151 : decode qc_K_wordPut 151 = .ok (.ireturn, 1) := by decide +kernel
theorem qd_K_wordPut_152 : decode qc_K_wordPut 152 = .ok (.iload 4, 2) := by decide +kernel
theorem qd_K_wordPut_154 : decode qc_K_wordPut 154 = .ok (.iload_n 3, 1) := by decide +kernel
theorem qd_K_wordPut_155 : decode qc_K_wordPut 155 = .ok (.if_icmp .ge 7, 3) := by decide +kernel
theorem qd_K_wordPut_158 : decode qc_K_wordPut 158 = .ok (.iconst 1, 1) := by decide +kernel
theorem qd_K_wordPut_159 : decode qc_K_wordPut 159 = .ok (.goto 4, 3) := by decide +kernel
theorem qd_K_wordPut_162 : decode qc_K_wordPut 162 = .ok (.iconst 0, 1) := by decide +kernel
theorem qd_K_wordPut_163 : decode qc_K_wordPut 163 = .ok (.ireturn, 1) := by decide +kernel
theorem qd_K_wordPut_164 : decode qc_K_wordPut 164 = .ok (.iload 4, 2) := by decide +kernel
theorem qd_K_wordPut_166 : decode qc_K_wordPut 166 = .ok (.iload_n 3, 1) := by decide +kernel
theorem qd_K_wordPut_167 : decode qc_K_wordPut 167 = .ok (.if_icmp .ne 7, 3) := by decide +kernel
theorem qd_K_wordPut_170 : decode qc_K_wordPut 170 = .ok (.iconst 1, 1) := by decide +kernel
theorem qd_K_wordPut_171 : decode qc_K_wordPut 171 = .ok (.goto 4, 3) := by decide +kernel
theorem qd_K_wordPut_174 : decode qc_K_wordPut 174 = .ok (.iconst 0, 1) := by decide +kernel
theorem qd_K_wordPut_175 : decode qc_K_wordPut 175 = .ok (.ireturn, 1) := by decide +kernel
theorem qd_K_wordPut_176 : decode qc_K_wordPut 176 = .ok (.iload_n 3, 1) := by decide +kernel
theorem qd_K_wordPut_177 : decode qc_K_wordPut 177 = .ok (.ifCond .ne 7, 3) := by decide +kernel
theorem qd_K_wordPut_180 : decode qc_K_wordPut 180 = .ok (.iconst 1, 1) := by decide +kernel
theorem qd_K_wordPut_181 : decode qc_K_wordPut 181 = .ok (.goto 4, 3) := by decide +kernel
theorem qd_K_wordPut_184 : decode qc_K_wordPut 184 = .ok (.iconst 0, 1) := by decide +kernel
theorem qd_K_wordPut_185 : decode qc_K_wordPut 185 = .ok (.ireturn, 1) := by decide +kernel
theorem qd_K_wordPut_186 : decode qc_K_wordPut 186 = .ok (.aload_n 0, 1) := by decide +kernel
theorem qd_K_wordPut_187 : decode qc_K_wordPut 187 = .ok (.getfield 26, 3) := by decide +kernel
theorem qd_K_wordPut_190 : decode qc_K_wordPut 190 = .ok (.iload_n 3, 1) := by decide +kernel
theorem qd_K_wordPut_191 : decode qc_K_wordPut 191 = .ok (.iconst 4, 1) := by decide +kernel
theorem qd_K_wordPut_192 : decode qc_K_wordPut 192 = .ok (.irem, 1) := by decide +kernel
theorem qd_K_wordPut_193 : decode qc_K_wordPut 193 = .ok (.invokestatic 121, 3) := by decide +kernel
theorem qd_K_wordPut_196 : decode qc_K_wordPut 196 = .ok (.ireturn, 1) := by decide +kernel
theorem qd_K_wordPut_197 : decode qc_K_wordPut 197 = .ok (.aload_n 0, 1) := by decide +kernel
theorem qd_K_wordPut_198 : decode qc_K_wordPut 198 = .ok (.iload_n 3, 1) := by decide +kernel
theorem qd_K_wordPut_199 : decode qc_K_wordPut 199 = .ok (.invokevirtual 124, 3) := by decide +kernel
theorem qd_K_wordPut_202 : decode qc_K_wordPut 202 = .ok (.ireturn, 1) := by decide +kernel
theorem qd_K_wordPut_203 : decode qc_K_wordPut 203 = .ok (.aload_n 0, 1) := by decide +kernel
theorem qd_K_wordPut_204 : decode qc_K_wordPut 204 = .ok (.getfield 26, 3) := by decide +kernel
theorem qd_K_wordPut_207 : decode qc_K_wordPut 207 = .ok (.bipush 16, 2) := by decide +kernel
theorem qd_K_wordPut_209 : decode qc_K_wordPut 209 = .ok (.ishr, 1) := by decide +kernel
theorem qd_K_wordPut_210 : decode qc_K_wordPut 210 = .ok (.ireturn, 1) := by decide +kernel
theorem qd_K_wordPut_211 : decode qc_K_wordPut 211 = .ok (.iconst 0, 1) := by decide +kernel
theorem qd_K_wordPut_212 : decode qc_K_wordPut 212 = .ok (.ireturn, 1) := by decide +kernel
theorem qd_K_act_0 : decode qc_K_act 0 = .ok (.iload_n 1, 1) := by decide +kernel
theorem qd_K_act_1 : decode qc_K_act 1 = .ok (.tableswitch 207 4 24 #[99, 207, 207, 207, 207, 207, 207, 207, 207, 207, 207, 120, 207, 139, 155, 207, 207, 207, 183, 191, 199], 99) := by decide +kernel
theorem qd_K_act_100 : decode qc_K_act 100 = .ok (.aload_n 0, 1) := by decide +kernel
theorem qd_K_act_101 : decode qc_K_act 101 = .ok (.aload_n 0, 1) := by decide +kernel
theorem qd_K_act_102 : decode qc_K_act 102 = .ok (.getfield 22, 3) := by decide +kernel
theorem qd_K_act_105 : decode qc_K_act 105 = .ok (.iconst 1, 1) := by decide +kernel
theorem qd_K_act_106 : decode qc_K_act 106 = .ok (.isub, 1) := by decide +kernel
theorem qd_K_act_107 : decode qc_K_act 107 = .ok (.aload_n 0, 1) := by decide +kernel
theorem qd_K_act_108 : decode qc_K_act 108 = .ok (.getfield 22, 3) := by decide +kernel
theorem qd_K_act_111 : decode qc_K_act 111 = .ok (.iconst 2, 1) := by decide +kernel
theorem qd_K_act_112 : decode qc_K_act 112 = .ok (.isub, 1) := by decide +kernel
theorem qd_K_act_113 : decode qc_K_act 113 = .ok (.iload_n 2, 1) := by decide +kernel
theorem qd_K_act_114 : decode qc_K_act 114 = .ok (.isub, 1) := by decide +kernel
theorem qd_K_act_115 : decode qc_K_act 115 = .ok (.invokevirtual 127, 3) := by decide +kernel
theorem qd_K_act_118 : decode qc_K_act 118 = .ok (.goto 90, 3) := by decide +kernel
theorem qd_K_act_121 : decode qc_K_act 121 = .ok (.aload_n 0, 1) := by decide +kernel
theorem qd_K_act_122 : decode qc_K_act 122 = .ok (.aload_n 0, 1) := by decide +kernel
theorem qd_K_act_123 : decode qc_K_act 123 = .ok (.getfield 26, 3) := by decide +kernel
theorem qd_K_act_126 : decode qc_K_act 126 = .ok (.iload_n 3, 1) := by decide +kernel
theorem qd_K_act_127 : decode qc_K_act 127 = .ok (.iconst 4, 1) := by decide +kernel
theorem qd_K_act_128 : decode qc_K_act 128 = .ok (.irem, 1) := by decide +kernel
theorem qd_K_act_129 : decode qc_K_act 129 = .ok (.iload 4, 2) := by decide +kernel
theorem qd_K_act_131 : decode qc_K_act 131 = .ok (.invokestatic 130, 3) := by decide +kernel
theorem qd_K_act_134 : decode qc_K_act 134 = .ok (.putfield 26, 3) := by decide +kernel
theorem qd_K_act_137 : decode qc_K_act 137 = .ok (.goto 71, 3) := by decide +kernel
theorem qd_K_act_140 : decode qc_K_act 140 = .ok (.aload_n 0, 1) := by decide +kernel
theorem qd_K_act_141 : decode qc_K_act 141 = .ok (.aload_n 0, 1) := by decide +kernel
theorem qd_K_act_142 : decode qc_K_act 142 = .ok (.getfield 12, 3) := by decide +kernel
theorem qd_K_act_145 : decode qc_K_act 145 = .ok (.getfield 118, 3) := by decide +kernel
theorem qd_K_act_148 : decode qc_K_act 148 = .ok (.iload_n 3, 1) := by decide +kernel
theorem qd_K_act_149 : decode qc_K_act 149 = .ok (.iaload, 1) := by decide +kernel
theorem qd_K_act_150 : decode qc_K_act 150 = .ok (.putfield 32, 3) := by decide +kernel
theorem qd_K_act_153 : decode qc_K_act 153 = .ok (.goto 55, 3) := by decide +kernel
theorem qd_K_act_156 : decode qc_K_act 156 = .ok (.aload_n 0, 1) := by decide +kernel
theorem qd_K_act_157 : decode qc_K_act 157 = .ok (.iload 4, 2) := by decide +kernel
theorem qd_K_act_159 : decode qc_K_act 159 = .ok (.ifCond .eq 15, 3) := by decide +kernel
theorem qd_K_act_162 : decode qc_K_act 162 = .ok (.aload_n 0, 1) := by decide +kernel
theorem qd_K_act_163 : decode qc_K_act 163 = .ok (.getfield 12, 3) := by decide +kernel
theorem qd_K_act_166 : decode qc_K_act 166 = .ok (.getfield 118, 3) := by decide +kernel
theorem qd_K_act_169 : decode qc_K_act 169 = .ok (.iload_n 3, 1) := by decide +kernel
theorem qd_K_act_170 : decode qc_K_act 170 = .ok (.iaload, 1) := by decide +kernel
theorem qd_K_act_171 : decode qc_K_act 171 = .ok (.goto 7, 3) := by decide +kernel
theorem qd_K_act_174 : decode qc_K_act 174 = .ok (.aload_n 0, 1) := by decide +kernel
theorem qd_K_act_175 : decode qc_K_act 175 = .ok (.getfield 32, 3) := by decide +kernel
theorem qd_K_act_178 : decode qc_K_act 178 = .ok (.putfield 32, 3) := by decide +kernel
theorem qd_K_act_181 : decode qc_K_act 181 = .ok (.goto 27, 3) := by decide +kernel
theorem qd_K_act_184 : decode qc_K_act 184 = .ok (.aload_n 0, 1) := by decide +kernel
theorem qd_K_act_185 : decode qc_K_act 185 = .ok (.iconst 0, 1) := by decide +kernel
theorem qd_K_act_186 : decode qc_K_act 186 = .ok (.putfield 35, 3) := by decide +kernel
theorem qd_K_act_189 : decode qc_K_act 189 = .ok (.goto 19, 3) := by decide +kernel
theorem qd_K_act_192 : decode qc_K_act 192 = .ok (.aload_n 0, 1) := by decide +kernel
theorem qd_K_act_193 : decode qc_K_act 193 = .ok (.iconst 1, 1) := by decide +kernel
theorem qd_K_act_194 : decode qc_K_act 194 = .ok (.putfield 35, 3) := by decide +kernel
theorem qd_K_act_197 : decode qc_K_act 197 = .ok (.goto 11, 3) := by decide +kernel
theorem qd_K_act_200 : decode qc_K_act 200 = .ok (.aload_n 0, 1) := by decide +kernel
theorem qd_K_act_201 : decode qc_K_act 201 = .ok (.iconst 3, 1) := by decide +kernel
theorem qd_K_act_202 : decode qc_K_act 202 = .ok (.putfield 35, 3) := by decide +kernel
theorem qd_K_act_205 : decode qc_K_act 205 = .ok (.goto 3, 3) := by decide +kernel
theorem qd_K_act_208 : decode qc_K_act 208 = .ok (.return_, 1) := by decide +kernel
theorem qd_K_send_0 : decode qc_K_send 0 = .ok (.iload_n 1, 1) := by decide +kernel
theorem qd_K_send_1 : decode qc_K_send 1 = .ok (.aload_n 0, 1) := by decide +kernel
theorem qd_K_send_2 : decode qc_K_send 2 = .ok (.getfield 26, 3) := by decide +kernel
theorem qd_K_send_5 : decode qc_K_send 5 = .ok (.bipush 16, 2) := by decide +kernel
theorem qd_K_send_7 : decode qc_K_send 7 = .ok (.ishr, 1) := by decide +kernel
theorem qd_K_send_8 : decode qc_K_send 8 = .ok (.if_icmp .le 5, 3) := by decide +kernel
theorem qd_K_send_11 : decode qc_K_send 11 = .ok (.iconst 0, 1) := by decide +kernel
theorem qd_K_send_12 : decode qc_K_send 12 = .ok (.ireturn, 1) := by decide +kernel
theorem qd_K_send_13 : decode qc_K_send 13 = .ok (.aload_n 0, 1) := by decide +kernel
theorem qd_K_send_14 : decode qc_K_send 14 = .ok (.dup, 1) := by decide +kernel
theorem qd_K_send_15 : decode qc_K_send 15 = .ok (.getfield 26, 3) := by decide +kernel
theorem qd_K_send_18 : decode qc_K_send 18 = .ok (.iload_n 1, 1) := by decide +kernel
theorem qd_K_send_19 : decode qc_K_send 19 = .ok (.bipush 16, 2) := by decide +kernel
theorem qd_K_send_21 : decode qc_K_send 21 = .ok (.ishl, 1) := by decide +kernel
theorem qd_K_send_22 : decode qc_K_send 22 = .ok (.isub, 1) := by decide +kernel
theorem qd_K_send_23 : decode qc_K_send 23 = .ok (.putfield 26, 3) := by decide +kernel
theorem qd_K_send_26 : decode qc_K_send 26 = .ok (.aload_n 0, 1) := by decide +kernel
theorem qd_K_send_27 : decode qc_K_send 27 = .ok (.iconst 1, 1) := by decide +kernel
theorem qd_K_send_28 : decode qc_K_send 28 = .ok (.putfield 44, 3) := by decide +kernel
theorem qd_K_send_31 : decode qc_K_send 31 = .ok (.iconst 1, 1) := by decide +kernel
theorem qd_K_send_32 : decode qc_K_send 32 = .ok (.ireturn, 1) := by decide +kernel
theorem qd_K_swap_0 : decode qc_K_swap 0 = .ok (.aload_n 0, 1) := by decide +kernel
theorem qd_K_swap_1 : decode qc_K_swap 1 = .ok (.getfield 18, 3) := by decide +kernel
theorem qd_K_swap_4 : decode qc_K_swap 4 = .ok (.iload_n 1, 1) := by decide +kernel
theorem qd_K_swap_5 : decode qc_K_swap 5 = .ok (.iaload, 1) := by decide +kernel
theorem qd_K_swap_6 : decode qc_K_swap 6 = .ok (.istore_n 3, 1) := by decide +kernel
theorem qd_K_swap_7 : decode qc_K_swap 7 = .ok (.aload_n 0, 1) := by decide +kernel
theorem qd_K_swap_8 : decode qc_K_swap 8 = .ok (.getfield 18, 3) := by decide +kernel
theorem qd_K_swap_11 : decode qc_K_swap 11 = .ok (.iload_n 1, 1) := by decide +kernel
theorem qd_K_swap_12 : decode qc_K_swap 12 = .ok (.aload_n 0, 1) := by decide +kernel
theorem qd_K_swap_13 : decode qc_K_swap 13 = .ok (.getfield 18, 3) := by decide +kernel
theorem qd_K_swap_16 : decode qc_K_swap 16 = .ok (.iload_n 2, 1) := by decide +kernel
theorem qd_K_swap_17 : decode qc_K_swap 17 = .ok (.iaload, 1) := by decide +kernel
theorem qd_K_swap_18 : decode qc_K_swap 18 = .ok (.iastore, 1) := by decide +kernel
theorem qd_K_swap_19 : decode qc_K_swap 19 = .ok (.aload_n 0, 1) := by decide +kernel
theorem qd_K_swap_20 : decode qc_K_swap 20 = .ok (.getfield 18, 3) := by decide +kernel
theorem qd_K_swap_23 : decode qc_K_swap 23 = .ok (.iload_n 2, 1) := by decide +kernel
theorem qd_K_swap_24 : decode qc_K_swap 24 = .ok (.iload_n 3, 1) := by decide +kernel
theorem qd_K_swap_25 : decode qc_K_swap 25 = .ok (.iastore, 1) := by decide +kernel
theorem qd_K_swap_26 : decode qc_K_swap 26 = .ok (.return_, 1) := by decide +kernel
theorem qd_K_wordUnder_0 : decode qc_K_wordUnder 0 = .ok (.iload_n 1, 1) := by decide +kernel
theorem qd_K_wordUnder_1 : decode qc_K_wordUnder 1 = .ok (.aload_n 0, 1) := by decide +kernel
theorem qd_K_wordUnder_2 : decode qc_K_wordUnder 2 = .ok (.getfield 22, 3) := by decide +kernel
theorem qd_K_wordUnder_5 : decode qc_K_wordUnder 5 = .ok (.if_icmp .ge 19, 3) := by decide +kernel
theorem qd_K_wordUnder_8 : decode qc_K_wordUnder 8 = .ok (.aload_n 0, 1) := by decide +kernel
theorem qd_K_wordUnder_9 : decode qc_K_wordUnder 9 = .ok (.getfield 18, 3) := by decide +kernel
theorem qd_K_wordUnder_12 : decode qc_K_wordUnder 12 = .ok (.aload_n 0, 1) := by decide +kernel
theorem qd_K_wordUnder_13 : decode qc_K_wordUnder 13 = .ok (.getfield 22, 3) := by decide +kernel
theorem qd_K_wordUnder_16 : decode qc_K_wordUnder 16 = .ok (.iconst 1, 1) := by decide +kernel
theorem qd_K_wordUnder_17 : decode qc_K_wordUnder 17 = .ok (.isub, 1) := by decide +kernel
theorem qd_K_wordUnder_18 : decode qc_K_wordUnder 18 = .ok (.iload_n 1, 1) := by decide +kernel
theorem qd_K_wordUnder_19 : decode qc_K_wordUnder 19 = .ok (.isub, 1) := by decide +kernel
theorem qd_K_wordUnder_20 : decode qc_K_wordUnder 20 = .ok (.iaload, 1) := by decide +kernel
theorem qd_K_wordUnder_21 : decode qc_K_wordUnder 21 = .ok (.goto 4, 3) := by decide +kernel
theorem qd_K_wordUnder_24 : decode qc_K_wordUnder 24 = .ok (.iconst 0, 1) := by decide +kernel
theorem qd_K_wordUnder_25 : decode qc_K_wordUnder 25 = .ok (.ireturn, 1) := by decide +kernel
theorem qd_K_note_0 : decode qc_K_note 0 = .ok (.aload_n 0, 1) := by decide +kernel
theorem qd_K_note_1 : decode qc_K_note 1 = .ok (.getfield 57, 3) := by decide +kernel
theorem qd_K_note_4 : decode qc_K_note 4 = .ok (.iload_n 1, 1) := by decide +kernel
theorem qd_K_note_5 : decode qc_K_note 5 = .ok (.dup2, 1) := by decide +kernel
theorem qd_K_note_6 : decode qc_K_note 6 = .ok (.iaload, 1) := by decide +kernel
theorem qd_K_note_7 : decode qc_K_note 7 = .ok (.iconst 1, 1) := by decide +kernel
theorem qd_K_note_8 : decode qc_K_note 8 = .ok (.aload_n 0, 1) := by decide +kernel
theorem qd_K_note_9 : decode qc_K_note 9 = .ok (.getfield 32, 3) := by decide +kernel
theorem qd_K_note_12 : decode qc_K_note 12 = .ok (.ishl, 1) := by decide +kernel
theorem qd_K_note_13 : decode qc_K_note 13 = .ok (.ior, 1) := by decide +kernel
theorem qd_K_note_14 : decode qc_K_note 14 = .ok (.iastore, 1) := by decide +kernel
theorem qd_K_note_15 : decode qc_K_note 15 = .ok (.return_, 1) := by decide +kernel
end
section
theorem qd_X_init_0 : decode qc_X_init 0 = .ok (.aload_n 0, 1) := by decide +kernel
theorem qd_X_init_1 : decode qc_X_init 1 = .ok (.invokespecial 3, 3) := by decide +kernel
theorem qd_X_init_4 : decode qc_X_init 4 = .ok (.aload_n 0, 1) := by decide +kernel
theorem qd_X_init_5 : decode qc_X_init 5 = .ok (.new 9, 3) := by decide +kernel
theorem qd_X_init_8 : decode qc_X_init 8 = .ok (.dup, 1) := by decide +kernel
theorem qd_X_init_9 : decode qc_X_init 9 = .ok (.invokespecial 11, 3) := by decide +kernel
theorem qd_X_init_12 : decode qc_X_init 12 = .ok (.putfield 12, 3) := by decide +kernel
theorem qd_X_init_15 : decode qc_X_init 15 = .ok (.aload_n 0, 1) := by decide +kernel
theorem qd_X_init_16 : decode qc_X_init 16 = .ok (.new 16, 3) := by decide +kernel
theorem qd_X_init_19 : decode qc_X_init 19 = .ok (.dup, 1) := by decide +kernel
theorem qd_X_init_20 : decode qc_X_init 20 = .ok (.invokespecial 18, 3) := by decide +kernel
theorem qd_X_init_23 : decode qc_X_init 23 = .ok (.putfield 19, 3) := by decide +kernel
theorem qd_X_init_26 : decode qc_X_init 26 = .ok (.aload_n 0, 1) := by decide +kernel
theorem qd_X_init_27 : decode qc_X_init 27 = .ok (.bipush 7, 2) := by decide +kernel
theorem qd_X_init_29 : decode qc_X_init 29 = .ok (.newarray .int, 2) := by decide +kernel
theorem qd_X_init_31 : decode qc_X_init 31 = .ok (.putfield 23, 3) := by decide +kernel
theorem qd_X_init_34 : decode qc_X_init 34 = .ok (.aload_n 0, 1) := by decide +kernel
theorem qd_X_init_35 : decode qc_X_init 35 = .ok (.iconst 0, 1) := by decide +kernel
theorem qd_X_init_36 : decode qc_X_init 36 = .ok (.putfield 27, 3) := by decide +kernel
theorem qd_X_init_39 : decode qc_X_init 39 = .ok (.aload_n 0, 1) := by decide +kernel
theorem qd_X_init_40 : decode qc_X_init 40 = .ok (.iconst 0, 1) := by decide +kernel
theorem qd_X_init_41 : decode qc_X_init 41 = .ok (.putfield 31, 3) := by decide +kernel
theorem qd_X_init_44 : decode qc_X_init 44 = .ok (.aload_n 0, 1) := by decide +kernel
theorem qd_X_init_45 : decode qc_X_init 45 = .ok (.bipush 24, 2) := by decide +kernel
theorem qd_X_init_47 : decode qc_X_init 47 = .ok (.putfield 35, 3) := by decide +kernel
theorem qd_X_init_50 : decode qc_X_init 50 = .ok (.return_, 1) := by decide +kernel
theorem qd_X_add_0 : decode qc_X_add 0 = .ok (.iload_n 1, 1) := by decide +kernel
theorem qd_X_add_1 : decode qc_X_add 1 = .ok (.bipush 25, 2) := by decide +kernel
theorem qd_X_add_3 : decode qc_X_add 3 = .ok (.invokestatic 38, 3) := by decide +kernel
theorem qd_X_add_6 : decode qc_X_add 6 = .ok (.ifCond .eq 12, 3) := by decide +kernel
theorem qd_X_add_9 : decode qc_X_add 9 = .ok (.iload_n 2, 1) := by decide +kernel
theorem qd_X_add_10 : decode qc_X_add 10 = .ok (.bipush 16, 2) := by decide +kernel
theorem qd_X_add_12 : decode qc_X_add 12 = .ok (.invokestatic 38, 3) := by decide +kernel
theorem qd_X_add_15 : decode qc_X_add 15 = .ok (.ifCond .ne 5, 3) := by decide +kernel
theorem qd_X_add_18 : decode qc_X_add 18 = .ok (.iconst (-1), 1) := by decide +kernel
theorem qd_X_add_19 : decode qc_X_add 19 = .ok (.ireturn, 1) := by decide +kernel
theorem qd_X_add_20 : decode qc_X_add 20 = .ok (.aload_n 0, 1) := by decide +kernel
theorem qd_X_add_21 : decode qc_X_add 21 = .ok (.getfield 12, 3) := by decide +kernel
theorem qd_X_add_24 : decode qc_X_add 24 = .ok (.getfield 42, 3) := by decide +kernel
theorem qd_X_add_27 : decode qc_X_add 27 = .ok (.iload_n 1, 1) := by decide +kernel
theorem qd_X_add_28 : decode qc_X_add 28 = .ok (.iload_n 2, 1) := by decide +kernel
theorem qd_X_add_29 : decode qc_X_add 29 = .ok (.invokevirtual 46, 3) := by decide +kernel
theorem qd_X_add_32 : decode qc_X_add 32 = .ok (.ireturn, 1) := by decide +kernel
theorem qd_X_clear_0 : decode qc_X_clear 0 = .ok (.aload_n 0, 1) := by decide +kernel
theorem qd_X_clear_1 : decode qc_X_clear 1 = .ok (.getfield 12, 3) := by decide +kernel
theorem qd_X_clear_4 : decode qc_X_clear 4 = .ok (.getfield 42, 3) := by decide +kernel
theorem qd_X_clear_7 : decode qc_X_clear 7 = .ok (.invokevirtual 52, 3) := by decide +kernel
theorem qd_X_clear_10 : decode qc_X_clear 10 = .ok (.return_, 1) := by decide +kernel
theorem qd_X_start_0 : decode qc_X_start 0 = .ok (.iload_n 1, 1) := by decide +kernel
theorem qd_X_start_1 : decode qc_X_start 1 = .ok (.bipush 16, 2) := by decide +kernel
theorem qd_X_start_3 : decode qc_X_start 3 = .ok (.invokestatic 38, 3) := by decide +kernel
theorem qd_X_start_6 : decode qc_X_start 6 = .ok (.ifCond .eq 14, 3) := by decide +kernel
theorem qd_X_start_9 : decode qc_X_start 9 = .ok (.iload_n 2, 1) := by decide +kernel
theorem qd_X_start_10 : decode qc_X_start 10 = .ok (.iconst 1, 1) := by decide +kernel
theorem qd_X_start_11 : decode qc_X_start 11 = .ok (.if_icmp .lt 9, 3) := by decide +kernel
theorem qd_X_start_14 : decode qc_X_start 14 = .ok (.iload_n 2, 1) := by decide +kernel
theorem qd_X_start_15 : decode qc_X_start 15 = .ok (.bipush 40, 2) := by decide +kernel
theorem qd_X_start_17 : decode qc_X_start 17 = .ok (.if_icmp .le 5, 3) := by decide +kernel
theorem qd_X_start_20 : decode qc_X_start 20 = .ok (.iconst 0, 1) := by decide +kernel
theorem qd_X_start_21 : decode qc_X_start 21 = .ok (.ireturn, 1) := by decide +kernel
theorem qd_X_start_22 : decode qc_X_start 22 = .ok (.aload_n 0, 1) := by decide +kernel
theorem qd_X_start_23 : decode qc_X_start 23 = .ok (.iload_n 1, 1) := by decide +kernel
theorem qd_X_start_24 : decode qc_X_start 24 = .ok (.putfield 31, 3) := by decide +kernel
theorem qd_X_start_27 : decode qc_X_start 27 = .ok (.aload_n 0, 1) := by decide +kernel
theorem qd_X_start_28 : decode qc_X_start 28 = .ok (.iload_n 2, 1) := by decide +kernel
theorem qd_X_start_29 : decode qc_X_start 29 = .ok (.putfield 35, 3) := by decide +kernel
theorem qd_X_start_32 : decode qc_X_start 32 = .ok (.iconst 1, 1) := by decide +kernel
theorem qd_X_start_33 : decode qc_X_start 33 = .ok (.ireturn, 1) := by decide +kernel
theorem qd_X_explore_0 : decode qc_X_explore 0 = .ok (.iload_n 1, 1) := by decide +kernel
theorem qd_X_explore_1 : decode qc_X_explore 1 = .ok (.iconst 1, 1) := by decide +kernel
theorem qd_X_explore_2 : decode qc_X_explore 2 = .ok (.if_icmp .eq 10, 3) := by decide +kernel
theorem qd_X_explore_5 : decode qc_X_explore 5 = .ok (.iload_n 1, 1) := by decide +kernel
theorem qd_X_explore_6 : decode qc_X_explore 6 = .ok (.iconst 2, 1) := by decide +kernel
theorem qd_X_explore_7 : decode qc_X_explore 7 = .ok (.if_icmp .eq 5, 3) := by decide +kernel
theorem qd_X_explore_10 : decode qc_X_explore 10 = .ok (.iconst (-1), 1) := by decide +kernel
theorem qd_X_explore_11 : decode qc_X_explore 11 = .ok (.ireturn, 1) := by decide +kernel
theorem qd_X_explore_12 : decode qc_X_explore 12 = .ok (.aload_n 0, 1) := by decide +kernel
theorem qd_X_explore_13 : decode qc_X_explore 13 = .ok (.getfield 19, 3) := by decide +kernel
theorem qd_X_explore_16 : decode qc_X_explore 16 = .ok (.invokevirtual 55, 3) := by decide +kernel
theorem qd_X_explore_19 : decode qc_X_explore 19 = .ok (.iload_n 1, 1) := by decide +kernel
theorem qd_X_explore_20 : decode qc_X_explore 20 = .ok (.iconst 1, 1) := by decide +kernel
theorem qd_X_explore_21 : decode qc_X_explore 21 = .ok (.if_icmp .ne 25, 3) := by decide +kernel
theorem qd_X_explore_24 : decode qc_X_explore 24 = .ok (.aload_n 0, 1) := by decide +kernel
theorem qd_X_explore_25 : decode qc_X_explore 25 = .ok (.getfield 19, 3) := by decide +kernel
theorem qd_X_explore_28 : decode qc_X_explore 28 = .ok (.aload_n 0, 1) := by decide +kernel
theorem qd_X_explore_29 : decode qc_X_explore 29 = .ok (.getfield 12, 3) := by decide +kernel
theorem qd_X_explore_32 : decode qc_X_explore 32 = .ok (.aload_n 0, 1) := by decide +kernel
theorem qd_X_explore_33 : decode qc_X_explore 33 = .ok (.invokevirtual 58, 3) := by decide +kernel
theorem qd_X_explore_36 : decode qc_X_explore 36 = .ok (.aload_n 0, 1) := by decide +kernel
theorem qd_X_explore_37 : decode qc_X_explore 37 = .ok (.getfield 35, 3) := by decide +kernel
theorem qd_X_explore_40 : decode qc_X_explore 40 = .ok (.invokevirtual 62, 3) := by decide +kernel
theorem qd_X_explore_43 : decode qc_X_explore 43 = .ok (.goto 22, 3) := by decide +kernel
theorem qd_X_explore_46 : decode qc_X_explore 46 = .ok (.aload_n 0, 1) := by decide +kernel
theorem qd_X_explore_47 : decode qc_X_explore 47 = .ok (.getfield 19, 3) := by decide +kernel
theorem qd_X_explore_50 : decode qc_X_explore 50 = .ok (.aload_n 0, 1) := by decide +kernel
theorem qd_X_explore_51 : decode qc_X_explore 51 = .ok (.getfield 12, 3) := by decide +kernel
theorem qd_X_explore_54 : decode qc_X_explore 54 = .ok (.aload_n 0, 1) := by decide +kernel
theorem qd_X_explore_55 : decode qc_X_explore 55 = .ok (.invokevirtual 58, 3) := by decide +kernel
theorem qd_X_explore_58 : decode qc_X_explore 58 = .ok (.aload_n 0, 1) := by decide +kernel
theorem qd_X_explore_59 : decode qc_X_explore 59 = .ok (.getfield 35, 3) := by decide +kernel
theorem qd_X_explore_62 : decode qc_X_explore 62 = .ok (.invokevirtual 66, 3) := by decide +kernel
theorem qd_X_explore_65 : decode qc_X_explore 65 = .ok (.istore_n 2, 1) := by decide +kernel
theorem qd_X_explore_66 : decode qc_X_explore 66 = .ok (.aload_n 0, 1) := by decide +kernel
theorem qd_X_explore_67 : decode qc_X_explore 67 = .ok (.getfield 19, 3) := by decide +kernel
theorem qd_X_explore_70 : decode qc_X_explore 70 = .ok (.iload_n 2, 1) := by decide +kernel
theorem qd_X_explore_71 : decode qc_X_explore 71 = .ok (.invokevirtual 69, 3) := by decide +kernel
theorem qd_X_explore_74 : decode qc_X_explore 74 = .ok (.ireturn, 1) := by decide +kernel
theorem qd_X_inputs_0 : decode qc_X_inputs 0 = .ok (.aload_n 0, 1) := by decide +kernel
theorem qd_X_inputs_1 : decode qc_X_inputs 1 = .ok (.getfield 19, 3) := by decide +kernel
theorem qd_X_inputs_4 : decode qc_X_inputs 4 = .ok (.getfield 73, 3) := by decide +kernel
theorem qd_X_inputs_7 : decode qc_X_inputs 7 = .ok (.iload_n 1, 1) := by decide +kernel
theorem qd_X_inputs_8 : decode qc_X_inputs 8 = .ok (.invokevirtual 77, 3) := by decide +kernel
theorem qd_X_inputs_11 : decode qc_X_inputs 11 = .ok (.istore_n 2, 1) := by decide +kernel
theorem qd_X_inputs_12 : decode qc_X_inputs 12 = .ok (.iload_n 2, 1) := by decide +kernel
theorem qd_X_inputs_13 : decode qc_X_inputs 13 = .ok (.iconst (-1), 1) := by decide +kernel
theorem qd_X_inputs_14 : decode qc_X_inputs 14 = .ok (.if_icmp .ne 7, 3) := by decide +kernel
theorem qd_X_inputs_17 : decode qc_X_inputs 17 = .ok (.iconst (-1), 1) := by decide +kernel
theorem qd_X_inputs_18 : decode qc_X_inputs 18 = .ok (.goto 15, 3) := by decide +kernel
theorem qd_X_inputs_21 : decode qc_X_inputs 21 = .ok (.aload_n 0, 1) := by decide +kernel
theorem qd_X_inputs_22 : decode qc_X_inputs 22 = .ok (.getfield 19, 3) := by decide +kernel
theorem qd_X_inputs_25 : decode qc_X_inputs 25 = .ok (.getfield 73, 3) := by decide +kernel
theorem qd_X_inputs_28 : decode qc_X_inputs 28 = .ok (.getfield 83, 3) := by decide +kernel
theorem qd_X_inputs_31 : decode qc_X_inputs 31 = .ok (.iload_n 2, 1) := by decide +kernel
theorem qd_X_inputs_32 : decode qc_X_inputs 32 = .ok (.iaload, 1) := by decide +kernel
theorem qd_X_inputs_33 : decode qc_X_inputs 33 = .ok (.ireturn, 1) := by decide +kernel
theorem qd_X_witness_0 : decode qc_X_witness 0 = .ok (.aload_n 0, 1) := by decide +kernel
theorem qd_X_witness_1 : decode qc_X_witness 1 = .ok (.getfield 19, 3) := by decide +kernel
theorem qd_X_witness_4 : decode qc_X_witness 4 = .ok (.getfield 73, 3) := by decide +kernel
theorem qd_X_witness_7 : decode qc_X_witness 7 = .ok (.iload_n 1, 1) := by decide +kernel
theorem qd_X_witness_8 : decode qc_X_witness 8 = .ok (.invokevirtual 77, 3) := by decide +kernel
theorem qd_X_witness_11 : decode qc_X_witness 11 = .ok (.istore_n 2, 1) := by decide +kernel
theorem qd_X_witness_12 : decode qc_X_witness 12 = .ok (.iload_n 2, 1) := by decide +kernel
theorem qd_X_witness_13 : decode qc_X_witness 13 = .ok (.iconst (-1), 1) := by decide +kernel
theorem qd_X_witness_14 : decode qc_X_witness 14 = .ok (.if_icmp .ne 7, 3) := by decide +kernel
theorem qd_X_witness_17 : decode qc_X_witness 17 = .ok (.iconst (-1), 1) := by decide +kernel
theorem qd_X_witness_18 : decode qc_X_witness 18 = .ok (.goto 15, 3) := by decide +kernel
theorem qd_X_witness_21 : decode qc_X_witness 21 = .ok (.aload_n 0, 1) := by decide +kernel
theorem qd_X_witness_22 : decode qc_X_witness 22 = .ok (.getfield 19, 3) := by decide +kernel
theorem qd_X_witness_25 : decode qc_X_witness 25 = .ok (.getfield 73, 3) := by decide +kernel
theorem qd_X_witness_28 : decode qc_X_witness 28 = .ok (.getfield 86, 3) := by decide +kernel
theorem qd_X_witness_31 : decode qc_X_witness 31 = .ok (.iload_n 2, 1) := by decide +kernel
theorem qd_X_witness_32 : decode qc_X_witness 32 = .ok (.iaload, 1) := by decide +kernel
theorem qd_X_witness_33 : decode qc_X_witness 33 = .ok (.ireturn, 1) := by decide +kernel
theorem qd_X_end_0 : decode qc_X_end 0 = .ok (.aload_n 0, 1) := by decide +kernel
theorem qd_X_end_1 : decode qc_X_end 1 = .ok (.getfield 19, 3) := by decide +kernel
theorem qd_X_end_4 : decode qc_X_end 4 = .ok (.getfield 73, 3) := by decide +kernel
theorem qd_X_end_7 : decode qc_X_end 7 = .ok (.iload_n 1, 1) := by decide +kernel
theorem qd_X_end_8 : decode qc_X_end 8 = .ok (.invokevirtual 77, 3) := by decide +kernel
theorem qd_X_end_11 : decode qc_X_end 11 = .ok (.istore_n 3, 1) := by decide +kernel
theorem qd_X_end_12 : decode qc_X_end 12 = .ok (.iload_n 3, 1) := by decide +kernel
theorem qd_X_end_13 : decode qc_X_end 13 = .ok (.iconst (-1), 1) := by decide +kernel
theorem qd_X_end_14 : decode qc_X_end 14 = .ok (.if_icmp .eq 17, 3) := by decide +kernel
theorem qd_X_end_17 : decode qc_X_end 17 = .ok (.iload_n 2, 1) := by decide +kernel
theorem qd_X_end_18 : decode qc_X_end 18 = .ok (.aload_n 0, 1) := by decide +kernel
theorem qd_X_end_19 : decode qc_X_end 19 = .ok (.getfield 19, 3) := by decide +kernel
theorem qd_X_end_22 : decode qc_X_end 22 = .ok (.getfield 89, 3) := by decide +kernel
theorem qd_X_end_25 : decode qc_X_end 25 = .ok (.invokestatic 38, 3) := by decide +kernel
theorem qd_X_end_28 : decode qc_X_end 28 = .ok (.ifCond .ne 5, 3) := by decide +kernel
theorem qd_X_end_31 : decode qc_X_end 31 = .ok (.iconst (-1), 1) := by decide +kernel
theorem qd_X_end_32 : decode qc_X_end 32 = .ok (.ireturn, 1) := by decide +kernel
theorem qd_X_end_33 : decode qc_X_end 33 = .ok (.aload_n 0, 1) := by decide +kernel
theorem qd_X_end_34 : decode qc_X_end 34 = .ok (.getfield 19, 3) := by decide +kernel
theorem qd_X_end_37 : decode qc_X_end 37 = .ok (.iload_n 2, 1) := by decide +kernel
theorem qd_X_end_38 : decode qc_X_end 38 = .ok (.invokevirtual 92, 3) := by decide +kernel
theorem qd_X_end_41 : decode qc_X_end 41 = .ok (.getfield 96, 3) := by decide +kernel
theorem qd_X_end_44 : decode qc_X_end 44 = .ok (.aload_n 0, 1) := by decide +kernel
theorem qd_X_end_45 : decode qc_X_end 45 = .ok (.getfield 19, 3) := by decide +kernel
theorem qd_X_end_48 : decode qc_X_end 48 = .ok (.iload_n 3, 1) := by decide +kernel
theorem qd_X_end_49 : decode qc_X_end 49 = .ok (.iload_n 2, 1) := by decide +kernel
theorem qd_X_end_50 : decode qc_X_end 50 = .ok (.invokevirtual 101, 3) := by decide +kernel
theorem qd_X_end_53 : decode qc_X_end 53 = .ok (.iaload, 1) := by decide +kernel
theorem qd_X_end_54 : decode qc_X_end 54 = .ok (.ireturn, 1) := by decide +kernel
theorem qd_X_step_0 : decode qc_X_step 0 = .ok (.aload_n 0, 1) := by decide +kernel
theorem qd_X_step_1 : decode qc_X_step 1 = .ok (.getfield 19, 3) := by decide +kernel
theorem qd_X_step_4 : decode qc_X_step 4 = .ok (.getfield 73, 3) := by decide +kernel
theorem qd_X_step_7 : decode qc_X_step 7 = .ok (.iload_n 1, 1) := by decide +kernel
theorem qd_X_step_8 : decode qc_X_step 8 = .ok (.invokevirtual 77, 3) := by decide +kernel
theorem qd_X_step_11 : decode qc_X_step 11 = .ok (.istore 4, 2) := by decide +kernel
theorem qd_X_step_13 : decode qc_X_step 13 = .ok (.iload 4, 2) := by decide +kernel
theorem qd_X_step_15 : decode qc_X_step 15 = .ok (.iconst (-1), 1) := by decide +kernel
theorem qd_X_step_16 : decode qc_X_step 16 = .ok (.if_icmp .eq 17, 3) := by decide +kernel
theorem qd_X_step_19 : decode qc_X_step 19 = .ok (.iload_n 2, 1) := by decide +kernel
theorem qd_X_step_20 : decode qc_X_step 20 = .ok (.aload_n 0, 1) := by decide +kernel
theorem qd_X_step_21 : decode qc_X_step 21 = .ok (.getfield 19, 3) := by decide +kernel
theorem qd_X_step_24 : decode qc_X_step 24 = .ok (.getfield 89, 3) := by decide +kernel
theorem qd_X_step_27 : decode qc_X_step 27 = .ok (.invokestatic 38, 3) := by decide +kernel
theorem qd_X_step_30 : decode qc_X_step 30 = .ok (.ifCond .ne 5, 3) := by decide +kernel
theorem qd_X_step_33 : decode qc_X_step 33 = .ok (.iconst (-1), 1) := by decide +kernel
theorem qd_X_step_34 : decode qc_X_step 34 = .ok (.ireturn, 1) := by decide +kernel
theorem qd_X_step_35 : decode qc_X_step 35 = .ok (.aload_n 0, 1) := by decide +kernel
theorem qd_X_step_36 : decode qc_X_step 36 = .ok (.getfield 19, 3) := by decide +kernel
theorem qd_X_step_39 : decode qc_X_step 39 = .ok (.iload_n 2, 1) := by decide +kernel
theorem qd_X_step_40 : decode qc_X_step 40 = .ok (.invokevirtual 92, 3) := by decide +kernel
theorem qd_X_step_43 : decode qc_X_step 43 = .ok (.aload_n 0, 1) := by decide +kernel
theorem qd_X_step_44 : decode qc_X_step 44 = .ok (.getfield 19, 3) := by decide +kernel
theorem qd_X_step_47 : decode qc_X_step 47 = .ok (.iload 4, 2) := by decide +kernel
theorem qd_X_step_49 : decode qc_X_step 49 = .ok (.iload_n 2, 1) := by decide +kernel
theorem qd_X_step_50 : decode qc_X_step 50 = .ok (.invokevirtual 101, 3) := by decide +kernel
theorem qd_X_step_53 : decode qc_X_step 53 = .ok (.iload_n 3, 1) := by decide +kernel
theorem qd_X_step_54 : decode qc_X_step 54 = .ok (.invokevirtual 104, 3) := by decide +kernel
theorem qd_X_step_57 : decode qc_X_step 57 = .ok (.ireturn, 1) := by decide +kernel
theorem qd_X_left_0 : decode qc_X_left 0 = .ok (.aload_n 0, 1) := by decide +kernel
theorem qd_X_left_1 : decode qc_X_left 1 = .ok (.getfield 19, 3) := by decide +kernel
theorem qd_X_left_4 : decode qc_X_left 4 = .ok (.getfield 73, 3) := by decide +kernel
theorem qd_X_left_7 : decode qc_X_left 7 = .ok (.iload_n 1, 1) := by decide +kernel
theorem qd_X_left_8 : decode qc_X_left 8 = .ok (.invokevirtual 77, 3) := by decide +kernel
theorem qd_X_left_11 : decode qc_X_left 11 = .ok (.istore_n 3, 1) := by decide +kernel
theorem qd_X_left_12 : decode qc_X_left 12 = .ok (.iload_n 3, 1) := by decide +kernel
theorem qd_X_left_13 : decode qc_X_left 13 = .ok (.iconst (-1), 1) := by decide +kernel
theorem qd_X_left_14 : decode qc_X_left 14 = .ok (.if_icmp .eq 11, 3) := by decide +kernel
theorem qd_X_left_17 : decode qc_X_left 17 = .ok (.iload_n 2, 1) := by decide +kernel
theorem qd_X_left_18 : decode qc_X_left 18 = .ok (.iconst 5, 1) := by decide +kernel
theorem qd_X_left_19 : decode qc_X_left 19 = .ok (.invokestatic 38, 3) := by decide +kernel
theorem qd_X_left_22 : decode qc_X_left 22 = .ok (.ifCond .ne 5, 3) := by decide +kernel
theorem qd_X_left_25 : decode qc_X_left 25 = .ok (.iconst (-1), 1) := by decide +kernel
theorem qd_X_left_26 : decode qc_X_left 26 = .ok (.ireturn, 1) := by decide +kernel
theorem qd_X_left_27 : decode qc_X_left 27 = .ok (.aload_n 0, 1) := by decide +kernel
theorem qd_X_left_28 : decode qc_X_left 28 = .ok (.getfield 19, 3) := by decide +kernel
theorem qd_X_left_31 : decode qc_X_left 31 = .ok (.getfield 73, 3) := by decide +kernel
theorem qd_X_left_34 : decode qc_X_left 34 = .ok (.getfield 107, 3) := by decide +kernel
theorem qd_X_left_37 : decode qc_X_left 37 = .ok (.iload_n 3, 1) := by decide +kernel
theorem qd_X_left_38 : decode qc_X_left 38 = .ok (.iaload, 1) := by decide +kernel
theorem qd_X_left_39 : decode qc_X_left 39 = .ok (.iload_n 2, 1) := by decide +kernel
theorem qd_X_left_40 : decode qc_X_left 40 = .ok (.invokestatic 110, 3) := by decide +kernel
theorem qd_X_left_43 : decode qc_X_left 43 = .ok (.istore 4, 2) := by decide +kernel
theorem qd_X_left_45 : decode qc_X_left 45 = .ok (.aload_n 0, 1) := by decide +kernel
theorem qd_X_left_46 : decode qc_X_left 46 = .ok (.getfield 19, 3) := by decide +kernel
theorem qd_X_left_49 : decode qc_X_left 49 = .ok (.getfield 73, 3) := by decide +kernel
theorem qd_X_left_52 : decode qc_X_left 52 = .ok (.getfield 113, 3) := by decide +kernel
theorem qd_X_left_55 : decode qc_X_left 55 = .ok (.iload_n 3, 1) := by decide +kernel
theorem qd_X_left_56 : decode qc_X_left 56 = .ok (.iaload, 1) := by decide +kernel
theorem qd_X_left_57 : decode qc_X_left 57 = .ok (.iload_n 2, 1) := by decide +kernel
theorem qd_X_left_58 : decode qc_X_left 58 = .ok (.invokestatic 110, 3) := by decide +kernel
theorem qd_X_left_61 : decode qc_X_left 61 = .ok (.ifCond .ne 7, 3) := by decide +kernel
theorem qd_X_left_64 : decode qc_X_left 64 = .ok (.iconst 1, 1) := by decide +kernel
theorem qd_X_left_65 : decode qc_X_left 65 = .ok (.goto 4, 3) := by decide +kernel
theorem qd_X_left_68 : decode qc_X_left 68 = .ok (.iconst 0, 1) := by decide +kernel
theorem qd_X_left_69 : decode qc_X_left 69 = .ok (.istore 5, 2) := by decide +kernel
theorem qd_X_left_71 : decode qc_X_left 71 = .ok (.iload 5, 2) := by decide +kernel
theorem qd_X_left_73 : decode qc_X_left 73 = .ok (.ifCond .eq 11, 3) := by decide +kernel
theorem qd_X_left_76 : decode qc_X_left 76 = .ok (.iload 4, 2) := by decide +kernel
theorem qd_X_left_78 : decode qc_X_left 78 = .ok (.bipush 16, 2) := by decide +kernel
theorem qd_X_left_80 : decode qc_X_left 80 = .ok (.iadd, 1) := by decide +kernel
theorem qd_X_left_81 : decode qc_X_left 81 = .ok (.goto 5, 3) := by decide +kernel
theorem qd_X_left_84 : decode qc_X_left 84 = .ok (.iload 4, 2) := by decide +kernel
theorem qd_X_left_86 : decode qc_X_left 86 = .ok (.ireturn, 1) := by decide +kernel
theorem qd_X_finding_0 : decode qc_X_finding 0 = .ok (.iload_n 1, 1) := by decide +kernel
theorem qd_X_finding_1 : decode qc_X_finding 1 = .ok (.iconst 5, 1) := by decide +kernel
theorem qd_X_finding_2 : decode qc_X_finding 2 = .ok (.invokestatic 38, 3) := by decide +kernel
theorem qd_X_finding_5 : decode qc_X_finding 5 = .ok (.ifCond .eq 12, 3) := by decide +kernel
theorem qd_X_finding_8 : decode qc_X_finding 8 = .ok (.iload_n 2, 1) := by decide +kernel
theorem qd_X_finding_9 : decode qc_X_finding 9 = .ok (.bipush 32, 2) := by decide +kernel
theorem qd_X_finding_11 : decode qc_X_finding 11 = .ok (.invokestatic 38, 3) := by decide +kernel
theorem qd_X_finding_14 : decode qc_X_finding 14 = .ok (.ifCond .ne 5, 3) := by decide +kernel
theorem qd_X_finding_17 : decode qc_X_finding 17 = .ok (.iconst (-1), 1) := by decide +kernel
theorem qd_X_finding_18 : decode qc_X_finding 18 = .ok (.ireturn, 1) := by decide +kernel
theorem qd_X_finding_19 : decode qc_X_finding 19 = .ok (.aload_n 0, 1) := by decide +kernel
theorem qd_X_finding_20 : decode qc_X_finding 20 = .ok (.getfield 19, 3) := by decide +kernel
theorem qd_X_finding_23 : decode qc_X_finding 23 = .ok (.getfield 116, 3) := by decide +kernel
theorem qd_X_finding_26 : decode qc_X_finding 26 = .ok (.iload_n 1, 1) := by decide +kernel
theorem qd_X_finding_27 : decode qc_X_finding 27 = .ok (.iload_n 2, 1) := by decide +kernel
theorem qd_X_finding_28 : decode qc_X_finding 28 = .ok (.invokevirtual 120, 3) := by decide +kernel
theorem qd_X_finding_31 : decode qc_X_finding 31 = .ok (.ireturn, 1) := by decide +kernel
theorem qd_X_risk_0 : decode qc_X_risk 0 = .ok (.aload_n 0, 1) := by decide +kernel
theorem qd_X_risk_1 : decode qc_X_risk 1 = .ok (.getfield 19, 3) := by decide +kernel
theorem qd_X_risk_4 : decode qc_X_risk 4 = .ok (.getfield 73, 3) := by decide +kernel
theorem qd_X_risk_7 : decode qc_X_risk 7 = .ok (.iload_n 1, 1) := by decide +kernel
theorem qd_X_risk_8 : decode qc_X_risk 8 = .ok (.invokevirtual 77, 3) := by decide +kernel
theorem qd_X_risk_11 : decode qc_X_risk 11 = .ok (.istore 4, 2) := by decide +kernel
theorem qd_X_risk_13 : decode qc_X_risk 13 = .ok (.iload 4, 2) := by decide +kernel
theorem qd_X_risk_15 : decode qc_X_risk 15 = .ok (.iconst (-1), 1) := by decide +kernel
theorem qd_X_risk_16 : decode qc_X_risk 16 = .ok (.if_icmp .eq 20, 3) := by decide +kernel
theorem qd_X_risk_19 : decode qc_X_risk 19 = .ok (.iload_n 2, 1) := by decide +kernel
theorem qd_X_risk_20 : decode qc_X_risk 20 = .ok (.iconst 5, 1) := by decide +kernel
theorem qd_X_risk_21 : decode qc_X_risk 21 = .ok (.invokestatic 38, 3) := by decide +kernel
theorem qd_X_risk_24 : decode qc_X_risk 24 = .ok (.ifCond .eq 12, 3) := by decide +kernel
theorem qd_X_risk_27 : decode qc_X_risk 27 = .ok (.iload_n 3, 1) := by decide +kernel
theorem qd_X_risk_28 : decode qc_X_risk 28 = .ok (.bipush 32, 2) := by decide +kernel
theorem qd_X_risk_30 : decode qc_X_risk 30 = .ok (.invokestatic 38, 3) := by decide +kernel
theorem qd_X_risk_33 : decode qc_X_risk 33 = .ok (.ifCond .ne 5, 3) := by decide +kernel
theorem qd_X_risk_36 : decode qc_X_risk 36 = .ok (.iconst (-1), 1) := by decide +kernel
theorem qd_X_risk_37 : decode qc_X_risk 37 = .ok (.ireturn, 1) := by decide +kernel
theorem qd_X_risk_38 : decode qc_X_risk 38 = .ok (.aload_n 0, 1) := by decide +kernel
theorem qd_X_risk_39 : decode qc_X_risk 39 = .ok (.getfield 19, 3) := by decide +kernel
theorem qd_X_risk_42 : decode qc_X_risk 42 = .ok (.getfield 116, 3) := by decide +kernel
theorem qd_X_risk_45 : decode qc_X_risk 45 = .ok (.iload 4, 2) := by decide +kernel
theorem qd_X_risk_47 : decode qc_X_risk 47 = .ok (.iload_n 2, 1) := by decide +kernel
theorem qd_X_risk_48 : decode qc_X_risk 48 = .ok (.iload_n 3, 1) := by decide +kernel
theorem qd_X_risk_49 : decode qc_X_risk 49 = .ok (.invokevirtual 125, 3) := by decide +kernel
theorem qd_X_risk_52 : decode qc_X_risk 52 = .ok (.ireturn, 1) := by decide +kernel
theorem qd_X_replay_0 : decode qc_X_replay 0 = .ok (.iload_n 1, 1) := by decide +kernel
theorem qd_X_replay_1 : decode qc_X_replay 1 = .ok (.iconst 1, 1) := by decide +kernel
theorem qd_X_replay_2 : decode qc_X_replay 2 = .ok (.if_icmp .eq 8, 3) := by decide +kernel
theorem qd_X_replay_5 : decode qc_X_replay 5 = .ok (.iload_n 1, 1) := by decide +kernel
theorem qd_X_replay_6 : decode qc_X_replay 6 = .ok (.iconst 2, 1) := by decide +kernel
theorem qd_X_replay_7 : decode qc_X_replay 7 = .ok (.if_icmp .ne 23, 3) := by decide +kernel
theorem qd_X_replay_10 : decode qc_X_replay 10 = .ok (.iload_n 2, 1) := by decide +kernel
theorem qd_X_replay_11 : decode qc_X_replay 11 = .ok (.iload_n 1, 1) := by decide +kernel
theorem qd_X_replay_12 : decode qc_X_replay 12 = .ok (.iconst 1, 1) := by decide +kernel
theorem qd_X_replay_13 : decode qc_X_replay 13 = .ok (.if_icmp .ne 8, 3) := by decide +kernel
theorem qd_X_replay_16 : decode qc_X_replay 16 = .ok (.bipush 64, 2) := by decide +kernel
theorem qd_X_replay_18 : decode qc_X_replay 18 = .ok (.goto 6, 3) := by decide +kernel
theorem qd_X_replay_21 : decode qc_X_replay 21 = .ok (.sipush 4096, 3) := by decide +kernel
theorem qd_X_replay_24 : decode qc_X_replay 24 = .ok (.invokestatic 38, 3) := by decide +kernel
theorem qd_X_replay_27 : decode qc_X_replay 27 = .ok (.ifCond .ne 5, 3) := by decide +kernel
theorem qd_X_replay_30 : decode qc_X_replay 30 = .ok (.iconst (-1), 1) := by decide +kernel
theorem qd_X_replay_31 : decode qc_X_replay 31 = .ok (.ireturn, 1) := by decide +kernel
theorem qd_X_replay_32 : decode qc_X_replay 32 = .ok (.aload_n 0, 1) := by decide +kernel
theorem qd_X_replay_33 : decode qc_X_replay 33 = .ok (.invokevirtual 58, 3) := by decide +kernel
theorem qd_X_replay_36 : decode qc_X_replay 36 = .ok (.istore_n 3, 1) := by decide +kernel
theorem qd_X_replay_37 : decode qc_X_replay 37 = .ok (.iconst 0, 1) := by decide +kernel
theorem qd_X_replay_38 : decode qc_X_replay 38 = .ok (.istore 4, 2) := by decide +kernel
theorem qd_X_replay_40 : decode qc_X_replay 40 = .ok (.iload_n 1, 1) := by decide +kernel
theorem qd_X_replay_41 : decode qc_X_replay 41 = .ok (.iconst 2, 1) := by decide +kernel
theorem qd_X_replay_42 : decode qc_X_replay 42 = .ok (.if_icmp .ne 46, 3) := by decide +kernel
theorem qd_X_replay_45 : decode qc_X_replay 45 = .ok (.aload_n 0, 1) := by decide +kernel
theorem qd_X_replay_46 : decode qc_X_replay 46 = .ok (.getfield 12, 3) := by decide +kernel
theorem qd_X_replay_49 : decode qc_X_replay 49 = .ok (.iload_n 2, 1) := by decide +kernel
theorem qd_X_replay_50 : decode qc_X_replay 50 = .ok (.bipush 64, 2) := by decide +kernel
theorem qd_X_replay_52 : decode qc_X_replay 52 = .ok (.idiv, 1) := by decide +kernel
theorem qd_X_replay_53 : decode qc_X_replay 53 = .ok (.iload_n 3, 1) := by decide +kernel
theorem qd_X_replay_54 : decode qc_X_replay 54 = .ok (.iconst 0, 1) := by decide +kernel
theorem qd_X_replay_55 : decode qc_X_replay 55 = .ok (.aload_n 0, 1) := by decide +kernel
theorem qd_X_replay_56 : decode qc_X_replay 56 = .ok (.getfield 35, 3) := by decide +kernel
theorem qd_X_replay_59 : decode qc_X_replay 59 = .ok (.invokevirtual 129, 3) := by decide +kernel
theorem qd_X_replay_62 : decode qc_X_replay 62 = .ok (.aload_n 0, 1) := by decide +kernel
theorem qd_X_replay_63 : decode qc_X_replay 63 = .ok (.getfield 12, 3) := by decide +kernel
theorem qd_X_replay_66 : decode qc_X_replay 66 = .ok (.getfield 133, 3) := by decide +kernel
theorem qd_X_replay_69 : decode qc_X_replay 69 = .ok (.istore_n 3, 1) := by decide +kernel
theorem qd_X_replay_70 : decode qc_X_replay 70 = .ok (.aload_n 0, 1) := by decide +kernel
theorem qd_X_replay_71 : decode qc_X_replay 71 = .ok (.getfield 12, 3) := by decide +kernel
theorem qd_X_replay_74 : decode qc_X_replay 74 = .ok (.getfield 136, 3) := by decide +kernel
theorem qd_X_replay_77 : decode qc_X_replay 77 = .ok (.iconst 3, 1) := by decide +kernel
theorem qd_X_replay_78 : decode qc_X_replay 78 = .ok (.if_icmp .ne 7, 3) := by decide +kernel
theorem qd_X_replay_81 : decode qc_X_replay 81 = .ok (.iconst 1, 1) := by decide +kernel
theorem qd_X_replay_82 : decode qc_X_replay 82 = .ok (.goto 4, 3) := by decide +kernel
theorem qd_X_replay_85 : decode qc_X_replay 85 = .ok (.iconst 0, 1) := by decide +kernel
theorem qd_X_replay_86 : decode qc_X_replay 86 = .ok (.istore 4, 2) := by decide +kernel
theorem qd_X_replay_88 : decode qc_X_replay 88 = .ok (.aload_n 0, 1) := by decide +kernel
theorem qd_X_replay_89 : decode qc_X_replay 89 = .ok (.getfield 12, 3) := by decide +kernel
theorem qd_X_replay_92 : decode qc_X_replay 92 = .ok (.iload_n 2, 1) := by decide +kernel
theorem qd_X_replay_93 : decode qc_X_replay 93 = .ok (.bipush 64, 2) := by decide +kernel
theorem qd_X_replay_95 : decode qc_X_replay 95 = .ok (.irem, 1) := by decide +kernel
theorem qd_X_replay_96 : decode qc_X_replay 96 = .ok (.iload_n 3, 1) := by decide +kernel
theorem qd_X_replay_97 : decode qc_X_replay 97 = .ok (.iload 4, 2) := by decide +kernel
theorem qd_X_replay_99 : decode qc_X_replay 99 = .ok (.aload_n 0, 1) := by decide +kernel
theorem qd_X_replay_100 : decode qc_X_replay 100 = .ok (.getfield 35, 3) := by decide +kernel
theorem qd_X_replay_103 : decode qc_X_replay 103 = .ok (.invokevirtual 129, 3) := by decide +kernel
theorem qd_X_replay_106 : decode qc_X_replay 106 = .ok (.aload_n 0, 1) := by decide +kernel
theorem qd_X_replay_107 : decode qc_X_replay 107 = .ok (.invokevirtual 139, 3) := by decide +kernel
theorem qd_X_replay_110 : decode qc_X_replay 110 = .ok (.aload_n 0, 1) := by decide +kernel
theorem qd_X_replay_111 : decode qc_X_replay 111 = .ok (.getfield 12, 3) := by decide +kernel
theorem qd_X_replay_114 : decode qc_X_replay 114 = .ok (.getfield 136, 3) := by decide +kernel
theorem qd_X_replay_117 : decode qc_X_replay 117 = .ok (.ireturn, 1) := by decide +kernel
theorem qd_X_replayed_0 : decode qc_X_replayed 0 = .ok (.aload_n 0, 1) := by decide +kernel
theorem qd_X_replayed_1 : decode qc_X_replayed 1 = .ok (.getfield 27, 3) := by decide +kernel
theorem qd_X_replayed_4 : decode qc_X_replayed 4 = .ok (.ifCond .eq 21, 3) := by decide +kernel
theorem qd_X_replayed_7 : decode qc_X_replayed 7 = .ok (.iload_n 1, 1) := by decide +kernel
theorem qd_X_replayed_8 : decode qc_X_replayed 8 = .ok (.bipush 7, 2) := by decide +kernel
theorem qd_X_replayed_10 : decode qc_X_replayed 10 = .ok (.invokestatic 38, 3) := by decide +kernel
theorem qd_X_replayed_13 : decode qc_X_replayed 13 = .ok (.ifCond .eq 12, 3) := by decide +kernel
theorem qd_X_replayed_16 : decode qc_X_replayed 16 = .ok (.aload_n 0, 1) := by decide +kernel
theorem qd_X_replayed_17 : decode qc_X_replayed 17 = .ok (.getfield 23, 3) := by decide +kernel
theorem qd_X_replayed_20 : decode qc_X_replayed 20 = .ok (.iload_n 1, 1) := by decide +kernel
theorem qd_X_replayed_21 : decode qc_X_replayed 21 = .ok (.iaload, 1) := by decide +kernel
theorem qd_X_replayed_22 : decode qc_X_replayed 22 = .ok (.goto 4, 3) := by decide +kernel
theorem qd_X_replayed_25 : decode qc_X_replayed 25 = .ok (.iconst (-1), 1) := by decide +kernel
theorem qd_X_replayed_26 : decode qc_X_replayed 26 = .ok (.ireturn, 1) := by decide +kernel
theorem qd_X_keepReplay_0 : decode qc_X_keepReplay 0 = .ok (.iconst 0, 1) := by decide +kernel
theorem qd_X_keepReplay_1 : decode qc_X_keepReplay 1 = .ok (.istore_n 1, 1) := by decide +kernel
theorem qd_X_keepReplay_2 : decode qc_X_keepReplay 2 = .ok (.iload_n 1, 1) := by decide +kernel
theorem qd_X_keepReplay_3 : decode qc_X_keepReplay 3 = .ok (.iconst 5, 1) := by decide +kernel
theorem qd_X_keepReplay_4 : decode qc_X_keepReplay 4 = .ok (.if_icmp .ge 26, 3) := by decide +kernel
theorem qd_X_keepReplay_7 : decode qc_X_keepReplay 7 = .ok (.aload_n 0, 1) := by decide +kernel
theorem qd_X_keepReplay_8 : decode qc_X_keepReplay 8 = .ok (.getfield 23, 3) := by decide +kernel
theorem qd_X_keepReplay_11 : decode qc_X_keepReplay 11 = .ok (.iload_n 1, 1) := by decide +kernel
theorem qd_X_keepReplay_12 : decode qc_X_keepReplay 12 = .ok (.aload_n 0, 1) := by decide +kernel
theorem qd_X_keepReplay_13 : decode qc_X_keepReplay 13 = .ok (.getfield 12, 3) := by decide +kernel
theorem qd_X_keepReplay_16 : decode qc_X_keepReplay 16 = .ok (.getfield 133, 3) := by decide +kernel
theorem qd_X_keepReplay_19 : decode qc_X_keepReplay 19 = .ok (.iload_n 1, 1) := by decide +kernel
theorem qd_X_keepReplay_20 : decode qc_X_keepReplay 20 = .ok (.invokestatic 110, 3) := by decide +kernel
theorem qd_X_keepReplay_23 : decode qc_X_keepReplay 23 = .ok (.iastore, 1) := by decide +kernel
theorem qd_X_keepReplay_24 : decode qc_X_keepReplay 24 = .ok (.iinc 1 1, 3) := by decide +kernel
theorem qd_X_keepReplay_27 : decode qc_X_keepReplay 27 = .ok (.goto (-25), 3) := by decide +kernel
theorem qd_X_keepReplay_30 : decode qc_X_keepReplay 30 = .ok (.aload_n 0, 1) := by decide +kernel
theorem qd_X_keepReplay_31 : decode qc_X_keepReplay 31 = .ok (.getfield 23, 3) := by decide +kernel
theorem qd_X_keepReplay_34 : decode qc_X_keepReplay 34 = .ok (.iconst 5, 1) := by decide +kernel
theorem qd_X_keepReplay_35 : decode qc_X_keepReplay 35 = .ok (.aload_n 0, 1) := by decide +kernel
theorem qd_X_keepReplay_36 : decode qc_X_keepReplay 36 = .ok (.getfield 12, 3) := by decide +kernel
theorem qd_X_keepReplay_39 : decode qc_X_keepReplay 39 = .ok (.getfield 142, 3) := by decide +kernel
theorem qd_X_keepReplay_42 : decode qc_X_keepReplay 42 = .ok (.iastore, 1) := by decide +kernel
theorem qd_X_keepReplay_43 : decode qc_X_keepReplay 43 = .ok (.aload_n 0, 1) := by decide +kernel
theorem qd_X_keepReplay_44 : decode qc_X_keepReplay 44 = .ok (.getfield 23, 3) := by decide +kernel
theorem qd_X_keepReplay_47 : decode qc_X_keepReplay 47 = .ok (.bipush 6, 2) := by decide +kernel
theorem qd_X_keepReplay_49 : decode qc_X_keepReplay 49 = .ok (.aload_n 0, 1) := by decide +kernel
theorem qd_X_keepReplay_50 : decode qc_X_keepReplay 50 = .ok (.getfield 12, 3) := by decide +kernel
theorem qd_X_keepReplay_53 : decode qc_X_keepReplay 53 = .ok (.getfield 145, 3) := by decide +kernel
theorem qd_X_keepReplay_56 : decode qc_X_keepReplay 56 = .ok (.iastore, 1) := by decide +kernel
theorem qd_X_keepReplay_57 : decode qc_X_keepReplay 57 = .ok (.aload_n 0, 1) := by decide +kernel
theorem qd_X_keepReplay_58 : decode qc_X_keepReplay 58 = .ok (.iconst 1, 1) := by decide +kernel
theorem qd_X_keepReplay_59 : decode qc_X_keepReplay 59 = .ok (.putfield 27, 3) := by decide +kernel
theorem qd_X_keepReplay_62 : decode qc_X_keepReplay 62 = .ok (.return_, 1) := by decide +kernel
theorem qd_X_firstState_0 : decode qc_X_firstState 0 = .ok (.aload_n 0, 1) := by decide +kernel
theorem qd_X_firstState_1 : decode qc_X_firstState 1 = .ok (.getfield 31, 3) := by decide +kernel
theorem qd_X_firstState_4 : decode qc_X_firstState 4 = .ok (.bipush 16, 2) := by decide +kernel
theorem qd_X_firstState_6 : decode qc_X_firstState 6 = .ok (.ishl, 1) := by decide +kernel
theorem qd_X_firstState_7 : decode qc_X_firstState 7 = .ok (.ireturn, 1) := by decide +kernel
theorem qd_X_isBelow_0 : decode qc_X_isBelow 0 = .ok (.iload_n 0, 1) := by decide +kernel
theorem qd_X_isBelow_1 : decode qc_X_isBelow 1 = .ok (.ifCond .lt 12, 3) := by decide +kernel
theorem qd_X_isBelow_4 : decode qc_X_isBelow 4 = .ok (.iload_n 0, 1) := by decide +kernel
theorem qd_X_isBelow_5 : decode qc_X_isBelow 5 = .ok (.iload_n 1, 1) := by decide +kernel
theorem qd_X_isBelow_6 : decode qc_X_isBelow 6 = .ok (.if_icmp .ge 7, 3) := by decide +kernel
theorem qd_X_isBelow_9 : decode qc_X_isBelow 9 = .ok (.iconst 1, 1) := by decide +kernel
theorem qd_X_isBelow_10 : decode qc_X_isBelow 10 = .ok (.goto 4, 3) := by decide +kernel
theorem qd_X_isBelow_13 : decode qc_X_isBelow 13 = .ok (.iconst 0, 1) := by decide +kernel
theorem qd_X_isBelow_14 : decode qc_X_isBelow 14 = .ok (.ireturn, 1) := by decide +kernel
theorem qd_X_wordOf_0 : decode qc_X_wordOf 0 = .ok (.iload_n 0, 1) := by decide +kernel
theorem qd_X_wordOf_1 : decode qc_X_wordOf 1 = .ok (.iconst 4, 1) := by decide +kernel
theorem qd_X_wordOf_2 : decode qc_X_wordOf 2 = .ok (.iload_n 1, 1) := by decide +kernel
theorem qd_X_wordOf_3 : decode qc_X_wordOf 3 = .ok (.imul, 1) := by decide +kernel
theorem qd_X_wordOf_4 : decode qc_X_wordOf 4 = .ok (.ishr, 1) := by decide +kernel
theorem qd_X_wordOf_5 : decode qc_X_wordOf 5 = .ok (.bipush 15, 2) := by decide +kernel
theorem qd_X_wordOf_7 : decode qc_X_wordOf 7 = .ok (.iand, 1) := by decide +kernel
theorem qd_X_wordOf_8 : decode qc_X_wordOf 8 = .ok (.ireturn, 1) := by decide +kernel
theorem qd_X_withWord_0 : decode qc_X_withWord 0 = .ok (.iload_n 0, 1) := by decide +kernel
theorem qd_X_withWord_1 : decode qc_X_withWord 1 = .ok (.bipush 15, 2) := by decide +kernel
theorem qd_X_withWord_3 : decode qc_X_withWord 3 = .ok (.iconst 4, 1) := by decide +kernel
theorem qd_X_withWord_4 : decode qc_X_withWord 4 = .ok (.iload_n 1, 1) := by decide +kernel
theorem qd_X_withWord_5 : decode qc_X_withWord 5 = .ok (.imul, 1) := by decide +kernel
theorem qd_X_withWord_6 : decode qc_X_withWord 6 = .ok (.ishl, 1) := by decide +kernel
theorem qd_X_withWord_7 : decode qc_X_withWord 7 = .ok (.iconst (-1), 1) := by decide +kernel
theorem qd_X_withWord_8 : decode qc_X_withWord 8 = .ok (.ixor, 1) := by decide +kernel
theorem qd_X_withWord_9 : decode qc_X_withWord 9 = .ok (.iand, 1) := by decide +kernel
theorem qd_X_withWord_10 : decode qc_X_withWord 10 = .ok (.iload_n 2, 1) := by decide +kernel
theorem qd_X_withWord_11 : decode qc_X_withWord 11 = .ok (.iconst 4, 1) := by decide +kernel
theorem qd_X_withWord_12 : decode qc_X_withWord 12 = .ok (.iload_n 1, 1) := by decide +kernel
theorem qd_X_withWord_13 : decode qc_X_withWord 13 = .ok (.imul, 1) := by decide +kernel
theorem qd_X_withWord_14 : decode qc_X_withWord 14 = .ok (.ishl, 1) := by decide +kernel
theorem qd_X_withWord_15 : decode qc_X_withWord 15 = .ok (.ior, 1) := by decide +kernel
theorem qd_X_withWord_16 : decode qc_X_withWord 16 = .ok (.ireturn, 1) := by decide +kernel
end
section
/-! The small world: every object has a number; an int field or array element is sg o i; references are object numbers. -/
abbrev MV : Type := Int32 ⊕ Nat
abbrev SG : Type := Nat → Nat → Int32
abbrev LY : Type := Nat → (Bool × Nat) ⊕ (Nat × List (Option Nat))
abbrev STB : Type := List (String × String × String × Nat × (Nat → Int32))
abbrev SD : Type := List vw_C × LY × Nat × List Cond × STB
abbrev WC : Type := va_G × ClassId × ClassId × (Nat → Nat)
abbrev KX : Type := Program × Launch × Env × Room × State × MethodId × Array Value × List Frame × Method × Code × (Nat → Prop) × Nat × Nat × (State → Prop)
def mvV (ad : Nat → Nat) (v : MV) : Value := match v with
  | .inl i => .int i
  | .inr o => .ref (ad o)
def ew_fv (ad : Nat → Nat) (sg : SG) (o : Nat) (k : Nat) (f : Option Nat) : Value := match f with
  | none => .int (sg o k)
  | some q => .ref (ad q)
def ew_c (S : SD) (w : WC) (sg : SG) (o : Nat) : va_E := match S.2.1 o with
  | .inl (z, n) => .inl (if z = true then w.2.2.1 else w.2.1, n, .inl (sg o))
  | .inr (ci, fl) => .inr (ci, fl.mapIdx (ew_fv w.2.2.2 sg o))
def ew_ws (S : SD) (w : WC) (sg : SG) : va_W := (List.range S.2.2.1).map (fun o => (w.2.2.2 o, ew_c S w sg o))
def ew_ty (w : WC) : List (ClassId × FieldType) := [(w.2.1, .int), (w.2.2.1, .boolean)]
def ew_A (S : SD) (w : WC) (sz : Nat) : Nat → Prop := fun q => (∃ o, o < S.2.2.1 ∧ q = w.2.2.2 o) ∨ sz ≤ q
def ew_inj (S : SD) (w : WC) : Prop := ∀ i j, i < S.2.2.1 → j < S.2.2.1 → w.2.2.2 i = w.2.2.2 j → i = j
def ew_nw (S : SD) (U : State) : Prop := ∀ x ∈ S.2.2.2.1, va_Nw x U
/-- the words of nest mates, of the two kinds that a warmed table keeps -/
def ew_nk (S : SD) : Prop := ∀ x ∈ S.2.2.2.1, (∃ a i b n d h, x = Cond.fieldLinkNest a i b n d h) ∨ ∃ a i y h, x = Cond.methodLinkNest a i y h
def ew_st (S : SD) (w : WC) (A : Nat → Prop) (U : State) (H : Heap) : Prop := ∀ (j : Nat) (q : String × String × String × Nat × (Nat → Int32)), S.2.2.2.2[j]? = some q → va_Z q.1 q.2.1 q.2.2.1 (.ref (w.2.2.2 (1000 + j))) A U H ∧ va_T .int (w.2.2.2 (1000 + j)) q.2.2.2.1 (fun i => .int (q.2.2.2.2 i)) A U H
def ew_W (S : SD) (w : WC) (sg : SG) (U : State) : Prop := va_P w.1 S.1 (ew_ws S w sg) U.heap ∧ va_K w.1 S.1 (ew_ty w) U ∧ ew_inj S w ∧ ew_nw S U ∧ ew_st S w (ew_A S w U.heap.size) U U.heap
def ew_Q (S : SD) (w : WC) (post : Option MV → SG → Prop) (sz : Nat) : Array Value → State → Outcome → State → Prop := fun _ st oc t => (∃ (v : Option MV) (sg : SG), oc = .returned (v.map (mvV w.2.2.2)) ∧ post v sg ∧ ew_W S w sg t) ∧ va_F (ew_A S w sz) st t
/-- a method's contract in the small world -/
def ew_M (S : SD) (w : WC) (l : Launch) (y : MethodName) (ws : List Cond) (rm : Room) (args : List MV) (sg : SG) (post : Option MV → SG → Prop) : Prop := ∀ sz : Nat, Met l y ws rm (va_Pc (args.map (mvV w.2.2.2)) (fun U => U.heap.size = sz ∧ ew_W S w sg U)) (ew_Q S w post sz) 0 0 (ew_A S w sz)
def ew_L (ad : Nat → Nat) (ls : Array Slot) (nL : Nat) (lv : List (Option MV)) : Prop := ls.size = nL ∧ lv.length = nL ∧ lv_wf ls ∧ ∀ (i : Nat) (v : MV), lv[i]? = some (some v) → ls[i]? = some (.val (mvV ad v))
/-- the machine at pc, with lv, operands st, world sg comes to its end -/
def ew_E (S : SD) (w : WC) (nL : Nat) (k : KX) (pc : Nat) (lv : List (Option MV)) (st : List MV) (sg : SG) : Prop := match k with
  | (p, l, e, R, s, m, args, below, meth, c, A, cs, sl, Q) => ∀ (H : Heap) (locs : List Loc) (ls : Array Slot), ew_L w.2.2.2 ls nL lv → va_P w.1 S.1 (ew_ws S w sg) H → va_S A s.heap H locs → W p l e R s m args below meth c H locs cs sl Q (F0 m pc ls (st.map (mvV w.2.2.2)))
def ew_G (S : SD) (w : WC) (nL : Nat) (k : KX) (cc : ByteArray) (own : String) (Ts : List Cond) (ret : Option FieldType) (rm : Room) : Prop := match k with
  | (p, _, _, R, s, m, args, _, meth, c, A, cs, sl, _) => p.tables.exec = Jvm.exec ∧ c.code = cc ∧ c.maxLocals = nL ∧ s.vm.findClass own = some m.cls ∧ (∀ w ∈ Ts, w.before args s = true) ∧ va_K w.1 S.1 (ew_ty w) s ∧ ew_inj S w ∧ ew_nw S s ∧ ew_st S w A s s.heap ∧ meth.sig.returnType = ret ∧ meth.locks = false ∧ R = rm ∧ ew_nk S ∧ (∀ o, o < S.2.2.1 → A (w.2.2.2 o)) ∧ (∀ q, s.heap.size ≤ q → A q) ∧ cs ≤ R.cells ∧ sl ≤ R.slots
/-- the end is a method's own, with post -/
def ew_P (S : SD) (w : WC) (k : KX) (post : Option MV → SG → Prop) : Prop := match k with
  | (_, _, _, _, s, _, args, below, _, _, A, cs, sl, Q) => A = ew_A S w s.heap.size ∧ cs = 0 ∧ sl = 0 ∧ Q = MQ below (ew_Q S w post s.heap.size) args s 0 0 (ew_A S w s.heap.size)
def sup (sg : SG) (o i : Nat) (x : Int32) : SG := fun q => if q = o then upd (sg o) i x else sg q
theorem sup_s {sg : SG} {o i : Nat} {x : Int32} : sup sg o i x o = upd (sg o) i x := if_pos rfl
theorem sup_n {sg : SG} {o i q : Nat} {x : Int32} (h : q ≠ o) : sup sg o i x q = sg q := if_neg h
theorem ew_ws_at (S : SD) (w : WC) (sg : SG) {o : Nat} (h : o < S.2.2.1) : (ew_ws S w sg)[o]? = some (w.2.2.2 o, ew_c S w sg o) := by
  simp [ew_ws, List.getElem?_range, h]
theorem ew_ws_inv {S : SD} {w : WC} {sg : SG} {o : Nat} {q : Nat × va_E} (h : (ew_ws S w sg)[o]? = some q) : o < S.2.2.1 ∧ q = (w.2.2.2 o, ew_c S w sg o) := by
  have hl : o < S.2.2.1 := by
    have := (List.getElem?_eq_some_iff.mp h).1
    simpa [ew_ws] using this
  refine ⟨hl, ?_⟩
  rw [ew_ws_at S w sg hl] at h
  exact (Option.some.inj h).symm
theorem ew_D {S : SD} {w : WC} {A : Nat → Prop} (hi : ew_inj S w) (hA : ∀ o, o < S.2.2.1 → A (w.2.2.2 o)) (sg : SG) : va_D A (ew_ws S w sg) := by
  refine ⟨fun i j p q hp hq e => ?_, fun k q hk => ?_⟩
  · obtain ⟨h1, rfl⟩ := ew_ws_inv hp
    obtain ⟨h2, rfl⟩ := ew_ws_inv hq
    exact hi i j h1 h2 e
  · obtain ⟨h1, rfl⟩ := ew_ws_inv hk
    exact hA k h1
theorem ew_c_other {S : SD} {w : WC} {sg sg' : SG} {o : Nat} (h : sg' o = sg o) : ew_c S w sg' o = ew_c S w sg o := by
  unfold ew_c
  rcases S.2.1 o with ⟨z, n⟩ | ⟨ci, fl⟩
  · simp only [h]
  · simp only []
    congr 2
    have : ew_fv w.2.2.2 sg' o = ew_fv w.2.2.2 sg o := by
      funext k f
      cases f <;> simp [ew_fv, h]
    rw [this]
theorem ew_ws_set {S : SD} {w : WC} {sg : SG} {o i : Nat} {x : Int32} (_h : o < S.2.2.1) : (ew_ws S w sg).set o (w.2.2.2 o, ew_c S w (sup sg o i x) o) = ew_ws S w (sup sg o i x) := by
  refine List.ext_getElem? (fun j => ?_)
  rw [List.getElem?_set]
  by_cases hj : o = j
  · subst hj
    simp only [if_true]
    have hl : o < (ew_ws S w sg).length := by simpa [ew_ws] using _h
    rw [if_pos hl, ew_ws_at S w _ _h]
  · rw [if_neg hj]
    by_cases hl : j < S.2.2.1
    · rw [ew_ws_at S w sg hl, ew_ws_at S w _ hl, ew_c_other (sg' := sup sg o i x) (sg := sg) (sup_n (fun q => hj q.symm))]
    · simp [ew_ws, List.getElem?_range, hl]
theorem ew_c_arr {S : SD} {w : WC} {sg : SG} {o n : Nat} {z : Bool} (h : S.2.1 o = .inl (z, n)) : ew_c S w sg o = .inl (if z = true then w.2.2.1 else w.2.1, n, .inl (sg o)) := by
  unfold ew_c; rw [h]
theorem ew_c_obj {S : SD} {w : WC} {sg : SG} {o ci : Nat} {fl : List (Option Nat)} (h : S.2.1 o = .inr (ci, fl)) : ew_c S w sg o = .inr (ci, fl.mapIdx (ew_fv w.2.2.2 sg o)) := by
  unfold ew_c; rw [h]
theorem mv_cat (ad : Nat → Nat) (v : MV) : (mvV ad v).category = 1 := by cases v <;> rfl
theorem mv_sum (ad : Nat → Nat) (l : List MV) : ((l.map (mvV ad)).map fun v => v.category).sum = l.length := by
  induction l with
  | nil => rfl
  | cons a l ih => simp only [List.map_cons, List.sum_cons, mv_cat, ih, List.length_cons]; omega
def ew_pl (ad : Nat → Nat) (lv : List (Option MV)) : List (Nat × Value) := (List.range lv.length).filterMap (fun i => match lv[i]? with
  | some (some v) => some (i, mvV ad v)
  | _ => none)
theorem ew_pl_mem {ad : Nat → Nat} {lv : List (Option MV)} {i : Nat} {v : MV} (h : lv[i]? = some (some v)) : (i, mvV ad v) ∈ ew_pl ad lv := by
  refine List.mem_filterMap.mpr ⟨i, List.mem_range.mpr (List.getElem?_eq_some_iff.mp h).1, ?_⟩
  rw [h]
theorem ew_pl_inv {ad : Nat → Nat} {lv : List (Option MV)} {q : Nat × Value} (h : q ∈ ew_pl ad lv) : ∃ v, lv[q.1]? = some (some v) ∧ q.2 = mvV ad v := by
  obtain ⟨i, -, h⟩ := List.mem_filterMap.mp h
  split at h
  next v hv => cases h; exact ⟨v, hv, rfl⟩
  next => cases h
theorem ew_L.has {ad : Nat → Nat} {ls : Array Slot} {nL : Nat} {lv : List (Option MV)} (h : ew_L ad ls nL lv) : lv_has ls nL (ew_pl ad lv) := ⟨h.1, h.2.2.1, fun q hq => by
  obtain ⟨v, h1, h2⟩ := ew_pl_inv hq
  rw [h2]
  exact h.2.2.2 _ _ h1⟩
theorem ew_L.back {ad : Nat → Nat} {ls ls' : Array Slot} {nL i : Nat} {lv : List (Option MV)} {x : MV} (h0 : ew_L ad ls nL lv) (hi : i < nL) (h : lv_has ls' nL ((i, mvV ad x) :: (ew_pl ad lv).filter (fun q => !(q.1 == i) && !(q.1 + 1 == i && q.2.category == 2)))) : ew_L ad ls' nL (lv.set i (some x)) := by
  refine ⟨h.1, by rw [List.length_set]; exact h0.2.1, h.2.1, fun j v hj => ?_⟩
  rw [List.getElem?_set] at hj
  by_cases e : i = j
  · subst e
    rw [if_pos rfl, if_pos (by rw [h0.2.1]; exact hi)] at hj
    cases hj
    exact h.2.2 (i, mvV ad x) List.mem_cons_self
  · rw [if_neg e] at hj
    refine h.2.2 (j, mvV ad v) (List.mem_cons_of_mem _ (List.mem_filter.mpr ⟨ew_pl_mem hj, ?_⟩))
    simp [Ne.symm e, mv_cat]
theorem ew_stat_go {S : SD} {w : WC} {A B : Nat → Prop} {s U : State} {H : Heap} (h : ew_st S w A s s.heap) (hW : s.vm.Alike U.vm) (hk : ∀ a : Nat, a < s.heap.size → ¬ A a → H[a]? = s.heap[a]?) (hAB : ∀ q, B q → A q) : ew_st S w B U H := by
  intro j q hq
  obtain ⟨h1, h2⟩ := h j q hq
  exact ⟨((va_Z.moved hW h1).kept hk).narrow hAB, ((va_T.moved hW h2).kept hk).narrow hAB⟩
theorem ew_nw_go {S : SD} {s U : State} (hk : ew_nk S) (h : ew_nw S s) (hW : s.WarmedH U.vm) : ew_nw S U := by
  intro x hx
  rcases hk x hx with ⟨a, i, b, n, d, hh, rfl⟩ | ⟨a, i, y, hh, rfl⟩
  · exact va_Nw.warmF hW (h _ hx)
  · exact va_Nw.warmM hW (h _ hx)
theorem ew_nw_same {S : SD} {s U : State} (hk : ew_nk S) (h : ew_nw S s) (e : s.vm = U.vm) : ew_nw S U := by
  intro x hx
  rcases hk x hx with ⟨a, i, b, n, d, hh, rfl⟩ | ⟨a, i, y, hh, rfl⟩
  · exact va_Nw.same rfl e (h _ hx)
  · exact va_Nw.same rfl e (h _ hx)
theorem ew_A_mono {S : SD} {w : WC} {a b : Nat} (h : a ≤ b) : ∀ q, ew_A S w b q → ew_A S w a q := by
  intro q hq
  rcases hq with h1 | h1
  · exact Or.inl h1
  · exact Or.inr (Nat.le_trans h h1)
theorem ew_A_in {S : SD} {w : WC} {A : Nat → Prop} {a b : Nat} (hA : ∀ o, o < S.2.2.1 → A (w.2.2.2 o)) (hh : ∀ q, a ≤ q → A q) (h : a ≤ b) : ∀ q, ew_A S w b q → A q := by
  intro q hq
  rcases hq with ⟨o, ho, rfl⟩ | h1
  · exact hA o ho
  · exact hh q (Nat.le_trans h h1)
/-- the world of a later state of the same tables -/
theorem ew_W_of {S : SD} {w : WC} {sg : SG} {A : Nat → Prop} {s U : State} {H : Heap} {locs : List Loc} (hk : ew_nk S) (hA : ∀ o, o < S.2.2.1 → A (w.2.2.2 o)) (hh : ∀ q, s.heap.size ≤ q → A q) (hP : va_P w.1 S.1 (ew_ws S w sg) H) (hK : va_K w.1 S.1 (ew_ty w) s) (hi : ew_inj S w) (hn : ew_nw S s) (ht : ew_st S w A s s.heap) (hS : va_S A s.heap H locs) (hU : U.heap = H) (hW : s.WarmedH U.vm) : ew_W S w sg U := by
  refine ⟨by rw [hU]; exact hP, va_K.moved hW.alike hK, hi, ew_nw_go hk hn hW, ?_⟩
  rw [hU]
  exact ew_stat_go ht hW.alike hS.2.1 (ew_A_in hA hh hS.1)
theorem ew_blind {S : SD} {w : WC} {sg : SG} {U : State} (hk : ew_nk S) (g : JFrame) (mk : MethodId) (a : Array Value) (h : ew_W S w sg U) : ew_W S w sg (U.calling g mk a) := by
  obtain ⟨h1, h2, h3, h4, h5⟩ := h
  refine ⟨h1, va_K.moved (u := U) (U := U.calling g mk a) (Vm.Alike.refl U.vm) h2, h3, ew_nw_same hk h4 rfl, ?_⟩
  exact ew_stat_go (U := U.calling g mk a) h5 (Vm.Alike.refl U.vm) (fun _ _ _ => rfl) (fun _ h => h)
section EW
variable {S : SD} {w : WC} {nL : Nat} {k : KX} {cc : ByteArray} {own : String} {Ts : List Cond} {ret : Option FieldType} {rm : Room} {post : Option MV → SG → Prop} {pc : Nat} {lv : List (Option MV)} {st : List MV} {sg : SG}
theorem ew_iconst (g : ew_G S w nL k cc own Ts ret rm) {n : Int} {v : Int32} (d : decode cc pc = .ok (.iconst n, 1)) (hv : Int32.ofInt n = v) (h : ew_E S w nL k (pc + 1) lv (.inl v :: st) sg) : ew_E S w nL k pc lv st sg := by
  obtain ⟨p, l, e, R, s, m, args, below, meth, c, A, cs, sl, Q⟩ := k
  intro H locs ls hl hP hS
  exact lv_iconst g.1 g.2.1 d hv (h H locs ls hl hP hS)
theorem ew_bipush (g : ew_G S w nL k cc own Ts ret rm) {n : Int} {v : Int32} (d : decode cc pc = .ok (.bipush n, 2)) (hv : (Int8.ofInt n).toInt32 = v) (h : ew_E S w nL k (pc + 2) lv (.inl v :: st) sg) : ew_E S w nL k pc lv st sg := by
  obtain ⟨p, l, e, R, s, m, args, below, meth, c, A, cs, sl, Q⟩ := k
  intro H locs ls hl hP hS
  exact lv_bipush g.1 g.2.1 d hv (h H locs ls hl hP hS)
theorem ew_sipush (g : ew_G S w nL k cc own Ts ret rm) {n : Int} {v : Int32} (d : decode cc pc = .ok (.sipush n, 3)) (hv : (Int16.ofInt n).toInt32 = v) (h : ew_E S w nL k (pc + 3) lv (.inl v :: st) sg) : ew_E S w nL k pc lv st sg := by
  obtain ⟨p, l, e, R, s, m, args, below, meth, c, A, cs, sl, Q⟩ := k
  intro H locs ls hl hP hS
  exact lv_sipush g.1 g.2.1 d hv (h H locs ls hl hP hS)
theorem ew_iload_n (g : ew_G S w nL k cc own Ts ret rm) {i : Fin 4} {x : Int32} (d : decode cc pc = .ok (.iload_n i, 1)) (hx : lv[(i : Nat)]? = some (some (.inl x))) (h : ew_E S w nL k (pc + 1) lv (.inl x :: st) sg) : ew_E S w nL k pc lv st sg := by
  obtain ⟨p, l, e, R, s, m, args, below, meth, c, A, cs, sl, Q⟩ := k
  intro H locs ls hl hP hS
  exact lv_iload_n g.1 g.2.1 d rfl (hl.2.2.2 _ _ hx) (h H locs ls hl hP hS)
theorem ew_iload (g : ew_G S w nL k cc own Ts ret rm) {i : Nat} {x : Int32} (d : decode cc pc = .ok (.iload i, 2)) (hx : lv[i]? = some (some (.inl x))) (h : ew_E S w nL k (pc + 2) lv (.inl x :: st) sg) : ew_E S w nL k pc lv st sg := by
  obtain ⟨p, l, e, R, s, m, args, below, meth, c, A, cs, sl, Q⟩ := k
  intro H locs ls hl hP hS
  exact lv_iload g.1 g.2.1 d (hl.2.2.2 _ _ hx) (h H locs ls hl hP hS)
theorem ew_aload_n (g : ew_G S w nL k cc own Ts ret rm) {i : Fin 4} {o : Nat} (d : decode cc pc = .ok (.aload_n i, 1)) (hx : lv[(i : Nat)]? = some (some (.inr o))) (h : ew_E S w nL k (pc + 1) lv (.inr o :: st) sg) : ew_E S w nL k pc lv st sg := by
  obtain ⟨p, l, e, R, s, m, args, below, meth, c, A, cs, sl, Q⟩ := k
  intro H locs ls hl hP hS
  exact lv_aload_n g.1 g.2.1 d rfl (hl.2.2.2 _ _ hx) (h H locs ls hl hP hS)
theorem ew_aload (g : ew_G S w nL k cc own Ts ret rm) {i : Nat} {o : Nat} (d : decode cc pc = .ok (.aload i, 2)) (hx : lv[i]? = some (some (.inr o))) (h : ew_E S w nL k (pc + 2) lv (.inr o :: st) sg) : ew_E S w nL k pc lv st sg := by
  obtain ⟨p, l, e, R, s, m, args, below, meth, c, A, cs, sl, Q⟩ := k
  intro H locs ls hl hP hS
  exact lv_aload g.1 g.2.1 d (hl.2.2.2 _ _ hx) (h H locs ls hl hP hS)
theorem ew_istore_n (g : ew_G S w nL k cc own Ts ret rm) {i : Fin 4} {x : Int32} (d : decode cc pc = .ok (.istore_n i, 1)) (hn : (i : Nat) < nL) (h : ew_E S w nL k (pc + 1) (lv.set (i : Nat) (some (.inl x))) st sg) : ew_E S w nL k pc lv (.inl x :: st) sg := by
  obtain ⟨p, l, e, R, s, m, args, below, meth, c, A, cs, sl, Q⟩ := k
  intro H locs ls hl hP hS
  exact lv_istore_n g.1 g.2.1 d rfl hl.has hn rfl (fun ls' hl' => h H locs ls' (hl.back hn hl') hP hS)
theorem ew_istore (g : ew_G S w nL k cc own Ts ret rm) {i : Nat} {x : Int32} (d : decode cc pc = .ok (.istore i, 2)) (hn : i < nL) (h : ew_E S w nL k (pc + 2) (lv.set i (some (.inl x))) st sg) : ew_E S w nL k pc lv (.inl x :: st) sg := by
  obtain ⟨p, l, e, R, s, m, args, below, meth, c, A, cs, sl, Q⟩ := k
  intro H locs ls hl hP hS
  exact lv_istore g.1 g.2.1 d hl.has hn rfl (fun ls' hl' => h H locs ls' (hl.back hn hl') hP hS)
theorem ew_astore_n (g : ew_G S w nL k cc own Ts ret rm) {i : Fin 4} {x : Nat} (d : decode cc pc = .ok (.astore_n i, 1)) (hn : (i : Nat) < nL) (h : ew_E S w nL k (pc + 1) (lv.set (i : Nat) (some (.inr x))) st sg) : ew_E S w nL k pc lv (.inr x :: st) sg := by
  obtain ⟨p, l, e, R, s, m, args, below, meth, c, A, cs, sl, Q⟩ := k
  intro H locs ls hl hP hS
  exact lv_astore_n g.1 g.2.1 d rfl hl.has hn rfl (fun ls' hl' => h H locs ls' (hl.back hn hl') hP hS)
theorem ew_astore (g : ew_G S w nL k cc own Ts ret rm) {i : Nat} {x : Nat} (d : decode cc pc = .ok (.astore i, 2)) (hn : i < nL) (h : ew_E S w nL k (pc + 2) (lv.set i (some (.inr x))) st sg) : ew_E S w nL k pc lv (.inr x :: st) sg := by
  obtain ⟨p, l, e, R, s, m, args, below, meth, c, A, cs, sl, Q⟩ := k
  intro H locs ls hl hP hS
  exact lv_astore g.1 g.2.1 d hl.has hn rfl (fun ls' hl' => h H locs ls' (hl.back hn hl') hP hS)
theorem ew_iinc (g : ew_G S w nL k cc own Ts ret rm) {i : Nat} {n : Int} {x v : Int32} (d : decode cc pc = .ok (.iinc i n, 3)) (hn : i < nL) (hx : lv[i]? = some (some (.inl x))) (hv : x + Int32.ofInt n = v) (h : ew_E S w nL k (pc + 3) (lv.set i (some (.inl v))) st sg) : ew_E S w nL k pc lv st sg := by
  obtain ⟨p, l, e, R, s, m, args, below, meth, c, A, cs, sl, Q⟩ := k
  intro H locs ls hl hP hS
  obtain ⟨j, hj⟩ := List.getElem?_of_mem (ew_pl_mem (ad := w.2.2.2) hx)
  exact lv_iinc g.1 g.2.1 d hl.has hj hv hn rfl (fun ls' hl' => h H locs ls' (hl.back hn hl') hP hS)
theorem ew_iadd (g : ew_G S w nL k cc own Ts ret rm) {x y : Int32} (d : decode cc pc = .ok (.iadd, 1)) (h : ew_E S w nL k (pc + 1) lv (.inl (x + y) :: st) sg) : ew_E S w nL k pc lv (.inl y :: .inl x :: st) sg := by
  obtain ⟨p, l, e, R, s, m, args, below, meth, c, A, cs, sl, Q⟩ := k
  intro H locs ls hl hP hS
  exact lv_iadd g.1 g.2.1 d (h H locs ls hl hP hS)
theorem ew_isub (g : ew_G S w nL k cc own Ts ret rm) {x y : Int32} (d : decode cc pc = .ok (.isub, 1)) (h : ew_E S w nL k (pc + 1) lv (.inl (x - y) :: st) sg) : ew_E S w nL k pc lv (.inl y :: .inl x :: st) sg := by
  obtain ⟨p, l, e, R, s, m, args, below, meth, c, A, cs, sl, Q⟩ := k
  intro H locs ls hl hP hS
  exact lv_isub g.1 g.2.1 d (h H locs ls hl hP hS)
theorem ew_imul (g : ew_G S w nL k cc own Ts ret rm) {x y : Int32} (d : decode cc pc = .ok (.imul, 1)) (h : ew_E S w nL k (pc + 1) lv (.inl (x * y) :: st) sg) : ew_E S w nL k pc lv (.inl y :: .inl x :: st) sg := by
  obtain ⟨p, l, e, R, s, m, args, below, meth, c, A, cs, sl, Q⟩ := k
  intro H locs ls hl hP hS
  exact lv_imul g.1 g.2.1 d (h H locs ls hl hP hS)
theorem ew_iand (g : ew_G S w nL k cc own Ts ret rm) {x y : Int32} (d : decode cc pc = .ok (.iand, 1)) (h : ew_E S w nL k (pc + 1) lv (.inl (x &&& y) :: st) sg) : ew_E S w nL k pc lv (.inl y :: .inl x :: st) sg := by
  obtain ⟨p, l, e, R, s, m, args, below, meth, c, A, cs, sl, Q⟩ := k
  intro H locs ls hl hP hS
  exact lv_iand g.1 g.2.1 d (h H locs ls hl hP hS)
theorem ew_ior (g : ew_G S w nL k cc own Ts ret rm) {x y : Int32} (d : decode cc pc = .ok (.ior, 1)) (h : ew_E S w nL k (pc + 1) lv (.inl (x ||| y) :: st) sg) : ew_E S w nL k pc lv (.inl y :: .inl x :: st) sg := by
  obtain ⟨p, l, e, R, s, m, args, below, meth, c, A, cs, sl, Q⟩ := k
  intro H locs ls hl hP hS
  exact lv_ior g.1 g.2.1 d (h H locs ls hl hP hS)
theorem ew_ixor (g : ew_G S w nL k cc own Ts ret rm) {x y : Int32} (d : decode cc pc = .ok (.ixor, 1)) (h : ew_E S w nL k (pc + 1) lv (.inl (x ^^^ y) :: st) sg) : ew_E S w nL k pc lv (.inl y :: .inl x :: st) sg := by
  obtain ⟨p, l, e, R, s, m, args, below, meth, c, A, cs, sl, Q⟩ := k
  intro H locs ls hl hP hS
  exact lv_ixor g.1 g.2.1 d (h H locs ls hl hP hS)
theorem ew_ishl (g : ew_G S w nL k cc own Ts ret rm) {x y : Int32} (d : decode cc pc = .ok (.ishl, 1)) (h : ew_E S w nL k (pc + 1) lv (.inl (x <<< (y &&& 31)) :: st) sg) : ew_E S w nL k pc lv (.inl y :: .inl x :: st) sg := by
  obtain ⟨p, l, e, R, s, m, args, below, meth, c, A, cs, sl, Q⟩ := k
  intro H locs ls hl hP hS
  exact lv_ishl g.1 g.2.1 d (h H locs ls hl hP hS)
theorem ew_ishr (g : ew_G S w nL k cc own Ts ret rm) {x y : Int32} (d : decode cc pc = .ok (.ishr, 1)) (h : ew_E S w nL k (pc + 1) lv (.inl (x >>> (y &&& 31)) :: st) sg) : ew_E S w nL k pc lv (.inl y :: .inl x :: st) sg := by
  obtain ⟨p, l, e, R, s, m, args, below, meth, c, A, cs, sl, Q⟩ := k
  intro H locs ls hl hP hS
  exact lv_ishr g.1 g.2.1 d (h H locs ls hl hP hS)
theorem ew_iushr (g : ew_G S w nL k cc own Ts ret rm) {x y v : Int32} (d : decode cc pc = .ok (.iushr, 1)) (hv : (x.toUInt32 >>> (y.toUInt32 &&& Int32.toUInt32 31)).toInt32 = v) (h : ew_E S w nL k (pc + 1) lv (.inl v :: st) sg) : ew_E S w nL k pc lv (.inl y :: .inl x :: st) sg := by
  obtain ⟨p, l, e, R, s, m, args, below, meth, c, A, cs, sl, Q⟩ := k
  intro H locs ls hl hP hS
  exact lv_iushr g.1 g.2.1 d hv (h H locs ls hl hP hS)
theorem ew_idiv (g : ew_G S w nL k cc own Ts ret rm) {x y : Int32} (d : decode cc pc = .ok (.idiv, 1)) (hne : ¬ y = 0) (h : ew_E S w nL k (pc + 1) lv (.inl (x / y) :: st) sg) : ew_E S w nL k pc lv (.inl y :: .inl x :: st) sg := by
  obtain ⟨p, l, e, R, s, m, args, below, meth, c, A, cs, sl, Q⟩ := k
  intro H locs ls hl hP hS
  exact lv_idiv g.1 g.2.1 d hne (h H locs ls hl hP hS)
theorem ew_irem (g : ew_G S w nL k cc own Ts ret rm) {x y : Int32} (d : decode cc pc = .ok (.irem, 1)) (hne : ¬ y = 0) (h : ew_E S w nL k (pc + 1) lv (.inl (x - x / y * y) :: st) sg) : ew_E S w nL k pc lv (.inl y :: .inl x :: st) sg := by
  obtain ⟨p, l, e, R, s, m, args, below, meth, c, A, cs, sl, Q⟩ := k
  intro H locs ls hl hP hS
  exact lv_irem g.1 g.2.1 d hne (h H locs ls hl hP hS)
theorem ew_ineg (g : ew_G S w nL k cc own Ts ret rm) {x : Int32} (d : decode cc pc = .ok (.ineg, 1)) (h : ew_E S w nL k (pc + 1) lv (.inl (-x) :: st) sg) : ew_E S w nL k pc lv (.inl x :: st) sg := by
  obtain ⟨p, l, e, R, s, m, args, below, meth, c, A, cs, sl, Q⟩ := k
  intro H locs ls hl hP hS
  exact lv_ineg g.1 g.2.1 d (h H locs ls hl hP hS)
theorem ew_dup (g : ew_G S w nL k cc own Ts ret rm) {a : MV} (d : decode cc pc = .ok (.dup, 1)) (h : ew_E S w nL k (pc + 1) lv (a :: a :: st) sg) : ew_E S w nL k pc lv (a :: st) sg := by
  obtain ⟨p, l, e, R, s, m, args, below, meth, c, A, cs, sl, Q⟩ := k
  intro H locs ls hl hP hS
  exact lv_dup g.1 g.2.1 d (mv_cat _ a) (h H locs ls hl hP hS)
theorem ew_pop (g : ew_G S w nL k cc own Ts ret rm) {a : MV} (d : decode cc pc = .ok (.pop, 1)) (h : ew_E S w nL k (pc + 1) lv st sg) : ew_E S w nL k pc lv (a :: st) sg := by
  obtain ⟨p, l, e, R, s, m, args, below, meth, c, A, cs, sl, Q⟩ := k
  intro H locs ls hl hP hS
  exact lv_pop g.1 g.2.1 d (mv_cat _ a) (h H locs ls hl hP hS)
theorem ew_dup_x1 (g : ew_G S w nL k cc own Ts ret rm) {a b : MV} (d : decode cc pc = .ok (.dup_x1, 1)) (h : ew_E S w nL k (pc + 1) lv (a :: b :: a :: st) sg) : ew_E S w nL k pc lv (a :: b :: st) sg := by
  obtain ⟨p, l, e, R, s, m, args, below, meth, c, A, cs, sl, Q⟩ := k
  intro H locs ls hl hP hS
  exact lv_dup_x1 g.1 g.2.1 d (mv_cat _ a) (mv_cat _ b) (h H locs ls hl hP hS)
theorem ew_dup_x2 (g : ew_G S w nL k cc own Ts ret rm) {a b f : MV} (d : decode cc pc = .ok (.dup_x2, 1)) (h : ew_E S w nL k (pc + 1) lv (a :: b :: f :: a :: st) sg) : ew_E S w nL k pc lv (a :: b :: f :: st) sg := by
  obtain ⟨p, l, e, R, s, m, args, below, meth, c, A, cs, sl, Q⟩ := k
  intro H locs ls hl hP hS
  exact lv_dup_x2 g.1 g.2.1 d (mv_cat _ a) (mv_cat _ b) (mv_cat _ f) (h H locs ls hl hP hS)
theorem ew_dup2 (g : ew_G S w nL k cc own Ts ret rm) {a b : MV} (d : decode cc pc = .ok (.dup2, 1)) (h : ew_E S w nL k (pc + 1) lv (a :: b :: a :: b :: st) sg) : ew_E S w nL k pc lv (a :: b :: st) sg := by
  obtain ⟨p, l, e, R, s, m, args, below, meth, c, A, cs, sl, Q⟩ := k
  intro H locs ls hl hP hS
  exact lv_dup2_11 g.1 g.2.1 d (mv_cat _ a) (mv_cat _ b) (h H locs ls hl hP hS)
theorem ew_if_eq (g : ew_G S w nL k cc own Ts ret rm) {x : Int32} {off : Int} {tgt : Nat} (d : decode cc pc = .ok (.ifCond .eq off, 3)) (ht : (pc : Int) + off = (tgt : Int)) (h1 : x = 0 → ew_E S w nL k tgt lv st sg) (h2 : ¬ x = 0 → ew_E S w nL k (pc + 3) lv st sg) : ew_E S w nL k pc lv (.inl x :: st) sg := by
  obtain ⟨p, l, e, R, s, m, args, below, meth, c, A, cs, sl, Q⟩ := k
  intro H locs ls hl hP hS
  exact lv_if_eq g.1 g.2.1 d ht (fun q => h1 q H locs ls hl hP hS) (fun q => h2 q H locs ls hl hP hS)
theorem ew_if_ne (g : ew_G S w nL k cc own Ts ret rm) {x : Int32} {off : Int} {tgt : Nat} (d : decode cc pc = .ok (.ifCond .ne off, 3)) (ht : (pc : Int) + off = (tgt : Int)) (h1 : x ≠ 0 → ew_E S w nL k tgt lv st sg) (h2 : x = 0 → ew_E S w nL k (pc + 3) lv st sg) : ew_E S w nL k pc lv (.inl x :: st) sg := by
  obtain ⟨p, l, e, R, s, m, args, below, meth, c, A, cs, sl, Q⟩ := k
  intro H locs ls hl hP hS
  exact lv_if_ne g.1 g.2.1 d ht (fun q => h1 q H locs ls hl hP hS) (fun q => h2 q H locs ls hl hP hS)
theorem ew_if_lt (g : ew_G S w nL k cc own Ts ret rm) {x : Int32} {off : Int} {tgt : Nat} (d : decode cc pc = .ok (.ifCond .lt off, 3)) (ht : (pc : Int) + off = (tgt : Int)) (h1 : x < 0 → ew_E S w nL k tgt lv st sg) (h2 : ¬ x < 0 → ew_E S w nL k (pc + 3) lv st sg) : ew_E S w nL k pc lv (.inl x :: st) sg := by
  obtain ⟨p, l, e, R, s, m, args, below, meth, c, A, cs, sl, Q⟩ := k
  intro H locs ls hl hP hS
  exact lv_if_lt g.1 g.2.1 d ht (fun q => h1 q H locs ls hl hP hS) (fun q => h2 q H locs ls hl hP hS)
theorem ew_if_ge (g : ew_G S w nL k cc own Ts ret rm) {x : Int32} {off : Int} {tgt : Nat} (d : decode cc pc = .ok (.ifCond .ge off, 3)) (ht : (pc : Int) + off = (tgt : Int)) (h1 : 0 ≤ x → ew_E S w nL k tgt lv st sg) (h2 : ¬ 0 ≤ x → ew_E S w nL k (pc + 3) lv st sg) : ew_E S w nL k pc lv (.inl x :: st) sg := by
  obtain ⟨p, l, e, R, s, m, args, below, meth, c, A, cs, sl, Q⟩ := k
  intro H locs ls hl hP hS
  exact lv_if_ge g.1 g.2.1 d ht (fun q => h1 q H locs ls hl hP hS) (fun q => h2 q H locs ls hl hP hS)
theorem ew_if_gt (g : ew_G S w nL k cc own Ts ret rm) {x : Int32} {off : Int} {tgt : Nat} (d : decode cc pc = .ok (.ifCond .gt off, 3)) (ht : (pc : Int) + off = (tgt : Int)) (h1 : 0 < x → ew_E S w nL k tgt lv st sg) (h2 : ¬ 0 < x → ew_E S w nL k (pc + 3) lv st sg) : ew_E S w nL k pc lv (.inl x :: st) sg := by
  obtain ⟨p, l, e, R, s, m, args, below, meth, c, A, cs, sl, Q⟩ := k
  intro H locs ls hl hP hS
  exact lv_if_gt g.1 g.2.1 d ht (fun q => h1 q H locs ls hl hP hS) (fun q => h2 q H locs ls hl hP hS)
theorem ew_if_le (g : ew_G S w nL k cc own Ts ret rm) {x : Int32} {off : Int} {tgt : Nat} (d : decode cc pc = .ok (.ifCond .le off, 3)) (ht : (pc : Int) + off = (tgt : Int)) (h1 : x ≤ 0 → ew_E S w nL k tgt lv st sg) (h2 : ¬ x ≤ 0 → ew_E S w nL k (pc + 3) lv st sg) : ew_E S w nL k pc lv (.inl x :: st) sg := by
  obtain ⟨p, l, e, R, s, m, args, below, meth, c, A, cs, sl, Q⟩ := k
  intro H locs ls hl hP hS
  exact lv_if_le g.1 g.2.1 d ht (fun q => h1 q H locs ls hl hP hS) (fun q => h2 q H locs ls hl hP hS)
theorem ew_icmp_eq (g : ew_G S w nL k cc own Ts ret rm) {x y : Int32} {off : Int} {tgt : Nat} (d : decode cc pc = .ok (.if_icmp .eq off, 3)) (ht : (pc : Int) + off = (tgt : Int)) (h1 : x = y → ew_E S w nL k tgt lv st sg) (h2 : ¬ x = y → ew_E S w nL k (pc + 3) lv st sg) : ew_E S w nL k pc lv (.inl y :: .inl x :: st) sg := by
  obtain ⟨p, l, e, R, s, m, args, below, meth, c, A, cs, sl, Q⟩ := k
  intro H locs ls hl hP hS
  exact lv_icmp_eq g.1 g.2.1 d ht (fun q => h1 q H locs ls hl hP hS) (fun q => h2 q H locs ls hl hP hS)
theorem ew_icmp_ne (g : ew_G S w nL k cc own Ts ret rm) {x y : Int32} {off : Int} {tgt : Nat} (d : decode cc pc = .ok (.if_icmp .ne off, 3)) (ht : (pc : Int) + off = (tgt : Int)) (h1 : x ≠ y → ew_E S w nL k tgt lv st sg) (h2 : x = y → ew_E S w nL k (pc + 3) lv st sg) : ew_E S w nL k pc lv (.inl y :: .inl x :: st) sg := by
  obtain ⟨p, l, e, R, s, m, args, below, meth, c, A, cs, sl, Q⟩ := k
  intro H locs ls hl hP hS
  exact lv_icmp_ne g.1 g.2.1 d ht (fun q => h1 q H locs ls hl hP hS) (fun q => h2 q H locs ls hl hP hS)
theorem ew_icmp_lt (g : ew_G S w nL k cc own Ts ret rm) {x y : Int32} {off : Int} {tgt : Nat} (d : decode cc pc = .ok (.if_icmp .lt off, 3)) (ht : (pc : Int) + off = (tgt : Int)) (h1 : x < y → ew_E S w nL k tgt lv st sg) (h2 : ¬ x < y → ew_E S w nL k (pc + 3) lv st sg) : ew_E S w nL k pc lv (.inl y :: .inl x :: st) sg := by
  obtain ⟨p, l, e, R, s, m, args, below, meth, c, A, cs, sl, Q⟩ := k
  intro H locs ls hl hP hS
  exact lv_icmp_lt g.1 g.2.1 d ht (fun q => h1 q H locs ls hl hP hS) (fun q => h2 q H locs ls hl hP hS)
theorem ew_icmp_ge (g : ew_G S w nL k cc own Ts ret rm) {x y : Int32} {off : Int} {tgt : Nat} (d : decode cc pc = .ok (.if_icmp .ge off, 3)) (ht : (pc : Int) + off = (tgt : Int)) (h1 : y ≤ x → ew_E S w nL k tgt lv st sg) (h2 : ¬ y ≤ x → ew_E S w nL k (pc + 3) lv st sg) : ew_E S w nL k pc lv (.inl y :: .inl x :: st) sg := by
  obtain ⟨p, l, e, R, s, m, args, below, meth, c, A, cs, sl, Q⟩ := k
  intro H locs ls hl hP hS
  exact lv_icmp_ge g.1 g.2.1 d ht (fun q => h1 q H locs ls hl hP hS) (fun q => h2 q H locs ls hl hP hS)
theorem ew_icmp_gt (g : ew_G S w nL k cc own Ts ret rm) {x y : Int32} {off : Int} {tgt : Nat} (d : decode cc pc = .ok (.if_icmp .gt off, 3)) (ht : (pc : Int) + off = (tgt : Int)) (h1 : y < x → ew_E S w nL k tgt lv st sg) (h2 : ¬ y < x → ew_E S w nL k (pc + 3) lv st sg) : ew_E S w nL k pc lv (.inl y :: .inl x :: st) sg := by
  obtain ⟨p, l, e, R, s, m, args, below, meth, c, A, cs, sl, Q⟩ := k
  intro H locs ls hl hP hS
  exact lv_icmp_gt g.1 g.2.1 d ht (fun q => h1 q H locs ls hl hP hS) (fun q => h2 q H locs ls hl hP hS)
theorem ew_icmp_le (g : ew_G S w nL k cc own Ts ret rm) {x y : Int32} {off : Int} {tgt : Nat} (d : decode cc pc = .ok (.if_icmp .le off, 3)) (ht : (pc : Int) + off = (tgt : Int)) (h1 : x ≤ y → ew_E S w nL k tgt lv st sg) (h2 : ¬ x ≤ y → ew_E S w nL k (pc + 3) lv st sg) : ew_E S w nL k pc lv (.inl y :: .inl x :: st) sg := by
  obtain ⟨p, l, e, R, s, m, args, below, meth, c, A, cs, sl, Q⟩ := k
  intro H locs ls hl hP hS
  exact lv_icmp_le g.1 g.2.1 d ht (fun q => h1 q H locs ls hl hP hS) (fun q => h2 q H locs ls hl hP hS)
theorem ew_goto (g : ew_G S w nL k cc own Ts ret rm) {off : Int} {tgt : Nat} (d : decode cc pc = .ok (.goto off, 3)) (ht : (pc : Int) + off = (tgt : Int)) (h : ew_E S w nL k tgt lv st sg) : ew_E S w nL k pc lv st sg := by
  obtain ⟨p, l, e, R, s, m, args, below, meth, c, A, cs, sl, Q⟩ := k
  intro H locs ls hl hP hS
  exact lv_goto g.1 g.2.1 d ht (h H locs ls hl hP hS)
theorem ew_lsw (g : ew_G S w nL k cc own Ts ret rm) {dflt : Int} {ps : Array (Int × Int)} {len : Nat} {x : Int32} {off : Int} {tgt : Nat} (d : decode cc pc = .ok (.lookupswitch dflt ps, len)) (hp : (ps.toList.zip (ps.toList.drop 1)).all (fun (a, next) => a.1 < next.1) = true) (ho : Op.lookupswitch.offset ps.toList dflt x.toInt = off) (ht : (pc : Int) + off = (tgt : Int)) (h : ew_E S w nL k tgt lv st sg) : ew_E S w nL k pc lv (.inl x :: st) sg := by
  obtain ⟨p, l, e, R, s, m, args, below, meth, c, A, cs, sl, Q⟩ := k
  intro H locs ls hl hP hS
  exact lv_lookup g.1 g.2.1 d hp ho ht (h H locs ls hl hP hS)
theorem ew_tswO (g : ew_G S w nL k cc own Ts ret rm) {dflt lo hi : Int} {offs : Array Int} {len : Nat} {x : Int32} {tgt : Nat} (d : decode cc pc = .ok (.tableswitch dflt lo hi offs, len)) (hr : x.toInt < lo ∨ hi < x.toInt) (ht : (pc : Int) + dflt = (tgt : Int)) (h : ew_E S w nL k tgt lv st sg) : ew_E S w nL k pc lv (.inl x :: st) sg := by
  obtain ⟨p, l, e, R, s, m, args, below, meth, c, A, cs, sl, Q⟩ := k
  intro H locs ls hl hP hS
  exact lv_tableOut g.1 g.2.1 d hr ht (h H locs ls hl hP hS)
theorem ew_tswI (g : ew_G S w nL k cc own Ts ret rm) {dflt lo hi : Int} {offs : Array Int} {len : Nat} {x : Int32} {off : Int} {tgt : Nat} (d : decode cc pc = .ok (.tableswitch dflt lo hi offs, len)) (h1 : ¬ x.toInt < lo) (h2 : ¬ hi < x.toInt) (ho : offs[(x.toInt - lo).toNat]? = some off) (ht : (pc : Int) + off = (tgt : Int)) (h : ew_E S w nL k tgt lv st sg) : ew_E S w nL k pc lv (.inl x :: st) sg := by
  obtain ⟨p, l, e, R, s, m, args, below, meth, c, A, cs, sl, Q⟩ := k
  intro H locs ls hl hP hS
  exact lv_tableIn g.1 g.2.1 d h1 h2 ho ht (h H locs ls hl hP hS)
/-- what an instruction that names a field needs: its class's place, the field's place, the words -/
def ew_F (S : SD) (own : String) (Ts : List Cond) (index ci kf : Nat) : Prop := ∃ (C : String) (T : u_T) (N : Nat) (ty0 : Nat → FieldType), S.1[ci]? = some (C, T, N) ∧ kf < N ∧ (∀ x ∈ u_ws C T N, x ∈ Ts) ∧ (Cond.fieldLink own index (T kf).1 (T kf).2.1 (T kf).2.2.1 ∈ Ts ∨ ∃ host, Cond.fieldLinkNest own index (T kf).1 (T kf).2.1 (T kf).2.2.1 host ∈ S.2.2.2.1) ∧ (∀ j, j < N → parseFieldDescriptor (T j).2.2.1 = some (ty0 j)) ∧ (∀ a, a < N → ∀ b, b < N → a ≠ b → (T a).2.1 ≠ (T b).2.1)
/-- and one that writes it: it isn't final, its type holds the number -/
def ew_FP (S : SD) (ci kf : Nat) (x : Int32) : Prop := ∀ (C : String) (T : u_T) (N : Nat), S.1[ci]? = some (C, T, N) → (T kf).2.2.2 = false ∧ ∃ ty, parseFieldDescriptor (T kf).2.2.1 = some ty ∧ narrow ty (.int x) = .int x ∧ fits ty (.int x) = true
theorem ew_getV (g : ew_G S w nL k cc own Ts ret rm) {index ci kf o : Nat} {fl : List (Option Nat)} {f : Option Nat} {v : MV} (d : decode cc pc = .ok (.getfield index, 3)) (hF : ew_F S own Ts index ci kf) (ho : o < S.2.2.1) (hL : S.2.1 o = .inr (ci, fl)) (hf : fl[kf]? = some f) (hv : ew_fv w.2.2.2 sg o kf f = mvV w.2.2.2 v) (h : ew_E S w nL k (pc + 3) lv (v :: st) sg) : ew_E S w nL k pc lv (.inr o :: st) sg := by
  obtain ⟨p, l, e, R, s, m, args, below, meth, c, A, cs, sl, Q⟩ := k
  obtain ⟨gx, gb, gm, go, gt, gK, gi, gn, gs, gr, gl, gR, gk, gA, gh, gc, gd⟩ := g
  obtain ⟨C, T, N, ty0, hc, hk, hin, hlk, -, -⟩ := hF
  intro H locs ls hl hP hS
  have he := ew_ws_at S w sg ho
  rw [ew_c_obj hL] at he
  have hg : (fl.mapIdx (ew_fv w.2.2.2 sg o))[kf]? = some (mvV w.2.2.2 v) := by rw [List.getElem?_mapIdx, hf, ← hv]; rfl
  rcases hlk with hlk | ⟨host, hlk⟩
  · exact va_get gx gb gt hin go gK hP o he hc kf hk (gt _ hlk) (fun _ q => q) hg d (h H locs ls hl hP hS)
  · exact va_getN gx gb gt hin go gK hP o he hc kf hk (va_Nw.use rfl (gn _ hlk)) (fun _ q => q) hg d (h H locs ls hl hP hS)
theorem ew_get (g : ew_G S w nL k cc own Ts ret rm) {index ci kf o : Nat} {fl : List (Option Nat)} (d : decode cc pc = .ok (.getfield index, 3)) (hF : ew_F S own Ts index ci kf) (ho : o < S.2.2.1) (hL : S.2.1 o = .inr (ci, fl)) (hf : fl[kf]? = some none) (h : ew_E S w nL k (pc + 3) lv (.inl (sg o kf) :: st) sg) : ew_E S w nL k pc lv (.inr o :: st) sg := ew_getV g d hF ho hL hf rfl h
theorem ew_getR (g : ew_G S w nL k cc own Ts ret rm) {index ci kf o q : Nat} {fl : List (Option Nat)} (d : decode cc pc = .ok (.getfield index, 3)) (hF : ew_F S own Ts index ci kf) (ho : o < S.2.2.1) (hL : S.2.1 o = .inr (ci, fl)) (hf : fl[kf]? = some (some q)) (h : ew_E S w nL k (pc + 3) lv (.inr q :: st) sg) : ew_E S w nL k pc lv (.inr o :: st) sg := ew_getV g d hF ho hL hf rfl h
theorem ew_mapIdx_set {ad : Nat → Nat} {sg : SG} {o kf : Nat} {x : Int32} {fl : List (Option Nat)} (hf : fl[kf]? = some none) : (fl.mapIdx (ew_fv ad sg o)).set kf (.int x) = fl.mapIdx (ew_fv ad (sup sg o kf x) o) := by
  refine List.ext_getElem? (fun j => ?_)
  rw [List.getElem?_set, List.getElem?_mapIdx, List.getElem?_mapIdx]
  by_cases e : kf = j
  · subst e
    rw [if_pos rfl, hf, if_pos (by rw [List.length_mapIdx]; exact (List.getElem?_eq_some_iff.mp hf).1)]
    simp [ew_fv, sup, upd]
  · rw [if_neg e]
    cases hj : fl[j]? with
    | none => rfl
    | some f => cases f <;> simp [ew_fv, sup, upd, Ne.symm e]
theorem ew_put (g : ew_G S w nL k cc own Ts ret rm) {index ci kf o : Nat} {x : Int32} {fl : List (Option Nat)} (d : decode cc pc = .ok (.putfield index, 3)) (hF : ew_F S own Ts index ci kf) (hp : ew_FP S ci kf x) (ho : o < S.2.2.1) (hL : S.2.1 o = .inr (ci, fl)) (hf : fl[kf]? = some none) (h : ew_E S w nL k (pc + 3) lv st (sup sg o kf x)) : ew_E S w nL k pc lv (.inl x :: .inr o :: st) sg := by
  obtain ⟨p, l, e, R, s, m, args, below, meth, c, A, cs, sl, Q⟩ := k
  obtain ⟨gx, gb, gm, go, gt, gK, gi, gn, gs, gr, gl, gR, gk, gA, gh, gc, gd⟩ := g
  obtain ⟨C, T, N, ty0, hc, hk, hin, hlk, hty, hnm⟩ := hF
  obtain ⟨hfin, ty, hd, hna, hfit⟩ := hp C T N hc
  intro H locs ls hl hP hS
  have he := ew_ws_at S w sg ho
  rw [ew_c_obj hL] at he
  have hD := ew_D gi gA sg
  have hlen : kf < (fl.mapIdx (ew_fv w.2.2.2 sg o)).length := by rw [List.length_mapIdx]; exact (List.getElem?_eq_some_iff.mp hf).1
  have hset : (ew_ws S w sg).set o (w.2.2.2 o, .inr (ci, (fl.mapIdx (ew_fv w.2.2.2 sg o)).set kf (.int x))) = ew_ws S w (sup sg o kf x) := by
    rw [ew_mapIdx_set hf, ← ew_c_obj (w := w) hL]
    exact ew_ws_set ho
  rcases hlk with hlk | ⟨host, hlk⟩
  · exact va_put gx gb gt hin ty0 hty hnm go gK hP hD hS o he hc kf hk (gt _ hlk) (fun _ q => q) hfin hd hna hfit hlen d (fun H1 locs1 h1 _ h3 => h H1 locs1 ls hl (by rw [← hset]; exact h1) h3)
  · exact va_putN gx gb gt hin ty0 hty hnm go gK hP hD hS o he hc kf hk (va_Nw.use rfl (gn _ hlk)) (fun _ q => q) hfin hd hna hfit hlen d (fun H1 locs1 h1 _ h3 => h H1 locs1 ls hl (by rw [← hset]; exact h1) h3)
theorem ew_iald (g : ew_G S w nL k cc own Ts ret rm) {o n : Nat} {i : Int32} (d : decode cc pc = .ok (.iaload, 1)) (ho : o < S.2.2.1) (hL : S.2.1 o = .inl (false, n)) (hi : vp_in i n) (h : ew_E S w nL k (pc + 1) lv (.inl (sg o i.toNatClampNeg) :: st) sg) : ew_E S w nL k pc lv (.inl i :: .inr o :: st) sg := by
  obtain ⟨p, l, e, R, s, m, args, below, meth, c, A, cs, sl, Q⟩ := k
  obtain ⟨gx, gb, gm, go, gt, gK, gi, gn, gs, gr, gl, gR, gk, gA, gh, gc, gd⟩ := g
  intro H locs ls hl hP hS
  have he := ew_ws_at S w sg ho
  rw [ew_c_arr hL] at he
  exact va_iald gx gb gK hP o 0 he rfl hi d (h H locs ls hl hP hS)
theorem ew_iast (g : ew_G S w nL k cc own Ts ret rm) {o n : Nat} {i x : Int32} (d : decode cc pc = .ok (.iastore, 1)) (ho : o < S.2.2.1) (hL : S.2.1 o = .inl (false, n)) (hi : vp_in i n) (h : ew_E S w nL k (pc + 1) lv st (sup sg o i.toNatClampNeg x)) : ew_E S w nL k pc lv (.inl x :: .inl i :: .inr o :: st) sg := by
  obtain ⟨p, l, e, R, s, m, args, below, meth, c, A, cs, sl, Q⟩ := k
  obtain ⟨gx, gb, gm, go, gt, gK, gi, gn, gs, gr, gl, gR, gk, gA, gh, gc, gd⟩ := g
  intro H locs ls hl hP hS
  have he := ew_ws_at S w sg ho
  rw [ew_c_arr hL] at he
  have hset : (ew_ws S w sg).set o (w.2.2.2 o, .inl (if (false : Bool) = true then w.2.2.1 else w.2.1, n, .inl (upd (sg o) i.toNatClampNeg x))) = ew_ws S w (sup sg o i.toNatClampNeg x) := by
    rw [← sup_s (sg := sg) (o := o), ← ew_c_arr (w := w) hL]
    exact ew_ws_set ho
  exact va_iast gx gb gK hP (ew_D gi gA sg) hS o 0 he rfl hi d (fun H1 locs1 h1 _ h3 => h H1 locs1 ls hl (by rw [← hset]; exact h1) h3)
theorem ew_zald (g : ew_G S w nL k cc own Ts ret rm) {o n : Nat} {i : Int32} (d : decode cc pc = .ok (.baload, 1)) (ho : o < S.2.2.1) (hL : S.2.1 o = .inl (true, n)) (hi : vp_in i n) (h : ew_E S w nL k (pc + 1) lv (.inl (sg o i.toNatClampNeg) :: st) sg) : ew_E S w nL k pc lv (.inl i :: .inr o :: st) sg := by
  obtain ⟨p, l, e, R, s, m, args, below, meth, c, A, cs, sl, Q⟩ := k
  obtain ⟨gx, gb, gm, go, gt, gK, gi, gn, gs, gr, gl, gR, gk, gA, gh, gc, gd⟩ := g
  intro H locs ls hl hP hS
  have he := ew_ws_at S w sg ho
  rw [ew_c_arr hL] at he
  exact va_zald gx gb gK hP o 1 he rfl hi d (h H locs ls hl hP hS)
theorem ew_zast (g : ew_G S w nL k cc own Ts ret rm) {o n : Nat} {i x : Int32} (d : decode cc pc = .ok (.bastore, 1)) (ho : o < S.2.2.1) (hL : S.2.1 o = .inl (true, n)) (hi : vp_in i n) (hx : vp_nar .boolean x = x) (h : ew_E S w nL k (pc + 1) lv st (sup sg o i.toNatClampNeg x)) : ew_E S w nL k pc lv (.inl x :: .inl i :: .inr o :: st) sg := by
  obtain ⟨p, l, e, R, s, m, args, below, meth, c, A, cs, sl, Q⟩ := k
  obtain ⟨gx, gb, gm, go, gt, gK, gi, gn, gs, gr, gl, gR, gk, gA, gh, gc, gd⟩ := g
  intro H locs ls hl hP hS
  have he := ew_ws_at S w sg ho
  rw [ew_c_arr hL] at he
  have hset : (ew_ws S w sg).set o (w.2.2.2 o, .inl (if (true : Bool) = true then w.2.2.1 else w.2.1, n, .inl (upd (sg o) i.toNatClampNeg x))) = ew_ws S w (sup sg o i.toNatClampNeg x) := by
    rw [← sup_s (sg := sg) (o := o), ← ew_c_arr (w := w) hL]
    exact ew_ws_set ho
  exact va_zast gx gb gK hP (ew_D gi gA sg) hS o 1 he rfl hi d (fun H1 locs1 h1 _ h3 => h H1 locs1 ls hl (by rw [← hset]; rw [hx] at h1; exact h1) h3)
theorem ew_alen (g : ew_G S w nL k cc own Ts ret rm) {o n : Nat} {z : Bool} {v : Int32} (d : decode cc pc = .ok (.arraylength, 1)) (ho : o < S.2.2.1) (hL : S.2.1 o = .inl (z, n)) (hv : Int32.ofNat n = v) (h : ew_E S w nL k (pc + 1) lv (.inl v :: st) sg) : ew_E S w nL k pc lv (.inr o :: st) sg := by
  obtain ⟨p, l, e, R, s, m, args, below, meth, c, A, cs, sl, Q⟩ := k
  obtain ⟨gx, gb, gm, go, gt, gK, gi, gn, gs, gr, gl, gR, gk, gA, gh, gc, gd⟩ := g
  intro H locs ls hl hP hS
  have he := ew_ws_at S w sg ho
  rw [ew_c_arr hL] at he
  cases z with
  | false => exact va_alen gx gb gK hP o 0 he rfl hv d (h H locs ls hl hP hS)
  | true => exact va_alen gx gb gK hP o 1 he rfl hv d (h H locs ls hl hP hS)
/-- a static table: its number is 1000 and its place -/
theorem ew_gets (g : ew_G S w nL k cc own Ts ret rm) {index j : Nat} {C n dd : String} {N : Nat} {f : Nat → Int32} (d : decode cc pc = .ok (.getstatic index, 3)) (hj : S.2.2.2.2[j]? = some (C, n, dd, N, f)) (hlk : Cond.fieldLink own index C n dd ∈ Ts ∨ ∃ host, Cond.fieldLinkNest own index C n dd host ∈ S.2.2.2.1) (h : ew_E S w nL k (pc + 3) lv (.inr (1000 + j) :: st) sg) : ew_E S w nL k pc lv st sg := by
  obtain ⟨p, l, e, R, s, m, args, below, meth, c, A, cs, sl, Q⟩ := k
  obtain ⟨gx, gb, gm, go, gt, gK, gi, gn, gs, gr, gl, gR, gk, gA, gh, gc, gd⟩ := g
  intro H locs ls hl hP hS
  obtain ⟨hZ, -⟩ := gs j _ hj
  rcases hlk with hlk | ⟨host, hlk⟩
  · exact va_gets gx gb hZ hS go (gt _ hlk) (fun _ q => q) d (h H locs ls hl hP hS)
  · exact va_getsN gx gb hZ hS go (va_Nw.use rfl (gn _ hlk)) (fun _ q => q) d (h H locs ls hl hP hS)
theorem ew_tald (g : ew_G S w nL k cc own Ts ret rm) {j : Nat} {C n dd : String} {N : Nat} {f : Nat → Int32} {i : Int32} (d : decode cc pc = .ok (.iaload, 1)) (hj : S.2.2.2.2[j]? = some (C, n, dd, N, f)) (hi : vp_in i N) (h : ew_E S w nL k (pc + 1) lv (.inl (f i.toNatClampNeg) :: st) sg) : ew_E S w nL k pc lv (.inl i :: .inr (1000 + j) :: st) sg := by
  obtain ⟨p, l, e, R, s, m, args, below, meth, c, A, cs, sl, Q⟩ := k
  obtain ⟨gx, gb, gm, go, gt, gK, gi, gn, gs, gr, gl, gR, gk, gA, gh, gc, gd⟩ := g
  intro H locs ls hl hP hS
  obtain ⟨-, hT⟩ := gs j _ hj
  exact va_ti gx gb hT hS hi rfl d (h H locs ls hl hP hS)
theorem ew_iret (g : ew_G S w nL k cc own Ts (some .int) rm) {v : Int32} (d : decode cc pc = .ok (.ireturn, 1)) (hp : ew_P S w k post) (h : post (some (.inl v)) sg) : ew_E S w nL k pc lv [.inl v] sg := by
  obtain ⟨p, l, e, R, s, m, args, below, meth, c, A, cs, sl, Q⟩ := k
  obtain ⟨gx, gb, gm, go, gt, gK, gi, gn, gs, gr, gl, gR, gk, gA, gh, gc, gd⟩ := g
  obtain ⟨hp1, hp2, hp3, hp4⟩ := hp
  subst hp1; subst hp2; subst hp3; subst hp4
  intro H locs ls hl hP hS
  exact W.iret gx gb gr (fun t ht hW => ⟨⟨some (.inl v), sg, rfl, h, ew_W_of gk gA gh hP gK gi gn gs hS ht hW⟩, hS.F ht⟩) hS.2.2 d gl
theorem ew_zret (g : ew_G S w nL k cc own Ts (some .boolean) rm) {v : Int32} (d : decode cc pc = .ok (.ireturn, 1)) (hp : ew_P S w k post) (hv : narrow .boolean (.int v) = .int v) (h : post (some (.inl v)) sg) : ew_E S w nL k pc lv [.inl v] sg := by
  obtain ⟨p, l, e, R, s, m, args, below, meth, c, A, cs, sl, Q⟩ := k
  obtain ⟨gx, gb, gm, go, gt, gK, gi, gn, gs, gr, gl, gR, gk, gA, gh, gc, gd⟩ := g
  obtain ⟨hp1, hp2, hp3, hp4⟩ := hp
  subst hp1; subst hp2; subst hp3; subst hp4
  intro H locs ls hl hP hS
  exact W.zret gx gb gr hv (fun t ht hW => ⟨⟨some (.inl v), sg, rfl, h, ew_W_of gk gA gh hP gK gi gn gs hS ht hW⟩, hS.F ht⟩) hS.2.2 d gl
theorem ew_vret (g : ew_G S w nL k cc own Ts none rm) (d : decode cc pc = .ok (.return_, 1)) (hp : ew_P S w k post) (h : post none sg) : ew_E S w nL k pc lv [] sg := by
  obtain ⟨p, l, e, R, s, m, args, below, meth, c, A, cs, sl, Q⟩ := k
  obtain ⟨gx, gb, gm, go, gt, gK, gi, gn, gs, gr, gl, gR, gk, gA, gh, gc, gd⟩ := g
  obtain ⟨hp1, hp2, hp3, hp4⟩ := hp
  subst hp1; subst hp2; subst hp3; subst hp4
  intro H locs ls hl hP hS
  exact W.vret gx gb gr (fun t ht hW => ⟨⟨none, sg, rfl, h, ew_W_of gk gA gh hP gK gi gn gs hS ht hW⟩, hS.F ht⟩) hS.2.2 d gl
theorem ew_aret {nm : String} (g : ew_G S w nL k cc own Ts (some (.object nm)) rm) {o : Nat} (d : decode cc pc = .ok (.areturn, 1)) (hp : ew_P S w k post) (h : post (some (.inr o)) sg) : ew_E S w nL k pc lv [.inr o] sg := by
  obtain ⟨p, l, e, R, s, m, args, below, meth, c, A, cs, sl, Q⟩ := k
  obtain ⟨gx, gb, gm, go, gt, gK, gi, gn, gs, gr, gl, gR, gk, gA, gh, gc, gd⟩ := g
  obtain ⟨hp1, hp2, hp3, hp4⟩ := hp
  subst hp1; subst hp2; subst hp3; subst hp4
  intro H locs ls hl hP hS
  exact W.aret gx gb gr (Or.inl ⟨nm, rfl⟩) (Or.inr ⟨_, rfl⟩) (fun t ht hW => ⟨⟨some (.inr o), sg, rfl, h, ew_W_of gk gA gh hP gK gi gn gs hS ht hW⟩, hS.F ht⟩) hS.2.2 d gl
end EW
/-- entry: the locals are the arguments, the rest unset -/
theorem ew_entry {S : SD} {w : WC} {l : Launch} {y : MethodName} {cc : ByteArray} {own : String} {ws ws' : List Cond} {ret : Option FieldType} {rm : Room} {nL : Nat} {args : List MV} {sg : SG} {post : Option MV → SG → Prop} (hk : ew_nk S) (hy : plainName y.cls = true) (hc : y.cls = own) (hw : ws = Cond.code y cc nL ret :: ws') (hn : args.length ≤ nL) (h : ∀ k : KX, ew_G S w nL k cc own ws' ret rm → ew_P S w k post → ew_E S w nL k 0 (args.map some ++ List.replicate (nL - args.length) none) [] sg) : ew_M S w l y ws rm args sg post := by
  intro sz
  refine Met.ofW (cc := cc) (maxL := nL) (ret := ret) hy hw ?_
  intro p e s m av below meth c s₁ B hml hv
  obtain ⟨rfl, hsz, hP, hK, hi, hnw, hst⟩ := hv
  subst hsz
  have hx := B.exec
  have hb := B.bytes
  have hr := B.returns
  have hts := atoms_spec (ws := ws) B.pre
  have hown : s.vm.findClass own = some m.cls := by rw [← hc]; exact findClass_of_methodNamed B.named
  have hlk := B.notSynchronized
  have hsl : ∀ vs : List MV, lg_sl (vs.map (mvV w.2.2.2)) = vs.map (fun v => Slot.val (mvV w.2.2.2 v)) := by
    intro vs
    induction vs with
    | nil => rfl
    | cons a vs ih => 
      show (if (mvV w.2.2.2 a).category = 2 then _ else _) ++ lg_sl (vs.map (mvV w.2.2.2)) = _
      rw [ih, mv_cat]
      rfl
  have hlen : (lg_sl (args.map (mvV w.2.2.2))).length ≤ nL := by rw [hsl, List.length_map]; exact hn
  have hl := lv_entry (args.map (mvV w.2.2.2)) (n := nL) hlen
  rw [lg_entry_eq]
  have hL : ew_L w.2.2.2 ((lg_sl (args.map (mvV w.2.2.2)) ++ List.replicate (nL - (lg_sl (args.map (mvV w.2.2.2))).length) Slot.unset).toArray) nL (args.map some ++ List.replicate (nL - args.length) none) := by
    refine ⟨hl.1, by simp; omega, hl.2.1, fun i v hv => ?_⟩
    rw [hsl, List.getElem?_toArray]
    by_cases hi : i < args.length
    · rw [List.getElem?_append_left (by rw [List.length_map]; exact hi), List.getElem?_map] at hv
      rw [List.getElem?_append_left (by rw [List.length_map]; exact hi), List.getElem?_map]
      cases ha : args[i]? with
      | none => rw [ha] at hv; cases hv
      | some a => 
        rw [ha] at hv
        cases hv
        rfl
    · rw [List.getElem?_append_right (by rw [List.length_map]; omega)] at hv
      have := List.mem_of_getElem? hv
      rw [List.mem_replicate] at this
      cases this.2
  exact h (p, l, e, rm, s, m, _, below, meth, c, ew_A S w s.heap.size, 0, 0, _) ⟨hx, hb, hml, hown, fun x hx => hts x (by rw [hw]; exact List.mem_cons_of_mem _ hx), hK, hi, hnw, hst, hr, hlk, rfl, hk, fun o ho => Or.inl ⟨o, ho, rfl⟩, fun q hq => Or.inr hq, Nat.zero_le _, Nat.zero_le _⟩ ⟨rfl, rfl, rfl, rfl⟩ s.heap [] _ hL hP va_S.rf
end
section
theorem ew_after {S : SD} {w : WC} {p : Program} {l : Launch} {e : Env} {R : Room} {s : State} {m : MethodId} {args : Array Value} {below : List Frame} {meth : Method} {c : Code} {H : Heap} {locs : List Loc} {cs sl : Nat} {A : Nat → Prop} {Q : State → Prop} {pc : Nat} {ls : Array Slot} {rest st0 : List Value} {a : Array Value} {postC : Option MV → SG → Prop} (hr : va_Run p l e R s m args below meth c H locs cs sl 0 0 (F0 m pc ls st0) rest (ew_Q S w postC H.size a) (ew_A S w H.size)) (hS : va_S A s.heap H locs) (hmo : ∀ q, ew_A S w H.size q → A q) (kk : ∀ (v : Option MV) (sg : SG) (H1 : Heap) (locs1 : List Loc), postC v sg → va_P w.1 S.1 (ew_ws S w sg) H1 → va_S A s.heap H1 locs1 → W p l e R s m args below meth c H1 locs1 cs sl Q (F0 m (pc + 3) ls ((v.map (mvV w.2.2.2)).toList ++ rest))) : W p l e R s m args below meth c H locs cs sl Q (F0 m pc ls st0) := by
  intro T hT X
  obtain ⟨v, st₀, t, T', L, h0, X', hL, e1, e2, ⟨⟨v', sg, hv, hp, hw⟩, hz, hk⟩, st⟩ := hr T hT X
  have hv : v = v'.map (mvV w.2.2.2) := by injection hv
  subst hv
  rw [h0] at hz hk
  obtain ⟨t2, a1, b1⟩ := kk v' sg T'.heap (locs ++ L) hp (by rw [e1]; exact hw.1) ⟨Nat.le_trans hS.1 (by rw [e1]; exact hz), fun q h1 h2 => by rw [e1, hk q (Nat.lt_of_lt_of_le h1 hS.1) (fun z => h2 (hmo q z))]; exact hS.2.1 q h1 h2, fun q hq => by
      rcases List.mem_append.mp hq with h | h
      · exact hS.2.2 q h
      · exact hmo _ (hL q h)⟩ T' rfl X'
  exact ⟨t2, st t2 a1, b1⟩
/-- what a call needs of the tables -/
def ew_CB (S : SD) (own : String) (Ts : List Cond) (index : Nat) (y : MethodName) (bytes : ByteArray) (maxL : Nat) (retC : Option FieldType) (ws : List Cond) (n : Nat) : Prop := (∃ ws', ws = Cond.code y bytes maxL retC :: ws') ∧ GoodIn Ts ws ∧ Cond.initialized y.cls ∈ Ts ∧ (Cond.methodLink own index y ∈ Ts ∨ ∃ host, Cond.methodLinkNest own index y host ∈ S.2.2.2.1) ∧ y.cls ≠ "java/lang/invoke/MethodHandle" ∧ y.cls ≠ "java/lang/invoke/VarHandle" ∧ (parseMethodDescriptor y.desc).map (fun d => d.parameters.length) = some n
def ew_CV (S : SD) (own : String) (Ts : List Cond) (index : Nat) (y : MethodName) (bytes : ByteArray) (maxL : Nat) (retC : Option FieldType) (ws : List Cond) (n : Nat) : Prop := ew_CB S own Ts index y bytes maxL retC ws n ∧ Cond.instanceMethod y ∈ Ts ∧ Cond.selects y.cls y y ∈ Ts
def ew_CS (S : SD) (own : String) (Ts : List Cond) (index : Nat) (y : MethodName) (bytes : ByteArray) (maxL : Nat) (retC : Option FieldType) (ws : List Cond) (n : Nat) : Prop := ew_CB S own Ts index y bytes maxL retC ws n ∧ Cond.static y ∈ Ts
def ew_R (rmC rm : Room) (maxL : Nat) : Prop := rmC.cells = 0 ∧ rmC.slots = 0 ∧ rmC.frames + 1 ≤ rm.frames ∧ 8 + (maxL + 11) + rmC.locals ≤ rm.locals
section EWC
variable {S : SD} {w : WC} {nL : Nat} {k : KX} {cc : ByteArray} {own : String} {Ts : List Cond} {ret : Option FieldType} {rm : Room} {post : Option MV → SG → Prop} {pc : Nat} {lv : List (Option MV)} {st stk : List MV} {sg : SG}
theorem ew_callV (g : ew_G S w nL k cc own Ts ret rm) {index maxL n o ci : Nat} {y : MethodName} {bytes : ByteArray} {retC : Option FieldType} {ws : List Cond} {rmC : Room} {As : List MV} {fl : List (Option Nat)} {postC : Option MV → SG → Prop} (d : decode cc pc = .ok (.invokevirtual index, 3)) (hM : ew_M S w k.2.1 y ws rmC (.inr o :: As) sg postC) (hC : ew_CV S own Ts index y bytes maxL retC ws n) (ho : o < S.2.2.1) (hL : S.2.1 o = .inr (ci, fl)) (hcl : ∃ T N, S.1[ci]? = some (y.cls, T, N)) (hn : As.length = n) (hs : stk = As.reverse ++ .inr o :: st) (hq : st.length ≤ 8) (hR : ew_R rmC rm maxL) (h : ∀ (v : Option MV) (sg' : SG), postC v sg' → ew_E S w nL k (pc + 3) lv (v.toList ++ st) sg') : ew_E S w nL k pc lv stk sg := by
  obtain ⟨p, l, e, R, s, m, args, below, meth, c, A, cs, sl, Q⟩ := k
  obtain ⟨gx, gb, gm, go, gt, gK, gi, gn, gs, gr, gl, gR, gk, gA, gh, gc, gd⟩ := g
  intro H locs ls hl hP hS
  subst hs
  subst gR
  obtain ⟨⟨⟨ws', hw⟩, hG, hini, hlk, hy1, hy2, hpar⟩, hinst, hsel⟩ := hC
  obtain ⟨T0, N0, hcl⟩ := hcl
  obtain ⟨r1, r2, r3, r4⟩ := hR
  have he := ew_ws_at S w sg ho
  rw [ew_c_obj hL] at he
  have hrecv := va_recv gK hP hcl he
  have hM := hM H.size
  have hpre : PreV s H y.cls (w.2.2.2 o) (va_Pc ((.inr o :: As).map (mvV w.2.2.2)) (fun U => U.heap.size = H.size ∧ ew_W S w sg U)) (As.map (mvV w.2.2.2)) := ⟨fun a U g mk q => ⟨q.1, q.2.1, ew_blind gk g mk a q.2.2⟩, hrecv, fun U hU hW => ⟨rfl, by rw [hU], ew_W_of gk gA gh hP gK gi gn gs hS hU hW⟩⟩
  refine W.eq (g2 := F0 m pc ls ((As.map (mvV w.2.2.2)).reverse ++ .ref (w.2.2.2 o) :: st.map (mvV w.2.2.2))) (by simp [mvV]) ?_
  have hfin : ∀ (v : Option MV) (sg' : SG) (H1 : Heap) (locs1 : List Loc), postC v sg' → va_P w.1 S.1 (ew_ws S w sg') H1 → va_S A s.heap H1 locs1 → W p l e R s m args below meth c H1 locs1 cs sl Q (F0 m (pc + 3) ls ((v.map (mvV w.2.2.2)).toList ++ st.map (mvV w.2.2.2))) := by
    intro v sg' H1 locs1 hp hP1 hS1
    have h9 := h v sg' hp H1 locs1 ls hl hP1 hS1
    cases v with
    | none => exact h9
    | some v => exact h9
  rcases hlk with hlk | ⟨host, hlk⟩
  · exact ew_after (va_runV ⟨gx, gb, gm, go, gt⟩ hM ⟨callB_of n gt hG hw r1 r2 (gt _ hini) (gt _ hlk) ⟨hy1, hy2, hpar⟩ ⟨r3, r4⟩, gt _ hinst, gt _ hsel⟩ hpre rfl (by rw [List.length_map]; exact hn) hl.1 rfl (lv_room (by rw [mv_sum]; exact hq)) d ⟨gc, gd⟩) hS (ew_A_in gA gh hS.1) hfin
  · exact ew_after (va_runVN ⟨gx, gb, gm, go, gt⟩ hM ⟨va_cnB n gt hG hw r1 r2 (gn _ hlk) (gt _ hini) ⟨hy1, hy2, hpar⟩ ⟨r3, r4⟩, gt _ hinst, gt _ hsel⟩ hpre rfl (by rw [List.length_map]; exact hn) hl.1 rfl (lv_room (by rw [mv_sum]; exact hq)) d ⟨gc, gd⟩) hS (ew_A_in gA gh hS.1) hfin
theorem ew_callS (g : ew_G S w nL k cc own Ts ret rm) {index maxL n : Nat} {y : MethodName} {bytes : ByteArray} {retC : Option FieldType} {ws : List Cond} {rmC : Room} {As : List MV} {postC : Option MV → SG → Prop} (d : decode cc pc = .ok (.invokestatic index, 3)) (hM : ew_M S w k.2.1 y ws rmC As sg postC) (hC : ew_CS S own Ts index y bytes maxL retC ws n) (hn : As.length = n) (hs : stk = As.reverse ++ st) (hq : st.length ≤ 8) (hR : ew_R rmC rm maxL) (h : ∀ (v : Option MV) (sg' : SG), postC v sg' → ew_E S w nL k (pc + 3) lv (v.toList ++ st) sg') : ew_E S w nL k pc lv stk sg := by
  obtain ⟨p, l, e, R, s, m, args, below, meth, c, A, cs, sl, Q⟩ := k
  obtain ⟨gx, gb, gm, go, gt, gK, gi, gn, gs, gr, gl, gR, gk, gA, gh, gc, gd⟩ := g
  intro H locs ls hl hP hS
  subst hs
  subst gR
  obtain ⟨⟨⟨ws', hw⟩, hG, hini, hlk, hy1, hy2, hpar⟩, hstt⟩ := hC
  obtain ⟨r1, r2, r3, r4⟩ := hR
  have hM := hM H.size
  have hpre : PreS s H (va_Pc (As.map (mvV w.2.2.2)) (fun U => U.heap.size = H.size ∧ ew_W S w sg U)) (As.map (mvV w.2.2.2)) := ⟨fun a U g mk q => ⟨q.1, q.2.1, ew_blind gk g mk a q.2.2⟩, fun U hU hW => ⟨rfl, by rw [hU], ew_W_of gk gA gh hP gK gi gn gs hS hU hW⟩⟩
  refine W.eq (g2 := F0 m pc ls ((As.map (mvV w.2.2.2)).reverse ++ st.map (mvV w.2.2.2))) (by simp [mvV]) ?_
  have hfin : ∀ (v : Option MV) (sg' : SG) (H1 : Heap) (locs1 : List Loc), postC v sg' → va_P w.1 S.1 (ew_ws S w sg') H1 → va_S A s.heap H1 locs1 → W p l e R s m args below meth c H1 locs1 cs sl Q (F0 m (pc + 3) ls ((v.map (mvV w.2.2.2)).toList ++ st.map (mvV w.2.2.2))) := by
    intro v sg' H1 locs1 hp hP1 hS1
    have h9 := h v sg' hp H1 locs1 ls hl hP1 hS1
    cases v with
    | none => exact h9
    | some v => exact h9
  rcases hlk with hlk | ⟨host, hlk⟩
  · exact ew_after (va_runS ⟨gx, gb, gm, go, gt⟩ hM ⟨callB_of n gt hG hw r1 r2 (gt _ hini) (gt _ hlk) ⟨hy1, hy2, hpar⟩ ⟨r3, r4⟩, gt _ hstt⟩ hpre rfl (by rw [List.length_map]; exact hn) hl.1 rfl (lv_room (by rw [mv_sum]; exact hq)) d ⟨gc, gd⟩) hS (ew_A_in gA gh hS.1) hfin
  · exact ew_after (va_runSN ⟨gx, gb, gm, go, gt⟩ hM ⟨va_cnB n gt hG hw r1 r2 (gn _ hlk) (gt _ hini) ⟨hy1, hy2, hpar⟩ ⟨r3, r4⟩, gt _ hstt, trivial⟩ hpre rfl (by rw [List.length_map]; exact hn) hl.1 rfl (lv_room (by rw [mv_sum]; exact hq)) d ⟨gc, gd⟩) hS (ew_A_in gA gh hS.1) hfin
end EWC
end
section
/-! The contract machine as numbers: code (size, operators, arguments); a state (at, depth, gas, stack, cells, sent, found, how, way). -/
abbrev CDE : Type := Nat × (Nat → Nat) × (Nat → Nat)
abbrev PM : Type := Nat × Nat × Nat × (Nat → Nat) × (Nat → Nat) × Bool × (Nat → Nat → Bool) × Nat × List Nat
def pAt (s : PM) : Nat := s.1
def pDe (s : PM) : Nat := s.2.1
def pGa (s : PM) : Nat := s.2.2.1
def pSt (s : PM) : Nat → Nat := s.2.2.2.1
def pCe (s : PM) : Nat → Nat := s.2.2.2.2.1
def pSe (s : PM) : Bool := s.2.2.2.2.2.1
def pFo (s : PM) : Nat → Nat → Bool := s.2.2.2.2.2.2.1
def pHo (s : PM) : Nat := s.2.2.2.2.2.2.2.1
def pWa (s : PM) : List Nat := s.2.2.2.2.2.2.2.2
def nup (f : Nat → Nat) (k x : Nat) : Nat → Nat := fun j => if j = k then x else f j
def fup (f : Nat → Nat → Bool) (a b : Nat) : Nat → Nat → Bool := fun i j => if i = a ∧ j = b then true else f i j
def oCost (o : Nat) : Nat := if o = 19 then 5 else if o = 8 ∨ o = 15 then 3 else 1
def oTake (o : Nat) : Nat := if (6 ≤ o ∧ o ≤ 12) ∨ o = 15 ∨ o = 18 then 2 else if o = 5 ∨ o = 13 ∨ o = 14 ∨ o = 17 ∨ o = 19 ∨ o = 21 then 1 else 0
def oPuts (o : Nat) : Nat := if o ≤ 3 ∨ (6 ≤ o ∧ o ≤ 14) ∨ o = 19 ∨ o = 20 then 1 else 0
/-- the first MARK with an argument, the size if there is none -/
def mkAt (cd : CDE) (a : Nat) : Option Nat := (List.range cd.1).find? (fun k => decide (cd.2.1 k = 16 ∧ cd.2.2 k = a))
def pUn (s : PM) (i : Nat) : Nat := if i < pDe s then pSt s (pDe s - 1 - i) else 0
/-- the kind of the fault: 4 another, 0 a failed assert -/
def pFault (cd : CDE) (s : PM) (o a : Nat) : Option Nat :=
  if pGa s < oCost o ∨ pDe s < oTake o ∨ 6 < pDe s - oTake o + oPuts o then some 4
  else if o = 3 then (if a < pDe s then none else some 4)
  else if o = 4 then (if a + 1 < pDe s then none else some 4)
  else if o = 17 then (if (mkAt cd (pUn s 0)).isSome then none else some 4)
  else if o = 18 then (if pUn s 1 = 0 ∨ (mkAt cd (pUn s 0)).isSome then none else some 4)
  else if o = 21 then (if pUn s 0 ≠ 0 then none else some 0)
  else none
def pOver (o y x : Nat) : Bool := decide ((o = 6 ∧ 16 ≤ y + x) ∨ (o = 8 ∧ 16 ≤ y * x) ∨ (o = 7 ∧ y < x))
/-- what is found where nothing faults -/
def pLook (cal : Nat) (s : PM) (o y x : Nat) : Nat → Nat → Bool :=
  if pOver o y x = true then fup (pFo s) 1 (pAt s) else if o = 24 ∧ cal ≠ 0 then fup (pFo s) 2 (pAt s) else if o = 15 ∧ pSe s = true then fup (pFo s) 3 (pAt s) else pFo s
/-- the word that an operator puts -/
def pPut (inp cal : Nat) (s : PM) (o a y x : Nat) : Nat :=
  if o = 0 then a else if o = 1 then inp else if o = 2 then cal else if o = 3 then pUn s a
  else if o = 6 then (y + x) % 16 else if o = 7 then (y + 16 - x) % 16 else if o = 8 then (y * x) % 16
  else if o = 9 then y &&& x else if o = 10 then y ^^^ x else if o = 11 then (if y < x then 1 else 0)
  else if o = 12 then (if y = x then 1 else 0) else if o = 13 then (if x = 0 then 1 else 0)
  else if o = 14 then pCe s (x % 4) else if o = 19 then (if x ≤ pCe s 4 then 1 else 0)
  else if o = 20 then pCe s 4 else 0
/-- behind what is looked at: gas paid, words taken, one further -/
def pS1 (cal : Nat) (s : PM) (o y x : Nat) : PM := (pAt s + 1, pDe s - oTake o, pGa s - oCost o, pSt s, pCe s, pSe s, pLook cal s o y x, pHo s, pWa s)
def pSnd (s : PM) (o x : Nat) : PM := if o = 19 ∧ x ≤ pCe s 4 then (pAt s, pDe s, pGa s, pSt s, nup (pCe s) 4 (pCe s 4 - x), true, pFo s, pHo s, pWa s) else s
def pPush (s : PM) (v : Nat) : PM := (pAt s, pDe s + 1, pGa s, nup (pSt s) (pDe s) v, pCe s, pSe s, pFo s, pHo s, pWa s)
def pJmp (s : PM) (i : Nat) : PM := (i, pDe s, pGa s, pSt s, pCe s, pSe s, pFo s, pHo s, pWa s)
def pEnd (s : PM) (h : Nat) : PM := (pAt s, pDe s, pGa s, pSt s, pCe s, pSe s, pFo s, h, pWa s)
def pNote (s : PM) (f : Nat → Nat → Bool) : PM := (pAt s, pDe s, pGa s, pSt s, pCe s, pSe s, f, pHo s, pWa s)
def pCel (s : PM) (c : Nat → Nat) : PM := (pAt s, pDe s, pGa s, pSt s, c, pSe s, pFo s, pHo s, pWa s)
def pSwp (s : PM) (i j : Nat) : PM := (pAt s, pDe s, pGa s, nup (nup (pSt s) i (pSt s j)) j (pSt s i), pCe s, pSe s, pFo s, pHo s, pWa s)
def pWay (s : PM) (l : List Nat) : PM := (pAt s, pDe s, pGa s, pSt s, pCe s, pSe s, pFo s, pHo s, l)
def pAct (cd : CDE) (s : PM) (o a y x : Nat) : PM :=
  if o = 4 then pSwp s (pDe s - 1) (pDe s - 2 - a)
  else if o = 15 then pCel s (nup (pCe s) (x % 4) y)
  else if o = 17 then pJmp s ((mkAt cd x).getD 0)
  else if o = 18 then (if y ≠ 0 then pJmp s ((mkAt cd x).getD 0) else s)
  else if o = 22 then pEnd s 0
  else if o = 23 then pEnd s 1
  else if o = 24 then pEnd s 3
  else s
def pDo (cd : CDE) (inp cal : Nat) (s : PM) (o a y x : Nat) : PM :=
  if oPuts o = 1 then pPush (pSnd (pS1 cal s o y x) o x) (pPut inp cal (pS1 cal s o y x) o a y x) else pAct cd (pS1 cal s o y x) o a y x
def pPer (cd : CDE) (inp cal : Nat) (s : PM) (o a : Nat) : PM :=
  match pFault cd s o a with
  | some f => pEnd (pNote s (fup (pFo s) f (pAt s))) 2
  | none => pDo cd inp cal s o a (pUn s 1) (pUn s 0)
/-- one instruction -/
def pStep (cd : CDE) (inp cal : Nat) (s : PM) : PM := pPer cd inp cal (pWay s (pWa s ++ [pAt s])) (cd.2.1 (pAt s)) (cd.2.2 (pAt s))
/-- so many rounds; 5 goes on, behind the last instruction 0 -/
def pRun (cd : CDE) (inp cal : Nat) : Nat → PM → PM
  | 0, s => s
  | n + 1, s => if pHo s ≠ 5 then s else if cd.1 ≤ pAt s then pEnd s 0 else pRun cd inp cal n (pStep cd inp cal s)
def pBeg (lim : Nat) (cel : Nat → Nat) (how : Nat) : PM := (0, 0, lim, fun _ => 0, cel, false, fun _ _ => false, how, [])
/-- a whole transaction: the state's words where it reverts or faults are those before -/
def pTx (cd : CDE) (lim : Nat) (num : Nat) (cel : Nat → Nat) (dead : Bool) : PM :=
  let s := pRun cd (num / 4) (num % 4) 41 (pBeg (if dead = true then 0 else lim) cel (if dead = true then 4 else 5))
  if pHo s = 1 ∨ pHo s = 2 then pCel s cel else s
end
section
/-! ===== Int32 by its bits: bt x i ===== -/
def bt (x : Int32) (i : Nat) : Bool := x.toBitVec.getLsbD i
theorem b_ext {x y : Int32} (h : ∀ i, i < 32 → bt x i = bt y i) : x = y := Int32.toBitVec_inj.mp (BitVec.eq_of_getLsbD_eq (fun i hi => h i hi))
theorem b_or (x y : Int32) (i : Nat) : bt (x ||| y) i = (bt x i || bt y i) := by unfold bt; rw [Int32.toBitVec_or, BitVec.getLsbD_or]
theorem b_and (x y : Int32) (i : Nat) : bt (x &&& y) i = (bt x i && bt y i) := by unfold bt; rw [Int32.toBitVec_and, BitVec.getLsbD_and]
theorem b_xor (x y : Int32) (i : Nat) : bt (x ^^^ y) i = (bt x i ^^ bt y i) := by unfold bt; rw [Int32.toBitVec_xor, BitVec.getLsbD_xor]
theorem b_big {x : Int32} {i : Nat} (h : 32 ≤ i) : bt x i = false := BitVec.getLsbD_of_ge _ _ h
theorem b_m1 : ∀ i, i < 32 → bt (-1) i = true := by decide +kernel
theorem b_0 (i : Nat) : bt 0 i = false := BitVec.getLsbD_zero
theorem s_l : ∀ n, n < 32 → ((nI n &&& 31).toBitVec.smod 32).toNat = n := by decide +kernel
theorem s_u : ∀ n, n < 32 → (((nI n).toUInt32 &&& Int32.toUInt32 31).toBitVec % 32).toNat = n := by decide +kernel
theorem b_shl (n : Nat) (hn : n < 32) (x : Int32) {i : Nat} (hi : i < 32) : bt (x <<< (nI n &&& 31)) i = (decide (n ≤ i) && bt x (i - n)) := by
  unfold bt
  rw [Int32.toBitVec_shiftLeft]
  show (x.toBitVec <<< ((nI n &&& 31).toBitVec.smod 32).toNat).getLsbD i = _
  rw [s_l n hn, BitVec.getLsbD_shiftLeft]
  rcases Nat.lt_or_ge i n with h | h
  · simp [h, Nat.not_le.mpr h]
  · simp [hi, h, Nat.not_lt.mpr h]
theorem b_ushr (n : Nat) (hn : n < 32) (x : Int32) (i : Nat) : bt ((x.toUInt32 >>> ((nI n).toUInt32 &&& Int32.toUInt32 31)).toInt32) i = bt x (n + i) := by
  show (x.toUInt32 >>> ((nI n).toUInt32 &&& Int32.toUInt32 31)).toBitVec.getLsbD i = x.toUInt32.toBitVec.getLsbD (n + i)
  rw [UInt32.toBitVec_shiftRight]
  show (x.toUInt32.toBitVec >>> (((nI n).toUInt32 &&& Int32.toUInt32 31).toBitVec % 32).toNat).getLsbD i = _
  rw [s_u n hn, BitVec.getLsbD_ushiftRight]
theorem b_sshr (n : Nat) (hn : n < 32) (x : Int32) {i : Nat} (hi : i < 32) : bt (x >>> (nI n &&& 31)) i = if n + i < 32 then bt x (n + i) else bt x 31 := by
  unfold bt
  rw [Int32.toBitVec_shiftRight]
  show (x.toBitVec.sshiftRight ((nI n &&& 31).toBitVec.smod 32).toNat).getLsbD i = _
  rw [s_l n hn, BitVec.getLsbD_sshiftRight, BitVec.msb_eq_getLsbD_last]
  simp [hi]
theorem nx_and (a b : Nat) : nI a &&& nI b = nI (a &&& b) := by
  apply Int32.toBitVec_inj.1
  show BitVec.ofNat 32 a &&& BitVec.ofNat 32 b = BitVec.ofNat 32 (a &&& b)
  apply BitVec.eq_of_getLsbD_eq
  intro i hi
  simp [hi]
theorem nx_xor (a b : Nat) : nI a ^^^ nI b = nI (a ^^^ b) := by
  apply Int32.toBitVec_inj.1
  show BitVec.ofNat 32 a ^^^ BitVec.ofNat 32 b = BitVec.ofNat 32 (a ^^^ b)
  apply BitVec.eq_of_getLsbD_eq
  intro i hi
  simp [hi]
/-! numbers of this claim -/
def bI (b : Bool) : Int32 := if b = true then nI 1 else nI 0
theorem bI_t : bI true = nI 1 := rfl
theorem bI_f : bI false = nI 0 := rfl
theorem bI_nar (b : Bool) : narrow .boolean (.int (bI b)) = .int (bI b) := by cases b <;> decide +kernel
theorem bI_vn (b : Bool) : vp_nar .boolean (bI b) = bI b := by cases b <;> decide +kernel
theorem w_add : ∀ y, y < 16 → ∀ x, x < 16 → (nI y + nI x) &&& nI 15 = nI ((y + x) % 16) := by decide +kernel
theorem w_sub : ∀ y, y < 16 → ∀ x, x < 16 → (nI y - nI x) &&& nI 15 = nI ((y + 16 - x) % 16) := by decide +kernel
theorem w_mul : ∀ y, y < 16 → ∀ x, x < 16 → (nI y * nI x) &&& nI 15 = nI ((y * x) % 16) := by decide +kernel
theorem w_and16 {y x : Nat} (hy : y < 16) : y &&& x < 16 := Nat.lt_of_le_of_lt Nat.and_le_left hy
theorem w_xor16 {y x : Nat} (hy : y < 16) (hx : x < 16) : y ^^^ x < 16 := Nat.xor_lt_two_pow (n := 4) hy hx
theorem nI_m1 {a : Nat} (h : a < 2 ^ 31) : nI a ≠ -1 := by
  intro e
  have := congrArg Int32.toInt e
  rw [nI_toInt h] at this
  have h2 : (-1 : Int32).toInt = -1 := by decide +kernel
  omega
def pk5 (c : Nat → Nat) : Nat := c 0 + 16 * c 1 + 256 * c 2 + 4096 * c 3 + 65536 * c 4
def c16 (c : Nat → Nat) : Prop := ∀ i, i < 5 → c i < 16
theorem c16.lt {c : Nat → Nat} (h : c16 c) : pk5 c < 1048576 := by
  have h0 := h 0 (by omega)
  have h1 := h 1 (by omega)
  have h2 := h 2 (by omega)
  have h3 := h 3 (by omega)
  have h4 := h 4 (by omega)
  unfold pk5
  omega
theorem pk5_nib {c : Nat → Nat} (h : c16 c) {i : Nat} (hi : i < 5) : pk5 c / 2 ^ (4 * i) % 16 = c i := by
  have h0 := h 0 (by omega)
  have h1 := h 1 (by omega)
  have h2 := h 2 (by omega)
  have h3 := h 3 (by omega)
  have h4 := h 4 (by omega)
  unfold pk5
  rcases (by omega : i = 0 ∨ i = 1 ∨ i = 2 ∨ i = 3 ∨ i = 4) with rfl | rfl | rfl | rfl | rfl <;> simp only [Nat.reduceMul, Nat.reducePow] <;> omega
theorem pk5_of {c : Nat → Nat} {n : Nat} (hn : n < 1048576) (h : ∀ i, i < 5 → n / 2 ^ (4 * i) % 16 = c i) : n = pk5 c := by
  have h0 := h 0 (by omega)
  have h1 := h 1 (by omega)
  have h2 := h 2 (by omega)
  have h3 := h 3 (by omega)
  have h4 := h 4 (by omega)
  simp only [Nat.reduceMul, Nat.reducePow] at h0 h1 h2 h3 h4
  unfold pk5
  omega
theorem pk5_inj {c c' : Nat → Nat} (h : c16 c) (h' : c16 c') : pk5 c = pk5 c' ↔ ∀ i, i < 5 → c i = c' i := by
  constructor
  · intro e i hi
    rw [← pk5_nib h hi, ← pk5_nib h' hi, e]
  · intro e
    unfold pk5
    rw [e 0 (by omega), e 1 (by omega), e 2 (by omega), e 3 (by omega), e 4 (by omega)]
def wOf (st i : Int32) : Int32 := (st >>> ((nI 4 * i) &&& 31)) &&& nI 15
def wWith (st i x : Int32) : Int32 := (st &&& ((nI 15 <<< ((nI 4 * i) &&& 31)) ^^^ (-1))) ||| (x <<< ((nI 4 * i) &&& 31))
theorem wOf_n {n i : Nat} (hn : n < 2 ^ 31) (hi : i < 5) : wOf (nI n) (nI i) = nI (n / 2 ^ (4 * i) % 16) := by
  unfold wOf
  rw [pk_mul, pk_shrN hn _ (4 * i) (s_l (4 * i) (by omega)), pk_andN (Nat.lt_of_le_of_lt (Nat.div_le_self _ _) (by omega)) 4 (by decide +kernel)]
theorem wOf_c {c : Nat → Nat} (h : c16 c) {i : Nat} (hi : i < 5) : wOf (nI (pk5 c)) (nI i) = nI (c i) := by
  rw [wOf_n (by have := h.lt; omega) hi, pk5_nib h hi]
theorem bal_c {c : Nat → Nat} (h : c16 c) : nI (pk5 c) >>> (nI 16 &&& 31) = nI (c 4) := by
  rw [pk_shrN (by have := h.lt; omega) _ 16 (s_l 16 (by omega))]
  congr 1
  have h0 := h 0 (by omega)
  have h1 := h 1 (by omega)
  have h2 := h 2 (by omega)
  have h3 := h 3 (by omega)
  unfold pk5
  omega
theorem nx_or (a b : Nat) : nI a ||| nI b = nI (a ||| b) := by
  apply Int32.toBitVec_inj.mp
  rw [Int32.toBitVec_or]
  apply BitVec.eq_of_toNat_eq
  rw [BitVec.toNat_or]
  show a % 2 ^ 32 ||| b % 2 ^ 32 = (a ||| b) % 2 ^ 32
  rw [Nat.or_mod_two_pow]
theorem w_mask : ∀ i, i < 4 → ((nI 15 <<< (nI (4 * i) &&& 31)) ^^^ (-1)) = nI (4294967295 - 15 * 2 ^ (4 * i)) := by decide +kernel
theorem nup_c16 {c : Nat → Nat} (h : c16 c) {i x : Nat} (hx : x < 16) : c16 (nup c i x) := by
  intro j hj
  unfold nup
  split
  · exact hx
  · exact h j hj
theorem wWith_c {c : Nat → Nat} (h : c16 c) {i x : Nat} (hi : i < 4) (hx : x < 16) : wWith (nI (pk5 c)) (nI i) (nI x) = nI (pk5 (nup c i x)) := by
  unfold wWith
  rw [pk_mul, w_mask i hi, nx_and, pk_shlN _ (4 * i) (s_l (4 * i) (by omega)) (by
    rcases (by omega : i = 0 ∨ i = 1 ∨ i = 2 ∨ i = 3) with rfl | rfl | rfl | rfl <;> simp only [Nat.reduceMul, Nat.reducePow] <;> omega), nx_or]
  congr 1
  have hl := h.lt
  have hb : pk5 c &&& (4294967295 - 15 * 2 ^ (4 * i)) < 2 ^ 20 := Nat.lt_of_le_of_lt Nat.and_le_left hl
  have hs : x * 2 ^ (4 * i) < 2 ^ 20 := by
    rcases (by omega : i = 0 ∨ i = 1 ∨ i = 2 ∨ i = 3) with rfl | rfl | rfl | rfl <;> simp only [Nat.reduceMul, Nat.reducePow] <;> omega
  refine pk5_of (Nat.or_lt_two_pow hb hs) (fun j hj => ?_)
  have e16 : (16 : Nat) = 2 ^ 4 := rfl
  rw [Nat.or_div_two_pow, e16, Nat.or_mod_two_pow, Nat.and_div_two_pow, Nat.and_mod_two_pow, ← e16, pk5_nib h hj]
  have hcj := h j hj
  have key : ∀ i, i < 4 → ∀ j, j < 5 → ((4294967295 - 15 * 2 ^ (4 * i)) / 2 ^ (4 * j)) % 16 = if j = i then 0 else 15 := by decide +kernel
  have key2 : ∀ i, i < 4 → ∀ j, j < 5 → ∀ x, x < 16 → (x * 2 ^ (4 * i)) / 2 ^ (4 * j) % 16 = if j = i then x else 0 := by decide +kernel
  have key3 : ∀ y, y < 16 → y &&& 15 = y := by decide +kernel
  rw [key i hi j hj, key2 i hi j hj x hx]
  unfold nup
  by_cases e : j = i
  · simp [e]
  · simp [e, key3 _ hcj]
/-- in range: the number, if it is below n -/
def inR (x : Int32) (n : Nat) : Option Nat := if 0 ≤ x ∧ x < nI n then some x.toNatClampNeg else none
theorem inR_cases (x : Int32) {n : Nat} (hn : n < 2 ^ 31) : (inR x n = none ∧ ¬ (0 ≤ x ∧ x < nI n)) ∨ ∃ j, j < n ∧ x = nI j ∧ inR x n = some j := by
  by_cases h : 0 ≤ x ∧ x < nI n
  · right
    obtain ⟨j, hj, rfl⟩ := nI_of (x := x) (Int32.not_lt.mpr h.1)
    refine ⟨j, (nI_ltI hj hn).mp h.2, rfl, ?_⟩
    unfold inR
    rw [if_pos h, nI_clamp hj]
  · left
    exact ⟨if_neg h, h⟩
theorem inR_n {j n : Nat} (h : j < n) (hn : n < 2 ^ 31) : inR (nI j) n = some j := by
  unfold inR
  rw [if_pos ⟨nI_pos' (by omega), nI_lt h hn⟩, nI_clamp (by omega)]
end
section
section EN
variable {S : SD} {w : WC} {nL : Nat} {k : KX} {cc : ByteArray} {own : String} {Ts : List Cond} {ret : Option FieldType} {rm : Room} {post : Option MV → SG → Prop} {pc : Nat} {lv : List (Option MV)} {st : List MV} {sg : SG}
theorem en_eq (g : ew_G S w nL k cc own Ts ret rm) {a b : Nat} {off : Int} {tgt : Nat} (d : decode cc pc = .ok (.if_icmp .eq off, 3)) (ht : (pc : Int) + off = (tgt : Int)) (ha : a < 2 ^ 31) (hb : b < 2 ^ 31) (h1 : a = b → ew_E S w nL k tgt lv st sg) (h2 : a ≠ b → ew_E S w nL k (pc + 3) lv st sg) : ew_E S w nL k pc lv (.inl (nI b) :: .inl (nI a) :: st) sg := ew_icmp_eq g d ht (fun q => h1 ((nI_eq ha hb).mp q)) (fun q => h2 (fun z => q ((nI_eq ha hb).mpr z)))
theorem en_ne (g : ew_G S w nL k cc own Ts ret rm) {a b : Nat} {off : Int} {tgt : Nat} (d : decode cc pc = .ok (.if_icmp .ne off, 3)) (ht : (pc : Int) + off = (tgt : Int)) (ha : a < 2 ^ 31) (hb : b < 2 ^ 31) (h1 : a ≠ b → ew_E S w nL k tgt lv st sg) (h2 : a = b → ew_E S w nL k (pc + 3) lv st sg) : ew_E S w nL k pc lv (.inl (nI b) :: .inl (nI a) :: st) sg := ew_icmp_ne g d ht (fun q => h1 (fun z => q ((nI_eq ha hb).mpr z))) (fun q => h2 ((nI_eq ha hb).mp q))
theorem en_lt (g : ew_G S w nL k cc own Ts ret rm) {a b : Nat} {off : Int} {tgt : Nat} (d : decode cc pc = .ok (.if_icmp .lt off, 3)) (ht : (pc : Int) + off = (tgt : Int)) (ha : a < 2 ^ 31) (hb : b < 2 ^ 31) (h1 : a < b → ew_E S w nL k tgt lv st sg) (h2 : b ≤ a → ew_E S w nL k (pc + 3) lv st sg) : ew_E S w nL k pc lv (.inl (nI b) :: .inl (nI a) :: st) sg := ew_icmp_lt g d ht (fun q => h1 ((nI_ltI ha hb).mp q)) (fun q => h2 (Nat.le_of_not_lt fun z => q ((nI_ltI ha hb).mpr z)))
theorem en_ge (g : ew_G S w nL k cc own Ts ret rm) {a b : Nat} {off : Int} {tgt : Nat} (d : decode cc pc = .ok (.if_icmp .ge off, 3)) (ht : (pc : Int) + off = (tgt : Int)) (ha : a < 2 ^ 31) (hb : b < 2 ^ 31) (h1 : b ≤ a → ew_E S w nL k tgt lv st sg) (h2 : a < b → ew_E S w nL k (pc + 3) lv st sg) : ew_E S w nL k pc lv (.inl (nI b) :: .inl (nI a) :: st) sg := ew_icmp_ge g d ht (fun q => h1 ((nI_leI hb ha).mp q)) (fun q => h2 (Nat.lt_of_not_le fun z => q ((nI_leI hb ha).mpr z)))
theorem en_gt (g : ew_G S w nL k cc own Ts ret rm) {a b : Nat} {off : Int} {tgt : Nat} (d : decode cc pc = .ok (.if_icmp .gt off, 3)) (ht : (pc : Int) + off = (tgt : Int)) (ha : a < 2 ^ 31) (hb : b < 2 ^ 31) (h1 : b < a → ew_E S w nL k tgt lv st sg) (h2 : a ≤ b → ew_E S w nL k (pc + 3) lv st sg) : ew_E S w nL k pc lv (.inl (nI b) :: .inl (nI a) :: st) sg := ew_icmp_gt g d ht (fun q => h1 ((nI_ltI hb ha).mp q)) (fun q => h2 (Nat.le_of_not_lt fun z => q ((nI_ltI hb ha).mpr z)))
theorem en_le (g : ew_G S w nL k cc own Ts ret rm) {a b : Nat} {off : Int} {tgt : Nat} (d : decode cc pc = .ok (.if_icmp .le off, 3)) (ht : (pc : Int) + off = (tgt : Int)) (ha : a < 2 ^ 31) (hb : b < 2 ^ 31) (h1 : a ≤ b → ew_E S w nL k tgt lv st sg) (h2 : b < a → ew_E S w nL k (pc + 3) lv st sg) : ew_E S w nL k pc lv (.inl (nI b) :: .inl (nI a) :: st) sg := ew_icmp_le g d ht (fun q => h1 ((nI_leI ha hb).mp q)) (fun q => h2 (Nat.lt_of_not_le fun z => q ((nI_leI ha hb).mpr z)))
theorem en_z {a : Nat} (ha : a < 2 ^ 31) : nI a = 0 ↔ a = 0 := by rw [← nI_0, nI_eq ha (by decide)]
theorem en_if_eq (g : ew_G S w nL k cc own Ts ret rm) {a : Nat} {off : Int} {tgt : Nat} (d : decode cc pc = .ok (.ifCond .eq off, 3)) (ht : (pc : Int) + off = (tgt : Int)) (ha : a < 2 ^ 31) (h1 : a = 0 → ew_E S w nL k tgt lv st sg) (h2 : a ≠ 0 → ew_E S w nL k (pc + 3) lv st sg) : ew_E S w nL k pc lv (.inl (nI a) :: st) sg := ew_if_eq g d ht (fun q => h1 ((en_z ha).mp q)) (fun q => h2 (fun z => q ((en_z ha).mpr z)))
theorem en_if_ne (g : ew_G S w nL k cc own Ts ret rm) {a : Nat} {off : Int} {tgt : Nat} (d : decode cc pc = .ok (.ifCond .ne off, 3)) (ht : (pc : Int) + off = (tgt : Int)) (ha : a < 2 ^ 31) (h1 : a ≠ 0 → ew_E S w nL k tgt lv st sg) (h2 : a = 0 → ew_E S w nL k (pc + 3) lv st sg) : ew_E S w nL k pc lv (.inl (nI a) :: st) sg := ew_if_ne g d ht (fun q => h1 (fun z => q ((en_z ha).mpr z))) (fun q => h2 ((en_z ha).mp q))
theorem en_iald (g : ew_G S w nL k cc own Ts ret rm) {o n j : Nat} {v : Int32} (d : decode cc pc = .ok (.iaload, 1)) (ho : o < S.2.2.1) (hL : S.2.1 o = .inl (false, n)) (hj : j < n) (hn : n < 2 ^ 31) (hv : sg o j = v) (h : ew_E S w nL k (pc + 1) lv (.inl v :: st) sg) : ew_E S w nL k pc lv (.inl (nI j) :: .inr o :: st) sg := ew_iald g d ho hL (vp_in_nI hj hn) (by rw [nI_clamp (Nat.lt_trans hj hn), hv]; exact h)
theorem en_zald (g : ew_G S w nL k cc own Ts ret rm) {o n j : Nat} {v : Int32} (d : decode cc pc = .ok (.baload, 1)) (ho : o < S.2.2.1) (hL : S.2.1 o = .inl (true, n)) (hj : j < n) (hn : n < 2 ^ 31) (hv : sg o j = v) (h : ew_E S w nL k (pc + 1) lv (.inl v :: st) sg) : ew_E S w nL k pc lv (.inl (nI j) :: .inr o :: st) sg := ew_zald g d ho hL (vp_in_nI hj hn) (by rw [nI_clamp (Nat.lt_trans hj hn), hv]; exact h)
theorem en_iast (g : ew_G S w nL k cc own Ts ret rm) {o n j : Nat} {x : Int32} (d : decode cc pc = .ok (.iastore, 1)) (ho : o < S.2.2.1) (hL : S.2.1 o = .inl (false, n)) (hj : j < n) (hn : n < 2 ^ 31) (h : ew_E S w nL k (pc + 1) lv st (sup sg o j x)) : ew_E S w nL k pc lv (.inl x :: .inl (nI j) :: .inr o :: st) sg := ew_iast g d ho hL (vp_in_nI hj hn) (by rw [nI_clamp (Nat.lt_trans hj hn)]; exact h)
theorem en_zast (g : ew_G S w nL k cc own Ts ret rm) {o n j : Nat} {x : Int32} (d : decode cc pc = .ok (.bastore, 1)) (ho : o < S.2.2.1) (hL : S.2.1 o = .inl (true, n)) (hj : j < n) (hn : n < 2 ^ 31) (hx : vp_nar .boolean x = x) (h : ew_E S w nL k (pc + 1) lv st (sup sg o j x)) : ew_E S w nL k pc lv (.inl x :: .inl (nI j) :: .inr o :: st) sg := ew_zast g d ho hL (vp_in_nI hj hn) hx (by rw [nI_clamp (Nat.lt_trans hj hn)]; exact h)
theorem en_tald (g : ew_G S w nL k cc own Ts ret rm) {j i : Nat} {C n dd : String} {N : Nat} {f : Nat → Int32} {v : Int32} (d : decode cc pc = .ok (.iaload, 1)) (hj : S.2.2.2.2[j]? = some (C, n, dd, N, f)) (hi : i < N) (hN : N < 2 ^ 31) (hv : f i = v) (h : ew_E S w nL k (pc + 1) lv (.inl v :: st) sg) : ew_E S w nL k pc lv (.inl (nI i) :: .inr (1000 + j) :: st) sg := ew_tald g d hj (vp_in_nI hi hN) (by rw [nI_clamp (Nat.lt_trans hi hN), hv]; exact h)
/-- a computed number gets another form -/
theorem en_top {x y : Int32} (e : x = y) (h : ew_E S w nL k pc lv (.inl y :: st) sg) : ew_E S w nL k pc lv (.inl x :: st) sg := by rw [e]; exact h
theorem en_lv {lv' : List (Option MV)} (e : lv = lv') (h : ew_E S w nL k pc lv' st sg) : ew_E S w nL k pc lv st sg := by rw [e]; exact h
theorem en_sg {sg' : SG} (e : sg = sg') (h : ew_E S w nL k pc lv st sg') : ew_E S w nL k pc lv st sg := by rw [e]; exact h
end EN
end
section
/-! bounds of the machine, its end -/
def cdOK (cd : CDE) : Prop := cd.1 ≤ 32 ∧ ∀ i, i < cd.1 → cd.2.1 i < 25 ∧ cd.2.2 i < 16
def pOK (s : PM) : Prop := pDe s ≤ 6 ∧ (∀ i, i < pDe s → pSt s i < 16) ∧ c16 (pCe s) ∧ pGa s ≤ 40 ∧ pAt s ≤ 32
theorem mkAt_lt {cd : CDE} {a k : Nat} (h : mkAt cd a = some k) : k < cd.1 ∧ cd.2.1 k = 16 ∧ cd.2.2 k = a := by
  unfold mkAt at h
  have h1 := List.mem_of_find?_eq_some h
  have h2 := List.find?_some h
  exact ⟨List.mem_range.mp h1, of_decide_eq_true h2⟩
theorem pUn_lt {s : PM} (h : pOK s) (i : Nat) : pUn s i < 16 := by
  unfold pUn
  split
  · exact h.2.1 _ (by omega)
  · omega
theorem it_lt {c : Prop} [Decidable c] {a b n : Nat} (h1 : a < n) (h2 : b < n) : (if c then a else b) < n := by split <;> assumption
theorem pPut_lt {inp cal : Nat} {s : PM} {o a y x : Nat} (h : pOK s) (hi : inp < 16) (hc : cal < 4) (ha : a < 16) (hy : y < 16) (hx : x < 16) : pPut inp cal s o a y x < 16 := by
  have hu := pUn_lt h a
  have h4 := h.2.2.1 4 (by omega)
  have hm := h.2.2.1 (x % 4) (by omega)
  have hand := w_and16 (x := x) hy
  have hxor := w_xor16 hy hx
  unfold pPut
  generalize pUn s a = u at hu ⊢
  repeat' apply it_lt
  all_goals omega
theorem nup_lt {f : Nat → Nat} {n k x m : Nat} (h : ∀ i, i < n → f i < m) (hx : x < m) : ∀ i, i < n → nup f k x i < m := by
  intro i hi
  unfold nup
  split
  · exact hx
  · exact h i hi
/-- where nothing faults: gas and words are there -/
theorem pFault_none {cd : CDE} {s : PM} {o a : Nat} (h : pFault cd s o a = none) : oCost o ≤ pGa s ∧ oTake o ≤ pDe s ∧ pDe s - oTake o + oPuts o ≤ 6 ∧ (o = 3 → a < pDe s) ∧ (o = 4 → a + 1 < pDe s) ∧ (o = 17 → (mkAt cd (pUn s 0)).isSome = true) ∧ (o = 18 → pUn s 1 ≠ 0 → (mkAt cd (pUn s 0)).isSome = true) ∧ (o = 21 → pUn s 0 ≠ 0) := by
  unfold pFault at h
  split at h
  · cases h
  · rename_i h0
    refine ⟨by omega, by omega, by omega, ?_, ?_, ?_, ?_, ?_⟩
    · rintro rfl
      simp at h
      exact h
    · rintro rfl
      simp at h
      exact h
    · rintro rfl
      simp at h
      exact Option.isSome_iff_ne_none.mpr h
    · rintro rfl hy
      simp at h
      exact Option.isSome_iff_ne_none.mpr (h hy)
    · rintro rfl
      simp at h
      exact h
theorem oCost_pos (o : Nat) : 1 ≤ oCost o := by
  unfold oCost
  split
  · omega
  · split <;> omega
theorem getD_lt {cd : CDE} {a : Nat} (hc : cd.1 ≤ 32) : (mkAt cd a).getD 0 ≤ 32 := by
  cases h : mkAt cd a with
  | none => simp
  | some k => have := (mkAt_lt h).1; simp; omega
theorem pS1_ok {cal : Nat} {s : PM} {o y x : Nat} (h : pOK s) (hat : pAt s < 32) : pOK (pS1 cal s o y x) := by
  obtain ⟨h1, h2, h3, h4, h5⟩ := h
  refine ⟨?_, fun i hi => h2 i ?_, h3, ?_, hat⟩
  · show pDe s - oTake o ≤ 6
    omega
  · have : i < pDe s - oTake o := hi
    omega
  · show pGa s - oCost o ≤ 40
    omega
theorem pSnd_ok {s : PM} {o x : Nat} (h : pOK s) : pOK (pSnd s o x) := by
  unfold pSnd
  split
  · exact ⟨h.1, h.2.1, nup_c16 h.2.2.1 (by have := h.2.2.1 4 (by omega); omega), h.2.2.2.1, h.2.2.2.2⟩
  · exact h
theorem pPush_ok {s : PM} {v : Nat} (h : pOK s) (hd : pDe s < 6) (hv : v < 16) : pOK (pPush s v) := by
  refine ⟨hd, fun i hi => ?_, h.2.2⟩
  show nup (pSt s) (pDe s) v i < 16
  unfold nup
  split
  · exact hv
  · exact h.2.1 i (by have : i < pDe s + 1 := hi; omega)
theorem pJmp_ok {s : PM} {i : Nat} (h : pOK s) (hi : i ≤ 32) : pOK (pJmp s i) := ⟨h.1, h.2.1, h.2.2.1, h.2.2.2.1, hi⟩
theorem pEnd_ok {s : PM} {i : Nat} (h : pOK s) : pOK (pEnd s i) := h
theorem pNote_ok {s : PM} {f : Nat → Nat → Bool} (h : pOK s) : pOK (pNote s f) := h
theorem pWay_ok {s : PM} {f : List Nat} (h : pOK s) : pOK (pWay s f) := h
theorem pCel_ok {s : PM} {c : Nat → Nat} (h : pOK s) (hc : c16 c) : pOK (pCel s c) := ⟨h.1, h.2.1, hc, h.2.2.2⟩
theorem pSwp_ok {s : PM} {i j : Nat} (h : pOK s) (hi : i < pDe s) (hj : j < pDe s) : pOK (pSwp s i j) := ⟨h.1, nup_lt (nup_lt h.2.1 (h.2.1 j hj)) (h.2.1 i hi), h.2.2⟩
theorem pAct_ok {cd : CDE} {s : PM} {o a y x : Nat} (hc : cd.1 ≤ 32) (h : pOK s) (hy : y < 16) (h4 : o = 4 → a + 1 < pDe s) : pOK (pAct cd s o a y x) := by
  have gd := getD_lt (cd := cd) (a := x) hc
  unfold pAct
  split
  · rename_i e
    exact pSwp_ok h (by have := h4 e; omega) (by have := h4 e; omega)
  · split
    · exact pCel_ok h (nup_c16 h.2.2.1 hy)
    · split
      · exact pJmp_ok h gd
      · split
        · split
          · exact pJmp_ok h gd
          · exact h
        · split
          · exact h
          · split
            · exact h
            · split
              · exact h
              · exact h
theorem oPuts_take : ∀ o, o < 25 → oPuts o ≤ 1 ∧ (o = 4 → oPuts o = 0 ∧ oTake o = 0) ∧ (o = 3 → oTake o = 0) := by decide +kernel
theorem pSnd_de (s : PM) (o x : Nat) : pDe (pSnd s o x) = pDe s := by unfold pSnd; split <;> rfl
theorem pPer_ok {cd : CDE} {inp cal : Nat} {s : PM} {o a : Nat} (hcd : cdOK cd) (hi : inp < 16) (hc : cal < 4) (hat : pAt s < 32) (ho : o < 25) (ha : a < 16) (h : pOK s) : pOK (pPer cd inp cal s o a) := by
  have hx := pUn_lt h 0
  have hy := pUn_lt h 1
  unfold pPer
  split
  · exact h
  · rename_i hf
    obtain ⟨f1, f2, f3, f4, f5, -⟩ := pFault_none hf
    obtain ⟨-, o2, -⟩ := oPuts_take o ho
    have k1 := pS1_ok (cal := cal) (o := o) (y := pUn s 1) (x := pUn s 0) h hat
    unfold pDo
    split
    · rename_i hp
      refine pPush_ok (pSnd_ok k1) ?_ (pPut_lt k1 hi hc ha hy hx)
      rw [pSnd_de]
      show pDe s - oTake o < 6
      omega
    · refine pAct_ok hcd.1 k1 hy (fun e => ?_)
      have := f5 e
      have := o2 e
      show a + 1 < pDe s - oTake o
      omega
theorem pStep_ok {cd : CDE} {inp cal : Nat} {s : PM} (hcd : cdOK cd) (hi : inp < 16) (hc : cal < 4) (hat : pAt s < cd.1) (h : pOK s) : pOK (pStep cd inp cal s) := by
  have := hcd.1
  exact pPer_ok (s := pWay s _) hcd hi hc (by show pAt s < 32; omega) (hcd.2 _ hat).1 (hcd.2 _ hat).2 h
theorem pSnd_ga (s : PM) (o x : Nat) : pGa (pSnd s o x) = pGa s := by unfold pSnd; split <;> rfl
theorem pAct_ga (cd : CDE) (s : PM) (o a y x : Nat) : pGa (pAct cd s o a y x) = pGa s := by
  unfold pAct
  split
  · rfl
  · split
    · rfl
    · split
      · rfl
      · split
        · split <;> rfl
        · split
          · rfl
          · split
            · rfl
            · split <;> rfl
theorem pStep_ga {cd : CDE} {inp cal : Nat} {s : PM} : pHo (pStep cd inp cal s) ≠ 5 ∨ pGa (pStep cd inp cal s) + 1 ≤ pGa s := by
  unfold pStep pPer
  split
  · left
    show (2 : Nat) ≠ 5
    decide
  · rename_i hf
    right
    obtain ⟨f1, -⟩ := pFault_none hf
    have f1 : oCost (cd.2.1 (pAt s)) ≤ pGa s := f1
    have := oCost_pos (cd.2.1 (pAt s))
    unfold pDo
    split
    · show pGa (pSnd _ _ _) + 1 ≤ _
      rw [pSnd_ga]
      show pGa s - oCost (cd.2.1 (pAt s)) + 1 ≤ _
      omega
    · rw [pAct_ga]
      show pGa s - oCost (cd.2.1 (pAt s)) + 1 ≤ _
      omega
theorem pRun_stop {cd : CDE} {inp cal : Nat} {s : PM} (h : pHo s ≠ 5) (n : Nat) : pRun cd inp cal n s = s := by
  cases n with
  | zero => rfl
  | succ n => unfold pRun; rw [if_pos h]
theorem pRun_end {cd : CDE} {inp cal : Nat} : ∀ (n : Nat) (s : PM), pGa s < n → pHo (pRun cd inp cal n s) ≠ 5 := by
  intro n
  induction n with
  | zero => intro s h; omega
  | succ n ih =>
    intro s h
    unfold pRun
    split
    · assumption
    · split
      · show (0 : Nat) ≠ 5
        decide
      · rcases pStep_ga (cd := cd) (inp := inp) (cal := cal) (s := s) with h1 | h1
        · rw [pRun_stop h1]; exact h1
        · exact ih _ (by omega)
end
section
/-! the cells: 0 to 40 the object under test, 41 to 60 the reference -/
def qLl : List ((Bool × Nat) ⊕ (Nat × List (Option Nat))) := [.inr (0, [some 1, some 9, some 40, none, none, none]), .inr (1, [some 2, some 6, none, none, none, none, none, none, none, none, some 7, none, none, some 8]), .inr (2, [some 3, some 4, some 5, none]), .inl (false, 32), .inl (false, 32), .inl (false, 16), .inl (false, 6), .inl (false, 41), .inl (false, 5), .inr (3, [some 10, some 19, some 28, some 37, none]), .inr (4, [some 11, some 16, some 17, some 18]), .inr (5, [some 12, some 13, some 14, some 15, none]), .inl (false, 1640), .inl (false, 40), .inl (false, 40), .inl (false, 40), .inl (false, 64), .inl (false, 64), .inl (false, 320), .inr (4, [some 20, some 25, some 26, some 27]), .inr (5, [some 21, some 22, some 23, some 24, none]), .inl (false, 1640), .inl (false, 40), .inl (false, 40), .inl (false, 40), .inl (false, 64), .inl (false, 64), .inl (false, 320), .inr (6, [some 29, some 30, some 31, some 32, some 33, some 34, some 35, some 36, none]), .inl (false, 1600), .inl (false, 40), .inl (false, 40), .inl (false, 40), .inl (false, 40), .inl (false, 40), .inl (false, 40), .inl (false, 40), .inr (7, [some 38, some 39]), .inl (false, 160), .inl (false, 6400), .inl (false, 7), .inr (8, [none, some 42, some 43, none, none, some 44, some 45, some 46, none, none, none, none, none, none, none, some 47, some 48, some 49, some 50, none, none, some 51, some 52, some 53, some 54, some 55, some 56, some 57, some 58, some 59, none, some 60]), .inl (false, 32), .inl (false, 32), .inl (false, 5), .inl (false, 5), .inl (false, 7), .inl (false, 82), .inl (false, 2), .inl (false, 2), .inl (false, 5), .inl (false, 3280), .inl (false, 80), .inl (false, 80), .inl (false, 40), .inl (false, 40), .inl (false, 200), .inl (true, 200), .inl (false, 6400), .inl (false, 160), .inl (false, 7)]
def qL : LY := fun o => qLl.getD o (.inl (false, 0))
def qST : STB := [("ContractProbe", "COSTS", "[I", 25, fun i => nI (oCost i)), ("ContractProbe", "TAKES", "[I", 25, fun i => nI (oTake i)), ("ContractProbe", "PUTS", "[I", 25, fun i => nI (oPuts i))]
def qS : SD := (qcl, qL, 61, qnw, qST)
theorem qnk : ew_nk qS := by
  intro x hx
  have h := (List.mem_filter.mp hx).2
  cases x
  all_goals first | exact Or.inl ⟨_, _, _, _, _, _, rfl⟩ | exact Or.inr ⟨_, _, _, _, rfl⟩ | cases h
theorem lyB {b : Nat} (h : b = 10 ∨ b = 19) : qS.2.1 b = .inr (4, [some (b + 1), some (b + 6), some (b + 7), some (b + 8)]) := by rcases h with rfl | rfl <;> rfl
theorem lyY {b : Nat} (h : b = 10 ∨ b = 19) : qS.2.1 (b + 1) = .inr (5, [some (b + 2), some (b + 3), some (b + 4), some (b + 5), none]) := by rcases h with rfl | rfl <;> rfl
theorem lyA2 {b : Nat} (h : b = 10 ∨ b = 19) : qS.2.1 (b + 2) = .inl (false, 1640) := by rcases h with rfl | rfl <;> rfl
theorem lyA3 {b : Nat} (h : b = 10 ∨ b = 19) : qS.2.1 (b + 3) = .inl (false, 40) := by rcases h with rfl | rfl <;> rfl
theorem lyA4 {b : Nat} (h : b = 10 ∨ b = 19) : qS.2.1 (b + 4) = .inl (false, 40) := by rcases h with rfl | rfl <;> rfl
theorem lyA5 {b : Nat} (h : b = 10 ∨ b = 19) : qS.2.1 (b + 5) = .inl (false, 40) := by rcases h with rfl | rfl <;> rfl
theorem lyA6 {b : Nat} (h : b = 10 ∨ b = 19) : qS.2.1 (b + 6) = .inl (false, 64) := by rcases h with rfl | rfl <;> rfl
theorem lyA7 {b : Nat} (h : b = 10 ∨ b = 19) : qS.2.1 (b + 7) = .inl (false, 64) := by rcases h with rfl | rfl <;> rfl
theorem lyA8 {b : Nat} (h : b = 10 ∨ b = 19) : qS.2.1 (b + 8) = .inl (false, 320) := by rcases h with rfl | rfl <;> rfl
theorem lyo0 {b : Nat} (h : b = 10 ∨ b = 19) : b + 0 < qS.2.2.1 := by rcases h with rfl | rfl <;> decide
theorem lyo1 {b : Nat} (h : b = 10 ∨ b = 19) : b + 1 < qS.2.2.1 := by rcases h with rfl | rfl <;> decide
theorem lyo2 {b : Nat} (h : b = 10 ∨ b = 19) : b + 2 < qS.2.2.1 := by rcases h with rfl | rfl <;> decide
theorem lyo3 {b : Nat} (h : b = 10 ∨ b = 19) : b + 3 < qS.2.2.1 := by rcases h with rfl | rfl <;> decide
theorem lyo4 {b : Nat} (h : b = 10 ∨ b = 19) : b + 4 < qS.2.2.1 := by rcases h with rfl | rfl <;> decide
theorem lyo5 {b : Nat} (h : b = 10 ∨ b = 19) : b + 5 < qS.2.2.1 := by rcases h with rfl | rfl <;> decide
theorem lyo6 {b : Nat} (h : b = 10 ∨ b = 19) : b + 6 < qS.2.2.1 := by rcases h with rfl | rfl <;> decide
theorem lyo7 {b : Nat} (h : b = 10 ∨ b = 19) : b + 7 < qS.2.2.1 := by rcases h with rfl | rfl <;> decide
theorem lyo8 {b : Nat} (h : b = 10 ∨ b = 19) : b + 8 < qS.2.2.1 := by rcases h with rfl | rfl <;> decide
theorem qp_X_hasReplay (b : Bool) : ew_FP qS 0 3 (bI b) := fun C T N h => by cases h; exact ⟨rfl, .boolean, rfl, by cases b <;> decide +kernel, by cases b <;> decide +kernel⟩
theorem qp_X_balance (x : Int32) : ew_FP qS 0 4 x := fun C T N h => by cases h; exact ⟨rfl, .int, rfl, rfl, rfl⟩
theorem qp_X_limit (x : Int32) : ew_FP qS 0 5 x := fun C T N h => by cases h; exact ⟨rfl, .int, rfl, rfl, rfl⟩
theorem qp_K_depth (x : Int32) : ew_FP qS 1 2 x := fun C T N h => by cases h; exact ⟨rfl, .int, rfl, rfl, rfl⟩
theorem qp_K_state (x : Int32) : ew_FP qS 1 3 x := fun C T N h => by cases h; exact ⟨rfl, .int, rfl, rfl, rfl⟩
theorem qp_K_gas (x : Int32) : ew_FP qS 1 4 x := fun C T N h => by cases h; exact ⟨rfl, .int, rfl, rfl, rfl⟩
theorem qp_K_at (x : Int32) : ew_FP qS 1 5 x := fun C T N h => by cases h; exact ⟨rfl, .int, rfl, rfl, rfl⟩
theorem qp_K_ending (x : Int32) : ew_FP qS 1 6 x := fun C T N h => by cases h; exact ⟨rfl, .int, rfl, rfl, rfl⟩
theorem qp_K_input (x : Int32) : ew_FP qS 1 7 x := fun C T N h => by cases h; exact ⟨rfl, .int, rfl, rfl, rfl⟩
theorem qp_K_caller (x : Int32) : ew_FP qS 1 8 x := fun C T N h => by cases h; exact ⟨rfl, .int, rfl, rfl, rfl⟩
theorem qp_K_hasSent (b : Bool) : ew_FP qS 1 9 (bI b) := fun C T N h => by cases h; exact ⟨rfl, .boolean, rfl, by cases b <;> decide +kernel, by cases b <;> decide +kernel⟩
theorem qp_K_stepCount (x : Int32) : ew_FP qS 1 11 x := fun C T N h => by cases h; exact ⟨rfl, .int, rfl, rfl, rfl⟩
theorem qp_K_shape (x : Int32) : ew_FP qS 1 12 x := fun C T N h => by cases h; exact ⟨rfl, .int, rfl, rfl, rfl⟩
theorem qp_C_size (x : Int32) : ew_FP qS 2 3 x := fun C T N h => by cases h; exact ⟨rfl, .int, rfl, rfl, rfl⟩
theorem qp_E_transactions (x : Int32) : ew_FP qS 3 4 x := fun C T N h => by cases h; exact ⟨rfl, .int, rfl, rfl, rfl⟩
theorem qp_Y_count (x : Int32) : ew_FP qS 5 4 x := fun C T N h => by cases h; exact ⟨rfl, .int, rfl, rfl, rfl⟩
theorem qp_P_count (x : Int32) : ew_FP qS 6 8 x := fun C T N h => by cases h; exact ⟨rfl, .int, rfl, rfl, rfl⟩
theorem qp_M_size (x : Int32) : ew_FP qS 8 0 x := fun C T N h => by cases h; exact ⟨rfl, .int, rfl, rfl, rfl⟩
theorem qp_M_balance0 (x : Int32) : ew_FP qS 8 3 x := fun C T N h => by cases h; exact ⟨rfl, .int, rfl, rfl, rfl⟩
theorem qp_M_limit (x : Int32) : ew_FP qS 8 4 x := fun C T N h => by cases h; exact ⟨rfl, .int, rfl, rfl, rfl⟩
theorem qp_M_depth (x : Int32) : ew_FP qS 8 8 x := fun C T N h => by cases h; exact ⟨rfl, .int, rfl, rfl, rfl⟩
theorem qp_M_gas (x : Int32) : ew_FP qS 8 9 x := fun C T N h => by cases h; exact ⟨rfl, .int, rfl, rfl, rfl⟩
theorem qp_M_at (x : Int32) : ew_FP qS 8 10 x := fun C T N h => by cases h; exact ⟨rfl, .int, rfl, rfl, rfl⟩
theorem qp_M_input (x : Int32) : ew_FP qS 8 11 x := fun C T N h => by cases h; exact ⟨rfl, .int, rfl, rfl, rfl⟩
theorem qp_M_caller (x : Int32) : ew_FP qS 8 12 x := fun C T N h => by cases h; exact ⟨rfl, .int, rfl, rfl, rfl⟩
theorem qp_M_next (x : Int32) : ew_FP qS 8 13 x := fun C T N h => by cases h; exact ⟨rfl, .int, rfl, rfl, rfl⟩
theorem qp_M_sent (b : Bool) : ew_FP qS 8 14 (bI b) := fun C T N h => by cases h; exact ⟨rfl, .boolean, rfl, by cases b <;> decide +kernel, by cases b <;> decide +kernel⟩
theorem qp_M_paths (x : Int32) : ew_FP qS 8 19 x := fun C T N h => by cases h; exact ⟨rfl, .int, rfl, rfl, rfl⟩
theorem qp_M_explored (x : Int32) : ew_FP qS 8 20 x := fun C T N h => by cases h; exact ⟨rfl, .int, rfl, rfl, rfl⟩
theorem qp_M_replays (b : Bool) : ew_FP qS 8 30 (bI b) := fun C T N h => by cases h; exact ⟨rfl, .boolean, rfl, by cases b <;> decide +kernel, by cases b <;> decide +kernel⟩
abbrev qw_X_init : List Cond := Cond.code qy_X_init qc_X_init 1 (none) :: qwg
abbrev qr_X_init : Room := { frames := 4, cells := 0, slots := 0, locals := 72 }
abbrev qw_K_init : List Cond := Cond.code qy_K_init qc_K_init 1 (none) :: qwg
abbrev qr_K_init : Room := { frames := 2, cells := 0, slots := 0, locals := 43 }
abbrev qw_C_init : List Cond := Cond.code qy_C_init qc_C_init 1 (none) :: qwg
abbrev qr_C_init : Room := { frames := 1, cells := 0, slots := 0, locals := 23 }
abbrev qw_A_fill : List Cond := Cond.code qy_A_fill qc_A_fill 4 (none) :: qwg
abbrev qr_A_fill : Room := { frames := 0, cells := 0, slots := 0, locals := 0 }
abbrev qw_E_init : List Cond := Cond.code qy_E_init qc_E_init 1 (none) :: qwg
abbrev qr_E_init : Room := { frames := 3, cells := 0, slots := 0, locals := 52 }
abbrev qw_B_init : List Cond := Cond.code qy_B_init qc_B_init 1 (none) :: qwg
abbrev qr_B_init : Room := { frames := 2, cells := 0, slots := 0, locals := 32 }
abbrev qw_Y_init : List Cond := Cond.code qy_Y_init qc_Y_init 1 (none) :: qwg
abbrev qr_Y_init : Room := { frames := 1, cells := 0, slots := 0, locals := 12 }
abbrev qw_P_init : List Cond := Cond.code qy_P_init qc_P_init 1 (none) :: qwg
abbrev qr_P_init : Room := { frames := 1, cells := 0, slots := 0, locals := 12 }
abbrev qw_T_init : List Cond := Cond.code qy_T_init qc_T_init 1 (none) :: qwg
abbrev qr_T_init : Room := { frames := 1, cells := 0, slots := 0, locals := 23 }
abbrev qw_X_add : List Cond := Cond.code qy_X_add qc_X_add 3 (some .int) :: qwg
abbrev qr_X_add : Room := { frames := 1, cells := 0, slots := 0, locals := 22 }
abbrev qw_X_isBelow : List Cond := Cond.code qy_X_isBelow qc_X_isBelow 2 (some .boolean) :: qwg
abbrev qr_X_isBelow : Room := { frames := 0, cells := 0, slots := 0, locals := 0 }
abbrev qw_C_append : List Cond := Cond.code qy_C_append qc_C_append 3 (some .int) :: qwg
abbrev qr_C_append : Room := { frames := 0, cells := 0, slots := 0, locals := 0 }
abbrev qw_X_clear : List Cond := Cond.code qy_X_clear qc_X_clear 1 (none) :: qwg
abbrev qr_X_clear : Room := { frames := 2, cells := 0, slots := 0, locals := 43 }
abbrev qw_C_wipe : List Cond := Cond.code qy_C_wipe qc_C_wipe 1 (none) :: qwg
abbrev qr_C_wipe : Room := { frames := 1, cells := 0, slots := 0, locals := 23 }
abbrev qw_X_start : List Cond := Cond.code qy_X_start qc_X_start 3 (some .boolean) :: qwg
abbrev qr_X_start : Room := { frames := 1, cells := 0, slots := 0, locals := 21 }
abbrev qw_X_explore : List Cond := Cond.code qy_X_explore qc_X_explore 3 (some .int) :: qwg
abbrev qr_X_explore : Room := { frames := 6, cells := 0, slots := 0, locals := 148 }
abbrev qw_E_forget : List Cond := Cond.code qy_E_forget qc_E_forget 1 (none) :: qwg
abbrev qr_E_forget : Room := { frames := 2, cells := 0, slots := 0, locals := 43 }
abbrev qw_B_forget : List Cond := Cond.code qy_B_forget qc_B_forget 1 (none) :: qwg
abbrev qr_B_forget : Room := { frames := 1, cells := 0, slots := 0, locals := 23 }
abbrev qw_Y_forget : List Cond := Cond.code qy_Y_forget qc_Y_forget 1 (none) :: qwg
abbrev qr_Y_forget : Room := { frames := 0, cells := 0, slots := 0, locals := 0 }
abbrev qw_P_forget : List Cond := Cond.code qy_P_forget qc_P_forget 1 (none) :: qwg
abbrev qr_P_forget : Room := { frames := 1, cells := 0, slots := 0, locals := 23 }
abbrev qw_T_forget : List Cond := Cond.code qy_T_forget qc_T_forget 1 (none) :: qwg
abbrev qr_T_forget : Room := { frames := 1, cells := 0, slots := 0, locals := 23 }
abbrev qw_X_firstState : List Cond := Cond.code qy_X_firstState qc_X_firstState 1 (some .int) :: qwg
abbrev qr_X_firstState : Room := { frames := 0, cells := 0, slots := 0, locals := 0 }
abbrev qw_E_surveySingles : List Cond := Cond.code qy_E_surveySingles qc_E_surveySingles 4 (some .boolean) :: qwg
abbrev qr_E_surveySingles : Room := { frames := 5, cells := 0, slots := 0, locals := 124 }
abbrev qw_B_fill : List Cond := Cond.code qy_B_fill qc_B_fill 8 (some .boolean) :: qwg
abbrev qr_B_fill : Room := { frames := 4, cells := 0, slots := 0, locals := 97 }
abbrev qw_K_transact : List Cond := Cond.code qy_K_transact qc_K_transact 6 (none) :: qwg
abbrev qr_K_transact : Room := { frames := 3, cells := 0, slots := 0, locals := 72 }
abbrev qw_K_begin : List Cond := Cond.code qy_K_begin qc_K_begin 4 (none) :: qwg
abbrev qr_K_begin : Room := { frames := 1, cells := 0, slots := 0, locals := 23 }
abbrev qw_K_keepStep : List Cond := Cond.code qy_K_keepStep qc_K_keepStep 2 (none) :: qwg
abbrev qr_K_keepStep : Room := { frames := 0, cells := 0, slots := 0, locals := 0 }
abbrev qw_K_perform : List Cond := Cond.code qy_K_perform qc_K_perform 6 (none) :: qwg
abbrev qr_K_perform : Room := { frames := 2, cells := 0, slots := 0, locals := 47 }
abbrev qw_K_faultOf : List Cond := Cond.code qy_K_faultOf qc_K_faultOf 4 (some .int) :: qwg
abbrev qr_K_faultOf : Room := { frames := 1, cells := 0, slots := 0, locals := 21 }
abbrev qw_K_wordUnder : List Cond := Cond.code qy_K_wordUnder qc_K_wordUnder 2 (some .int) :: qwg
abbrev qr_K_wordUnder : Room := { frames := 0, cells := 0, slots := 0, locals := 0 }
abbrev qw_K_note : List Cond := Cond.code qy_K_note qc_K_note 2 (none) :: qwg
abbrev qr_K_note : Room := { frames := 0, cells := 0, slots := 0, locals := 0 }
abbrev qw_K_look : List Cond := Cond.code qy_K_look qc_K_look 5 (none) :: qwg
abbrev qr_K_look : Room := { frames := 1, cells := 0, slots := 0, locals := 21 }
abbrev qw_K_wordPut : List Cond := Cond.code qy_K_wordPut qc_K_wordPut 5 (some .int) :: qwg
abbrev qr_K_wordPut : Room := { frames := 1, cells := 0, slots := 0, locals := 21 }
abbrev qw_X_wordOf : List Cond := Cond.code qy_X_wordOf qc_X_wordOf 2 (some .int) :: qwg
abbrev qr_X_wordOf : Room := { frames := 0, cells := 0, slots := 0, locals := 0 }
abbrev qw_K_send : List Cond := Cond.code qy_K_send qc_K_send 2 (some .int) :: qwg
abbrev qr_K_send : Room := { frames := 0, cells := 0, slots := 0, locals := 0 }
abbrev qw_K_act : List Cond := Cond.code qy_K_act qc_K_act 5 (none) :: qwg
abbrev qr_K_act : Room := { frames := 1, cells := 0, slots := 0, locals := 23 }
abbrev qw_K_swap : List Cond := Cond.code qy_K_swap qc_K_swap 4 (none) :: qwg
abbrev qr_K_swap : Room := { frames := 0, cells := 0, slots := 0, locals := 0 }
abbrev qw_X_withWord : List Cond := Cond.code qy_X_withWord qc_X_withWord 3 (some .int) :: qwg
abbrev qr_X_withWord : Room := { frames := 0, cells := 0, slots := 0, locals := 0 }
abbrev qw_Y_numberOf : List Cond := Cond.code qy_Y_numberOf qc_Y_numberOf 3 (some .int) :: qwg
abbrev qr_Y_numberOf : Room := { frames := 1, cells := 0, slots := 0, locals := 24 }
abbrev qw_Y_isWayOf : List Cond := Cond.code qy_Y_isWayOf qc_Y_isWayOf 5 (some .boolean) :: qwg
abbrev qr_Y_isWayOf : Room := { frames := 0, cells := 0, slots := 0, locals := 0 }
abbrev qw_Y_keep : List Cond := Cond.code qy_Y_keep qc_Y_keep 5 (none) :: qwg
abbrev qr_Y_keep : Room := { frames := 0, cells := 0, slots := 0, locals := 0 }
abbrev qw_E_countFollowers : List Cond := Cond.code qy_E_countFollowers qc_E_countFollowers 7 (some .boolean) :: qwg
abbrev qr_E_countFollowers : Room := { frames := 2, cells := 0, slots := 0, locals := 50 }
abbrev qw_P_meet : List Cond := Cond.code qy_P_meet qc_P_meet 6 (some .int) :: qwg
abbrev qr_P_meet : Room := { frames := 1, cells := 0, slots := 0, locals := 25 }
abbrev qw_P_open : List Cond := Cond.code qy_P_open qc_P_open 6 (some .int) :: qwg
abbrev qr_P_open : Room := { frames := 0, cells := 0, slots := 0, locals := 0 }
abbrev qw_T_note : List Cond := Cond.code qy_T_note qc_T_note 8 (none) :: qwg
abbrev qr_T_note : Room := { frames := 0, cells := 0, slots := 0, locals := 0 }
abbrev qw_E_surveyPairs : List Cond := Cond.code qy_E_surveyPairs qc_E_surveyPairs 5 (some .boolean) :: qwg
abbrev qr_E_surveyPairs : Room := { frames := 5, cells := 0, slots := 0, locals := 124 }
abbrev qw_B_isFollowedLikeAnEarlierOne : List Cond := Cond.code qy_B_isFollowedLikeAnEarlierOne qc_B_isFollowedLikeAnEarlierOne 3 (some .boolean) :: qwg
abbrev qr_B_isFollowedLikeAnEarlierOne : Room := { frames := 2, cells := 0, slots := 0, locals := 43 }
abbrev qw_B_areFollowedAlike : List Cond := Cond.code qy_B_areFollowedAlike qc_B_areFollowedAlike 3 (some .boolean) :: qwg
abbrev qr_B_areFollowedAlike : Room := { frames := 1, cells := 0, slots := 0, locals := 21 }
abbrev qw_B_isDestroyed : List Cond := Cond.code qy_B_isDestroyed qc_B_isDestroyed 2 (some .boolean) :: qwg
abbrev qr_B_isDestroyed : Room := { frames := 0, cells := 0, slots := 0, locals := 0 }
abbrev qw_E_countFollowersOfAllAlike : List Cond := Cond.code qy_E_countFollowersOfAllAlike qc_E_countFollowersOfAllAlike 3 (some .boolean) :: qwg
abbrev qr_E_countFollowersOfAllAlike : Room := { frames := 3, cells := 0, slots := 0, locals := 76 }
abbrev qw_E_conclude : List Cond := Cond.code qy_E_conclude qc_E_conclude 2 (some .int) :: qwg
abbrev qr_E_conclude : Room := { frames := 3, cells := 0, slots := 0, locals := 63 }
abbrev qw_P_putInOrder : List Cond := Cond.code qy_P_putInOrder qc_P_putInOrder 4 (none) :: qwg
abbrev qr_P_putInOrder : Room := { frames := 0, cells := 0, slots := 0, locals := 0 }
abbrev qw_X_inputs : List Cond := Cond.code qy_X_inputs qc_X_inputs 3 (some .int) :: qwg
abbrev qr_X_inputs : Room := { frames := 2, cells := 0, slots := 0, locals := 42 }
abbrev qw_P_rowOf : List Cond := Cond.code qy_P_rowOf qc_P_rowOf 2 (some .int) :: qwg
abbrev qr_P_rowOf : Room := { frames := 1, cells := 0, slots := 0, locals := 21 }
abbrev qw_X_witness : List Cond := Cond.code qy_X_witness qc_X_witness 3 (some .int) :: qwg
abbrev qr_X_witness : Room := { frames := 2, cells := 0, slots := 0, locals := 42 }
abbrev qw_X_end : List Cond := Cond.code qy_X_end qc_X_end 4 (some .int) :: qwg
abbrev qr_X_end : Room := { frames := 2, cells := 0, slots := 0, locals := 42 }
abbrev qw_E_waysOf : List Cond := Cond.code qy_E_waysOf qc_E_waysOf 2 (some (.object "ContractProbe$Ways")) :: qwg
abbrev qr_E_waysOf : Room := { frames := 0, cells := 0, slots := 0, locals := 0 }
abbrev qw_E_wayOn : List Cond := Cond.code qy_E_wayOn qc_E_wayOn 3 (some .int) :: qwg
abbrev qr_E_wayOn : Room := { frames := 0, cells := 0, slots := 0, locals := 0 }
abbrev qw_X_step : List Cond := Cond.code qy_X_step qc_X_step 5 (some .int) :: qwg
abbrev qr_X_step : Room := { frames := 2, cells := 0, slots := 0, locals := 43 }
abbrev qw_Y_stepOf : List Cond := Cond.code qy_Y_stepOf qc_Y_stepOf 3 (some .int) :: qwg
abbrev qr_Y_stepOf : Room := { frames := 1, cells := 0, slots := 0, locals := 21 }
abbrev qw_X_left : List Cond := Cond.code qy_X_left qc_X_left 6 (some .int) :: qwg
abbrev qr_X_left : Room := { frames := 2, cells := 0, slots := 0, locals := 42 }
abbrev qw_X_finding : List Cond := Cond.code qy_X_finding qc_X_finding 3 (some .int) :: qwg
abbrev qr_X_finding : Room := { frames := 1, cells := 0, slots := 0, locals := 22 }
abbrev qw_T_leastOf : List Cond := Cond.code qy_T_leastOf qc_T_leastOf 3 (some .int) :: qwg
abbrev qr_T_leastOf : Room := { frames := 0, cells := 0, slots := 0, locals := 0 }
abbrev qw_X_risk : List Cond := Cond.code qy_X_risk qc_X_risk 5 (some .int) :: qwg
abbrev qr_X_risk : Room := { frames := 2, cells := 0, slots := 0, locals := 42 }
abbrev qw_T_countOf : List Cond := Cond.code qy_T_countOf qc_T_countOf 4 (some .int) :: qwg
abbrev qr_T_countOf : Room := { frames := 0, cells := 0, slots := 0, locals := 0 }
abbrev qw_X_replay : List Cond := Cond.code qy_X_replay qc_X_replay 5 (some .int) :: qwg
abbrev qr_X_replay : Room := { frames := 4, cells := 0, slots := 0, locals := 97 }
abbrev qw_X_keepReplay : List Cond := Cond.code qy_X_keepReplay qc_X_keepReplay 2 (none) :: qwg
abbrev qr_X_keepReplay : Room := { frames := 1, cells := 0, slots := 0, locals := 21 }
abbrev qw_X_replayed : List Cond := Cond.code qy_X_replayed qc_X_replayed 2 (some .int) :: qwg
abbrev qr_X_replayed : Room := { frames := 1, cells := 0, slots := 0, locals := 21 }
abbrev qw_M_init : List Cond := Cond.code qy_M_init qc_M_init 1 (none) :: qwg
abbrev qr_M_init : Room := { frames := 1, cells := 0, slots := 0, locals := 12 }
abbrev qw_M_add : List Cond := Cond.code qy_M_add qc_M_add 3 (some .int) :: qwg
abbrev qr_M_add : Room := { frames := 0, cells := 0, slots := 0, locals := 0 }
abbrev qw_M_clear : List Cond := Cond.code qy_M_clear qc_M_clear 1 (none) :: qwg
abbrev qr_M_clear : Room := { frames := 0, cells := 0, slots := 0, locals := 0 }
abbrev qw_M_start : List Cond := Cond.code qy_M_start qc_M_start 3 (some .boolean) :: qwg
abbrev qr_M_start : Room := { frames := 0, cells := 0, slots := 0, locals := 0 }
abbrev qw_M_explore : List Cond := Cond.code qy_M_explore qc_M_explore 5 (some .int) :: qwg
abbrev qr_M_explore : Room := { frames := 5, cells := 0, slots := 0, locals := 115 }
abbrev qw_M_perform : List Cond := Cond.code qy_M_perform qc_M_perform 4 (none) :: qwg
abbrev qr_M_perform : Room := { frames := 4, cells := 0, slots := 0, locals := 92 }
abbrev qw_M_transact : List Cond := Cond.code qy_M_transact qc_M_transact 5 (none) :: qwg
abbrev qr_M_transact : Room := { frames := 3, cells := 0, slots := 0, locals := 68 }
abbrev qw_M_faults : List Cond := Cond.code qy_M_faults qc_M_faults 2 (some .boolean) :: qwg
abbrev qr_M_faults : Room := { frames := 1, cells := 0, slots := 0, locals := 22 }
abbrev qw_M_cost : List Cond := Cond.code qy_M_cost qc_M_cost 1 (some .int) :: qwg
abbrev qr_M_cost : Room := { frames := 0, cells := 0, slots := 0, locals := 0 }
abbrev qw_M_takes : List Cond := Cond.code qy_M_takes qc_M_takes 1 (some .int) :: qwg
abbrev qr_M_takes : Room := { frames := 0, cells := 0, slots := 0, locals := 0 }
abbrev qw_M_puts : List Cond := Cond.code qy_M_puts qc_M_puts 1 (some .int) :: qwg
abbrev qr_M_puts : Room := { frames := 0, cells := 0, slots := 0, locals := 0 }
abbrev qw_M_markOf : List Cond := Cond.code qy_M_markOf qc_M_markOf 3 (some .int) :: qwg
abbrev qr_M_markOf : Room := { frames := 0, cells := 0, slots := 0, locals := 0 }
abbrev qw_M_note : List Cond := Cond.code qy_M_note qc_M_note 2 (none) :: qwg
abbrev qr_M_note : Room := { frames := 0, cells := 0, slots := 0, locals := 0 }
abbrev qw_M_act : List Cond := Cond.code qy_M_act qc_M_act 6 (some .int) :: qwg
abbrev qr_M_act : Room := { frames := 2, cells := 0, slots := 0, locals := 43 }
abbrev qw_M_overflows : List Cond := Cond.code qy_M_overflows qc_M_overflows 3 (some .boolean) :: qwg
abbrev qr_M_overflows : Room := { frames := 0, cells := 0, slots := 0, locals := 0 }
abbrev qw_M_give : List Cond := Cond.code qy_M_give qc_M_give 2 (none) :: qwg
abbrev qr_M_give : Room := { frames := 0, cells := 0, slots := 0, locals := 0 }
abbrev qw_M_swap : List Cond := Cond.code qy_M_swap qc_M_swap 3 (none) :: qwg
abbrev qr_M_swap : Room := { frames := 0, cells := 0, slots := 0, locals := 0 }
abbrev qw_M_send : List Cond := Cond.code qy_M_send qc_M_send 3 (none) :: qwg
abbrev qr_M_send : Room := { frames := 1, cells := 0, slots := 0, locals := 21 }
abbrev qw_M_worked : List Cond := Cond.code qy_M_worked qc_M_worked 3 (some .int) :: qwg
abbrev qr_M_worked : Room := { frames := 0, cells := 0, slots := 0, locals := 0 }
abbrev qw_M_goes : List Cond := Cond.code qy_M_goes qc_M_goes 4 (some .boolean) :: qwg
abbrev qr_M_goes : Room := { frames := 0, cells := 0, slots := 0, locals := 0 }
abbrev qw_M_open : List Cond := Cond.code qy_M_open qc_M_open 5 (none) :: qwg
abbrev qr_M_open : Room := { frames := 0, cells := 0, slots := 0, locals := 0 }
abbrev qw_M_count : List Cond := Cond.code qy_M_count qc_M_count 4 (none) :: qwg
abbrev qr_M_count : Room := { frames := 0, cells := 0, slots := 0, locals := 0 }
abbrev qw_M_inputs : List Cond := Cond.code qy_M_inputs qc_M_inputs 2 (some .int) :: qwg
abbrev qr_M_inputs : Room := { frames := 1, cells := 0, slots := 0, locals := 21 }
abbrev qw_M_isPath : List Cond := Cond.code qy_M_isPath qc_M_isPath 2 (some .boolean) :: qwg
abbrev qr_M_isPath : Room := { frames := 0, cells := 0, slots := 0, locals := 0 }
abbrev qw_M_witness : List Cond := Cond.code qy_M_witness qc_M_witness 2 (some .int) :: qwg
abbrev qr_M_witness : Room := { frames := 1, cells := 0, slots := 0, locals := 21 }
abbrev qw_M_end : List Cond := Cond.code qy_M_end qc_M_end 3 (some .int) :: qwg
abbrev qr_M_end : Room := { frames := 1, cells := 0, slots := 0, locals := 21 }
abbrev qw_M_step : List Cond := Cond.code qy_M_step qc_M_step 4 (some .int) :: qwg
abbrev qr_M_step : Room := { frames := 1, cells := 0, slots := 0, locals := 21 }
abbrev qw_M_left : List Cond := Cond.code qy_M_left qc_M_left 3 (some .int) :: qwg
abbrev qr_M_left : Room := { frames := 1, cells := 0, slots := 0, locals := 21 }
abbrev qw_M_finding : List Cond := Cond.code qy_M_finding qc_M_finding 3 (some .int) :: qwg
abbrev qr_M_finding : Room := { frames := 0, cells := 0, slots := 0, locals := 0 }
abbrev qw_M_risk : List Cond := Cond.code qy_M_risk qc_M_risk 4 (some .int) :: qwg
abbrev qr_M_risk : Room := { frames := 1, cells := 0, slots := 0, locals := 21 }
abbrev qw_M_replay : List Cond := Cond.code qy_M_replay qc_M_replay 4 (some .int) :: qwg
abbrev qr_M_replay : Room := { frames := 5, cells := 0, slots := 0, locals := 115 }
abbrev qw_M_replayed : List Cond := Cond.code qy_M_replayed qc_M_replayed 2 (some .int) :: qwg
abbrev qr_M_replayed : Room := { frames := 0, cells := 0, slots := 0, locals := 0 }
set_option maxRecDepth 100000 in
theorem qs_C_25 : ew_CS qS qR_C qwg 25 qy_A_fill qc_A_fill 4 (none) qw_A_fill 2 := ⟨⟨⟨_, rfl⟩, wg_good _ (wg_t 33 rfl rfl), wg_t 4 rfl rfl, Or.inl (wg_t 31 rfl rfl), by decide +kernel, by decide +kernel, by decide +kernel⟩, wg_t 32 rfl rfl⟩
set_option maxRecDepth 100000 in
theorem qf_C_9 : ew_F qS qR_C qwg 9 2 0 := ⟨qR_C, qT_C, 4, qt_C, rfl, by decide, qu_C, Or.inl (wg_t 34 rfl rfl), qk_C, qn_C⟩
set_option maxRecDepth 100000 in
theorem qf_K_71 : ew_F qS qR_K qwg 71 2 0 := ⟨qR_C, qT_C, 4, qt_C, rfl, by decide, qu_C, Or.inr ⟨"ContractProbe", wg_n 35 rfl rfl⟩, qk_C, qn_C⟩
set_option maxRecDepth 100000 in
theorem qf_C_15 : ew_F qS qR_C qwg 15 2 1 := ⟨qR_C, qT_C, 4, qt_C, rfl, by decide, qu_C, Or.inl (wg_t 36 rfl rfl), qk_C, qn_C⟩
set_option maxRecDepth 100000 in
theorem qf_K_74 : ew_F qS qR_K qwg 74 2 1 := ⟨qR_C, qT_C, 4, qt_C, rfl, by decide, qu_C, Or.inr ⟨"ContractProbe", wg_n 37 rfl rfl⟩, qk_C, qn_C⟩
set_option maxRecDepth 100000 in
theorem qf_C_18 : ew_F qS qR_C qwg 18 2 2 := ⟨qR_C, qT_C, 4, qt_C, rfl, by decide, qu_C, Or.inl (wg_t 38 rfl rfl), qk_C, qn_C⟩
set_option maxRecDepth 100000 in
theorem qf_K_118 : ew_F qS qR_K qwg 118 2 2 := ⟨qR_C, qT_C, 4, qt_C, rfl, by decide, qu_C, Or.inr ⟨"ContractProbe", wg_n 39 rfl rfl⟩, qk_C, qn_C⟩
set_option maxRecDepth 100000 in
theorem qf_C_21 : ew_F qS qR_C qwg 21 2 3 := ⟨qR_C, qT_C, 4, qt_C, rfl, by decide, qu_C, Or.inl (wg_t 40 rfl rfl), qk_C, qn_C⟩
set_option maxRecDepth 100000 in
theorem qf_K_64 : ew_F qS qR_K qwg 64 2 3 := ⟨qR_C, qT_C, 4, qt_C, rfl, by decide, qu_C, Or.inr ⟨"ContractProbe", wg_n 41 rfl rfl⟩, qk_C, qn_C⟩
set_option maxRecDepth 100000 in
theorem qf_K_12 : ew_F qS qR_K qwg 12 1 0 := ⟨qR_K, qT_K, 14, qt_K, rfl, by decide, qu_K, Or.inl (wg_t 52 rfl rfl), qk_K, qn_K⟩
set_option maxRecDepth 100000 in
theorem qf_X_42 : ew_F qS qR_X qwg 42 1 0 := ⟨qR_K, qT_K, 14, qt_K, rfl, by decide, qu_K, Or.inr ⟨"ContractProbe", wg_n 53 rfl rfl⟩, qk_K, qn_K⟩
set_option maxRecDepth 100000 in
theorem qf_K_18 : ew_F qS qR_K qwg 18 1 1 := ⟨qR_K, qT_K, 14, qt_K, rfl, by decide, qu_K, Or.inl (wg_t 54 rfl rfl), qk_K, qn_K⟩
set_option maxRecDepth 100000 in
theorem qf_K_22 : ew_F qS qR_K qwg 22 1 2 := ⟨qR_K, qT_K, 14, qt_K, rfl, by decide, qu_K, Or.inl (wg_t 55 rfl rfl), qk_K, qn_K⟩
set_option maxRecDepth 100000 in
theorem qf_X_145 : ew_F qS qR_X qwg 145 1 2 := ⟨qR_K, qT_K, 14, qt_K, rfl, by decide, qu_K, Or.inr ⟨"ContractProbe", wg_n 56 rfl rfl⟩, qk_K, qn_K⟩
set_option maxRecDepth 100000 in
theorem qf_K_26 : ew_F qS qR_K qwg 26 1 3 := ⟨qR_K, qT_K, 14, qt_K, rfl, by decide, qu_K, Or.inl (wg_t 57 rfl rfl), qk_K, qn_K⟩
set_option maxRecDepth 100000 in
theorem qf_B_47 : ew_F qS qR_B qwg 47 1 3 := ⟨qR_K, qT_K, 14, qt_K, rfl, by decide, qu_K, Or.inr ⟨"ContractProbe", wg_n 58 rfl rfl⟩, qk_K, qn_K⟩
set_option maxRecDepth 100000 in
theorem qf_X_133 : ew_F qS qR_X qwg 133 1 3 := ⟨qR_K, qT_K, 14, qt_K, rfl, by decide, qu_K, Or.inr ⟨"ContractProbe", wg_n 59 rfl rfl⟩, qk_K, qn_K⟩
set_option maxRecDepth 100000 in
theorem qf_K_29 : ew_F qS qR_K qwg 29 1 4 := ⟨qR_K, qT_K, 14, qt_K, rfl, by decide, qu_K, Or.inl (wg_t 60 rfl rfl), qk_K, qn_K⟩
set_option maxRecDepth 100000 in
theorem qf_X_142 : ew_F qS qR_X qwg 142 1 4 := ⟨qR_K, qT_K, 14, qt_K, rfl, by decide, qu_K, Or.inr ⟨"ContractProbe", wg_n 61 rfl rfl⟩, qk_K, qn_K⟩
set_option maxRecDepth 100000 in
theorem qf_K_32 : ew_F qS qR_K qwg 32 1 5 := ⟨qR_K, qT_K, 14, qt_K, rfl, by decide, qu_K, Or.inl (wg_t 62 rfl rfl), qk_K, qn_K⟩
set_option maxRecDepth 100000 in
theorem qf_K_35 : ew_F qS qR_K qwg 35 1 6 := ⟨qR_K, qT_K, 14, qt_K, rfl, by decide, qu_K, Or.inl (wg_t 63 rfl rfl), qk_K, qn_K⟩
set_option maxRecDepth 100000 in
theorem qf_Y_45 : ew_F qS qR_Y qwg 45 1 6 := ⟨qR_K, qT_K, 14, qt_K, rfl, by decide, qu_K, Or.inr ⟨"ContractProbe", wg_n 64 rfl rfl⟩, qk_K, qn_K⟩
set_option maxRecDepth 100000 in
theorem qf_X_136 : ew_F qS qR_X qwg 136 1 6 := ⟨qR_K, qT_K, 14, qt_K, rfl, by decide, qu_K, Or.inr ⟨"ContractProbe", wg_n 65 rfl rfl⟩, qk_K, qn_K⟩
set_option maxRecDepth 100000 in
theorem qf_K_38 : ew_F qS qR_K qwg 38 1 7 := ⟨qR_K, qT_K, 14, qt_K, rfl, by decide, qu_K, Or.inl (wg_t 66 rfl rfl), qk_K, qn_K⟩
set_option maxRecDepth 100000 in
theorem qf_K_41 : ew_F qS qR_K qwg 41 1 8 := ⟨qR_K, qT_K, 14, qt_K, rfl, by decide, qu_K, Or.inl (wg_t 67 rfl rfl), qk_K, qn_K⟩
set_option maxRecDepth 100000 in
theorem qf_K_44 : ew_F qS qR_K qwg 44 1 9 := ⟨qR_K, qT_K, 14, qt_K, rfl, by decide, qu_K, Or.inl (wg_t 68 rfl rfl), qk_K, qn_K⟩
set_option maxRecDepth 100000 in
theorem qf_K_48 : ew_F qS qR_K qwg 48 1 10 := ⟨qR_K, qT_K, 14, qt_K, rfl, by decide, qu_K, Or.inl (wg_t 69 rfl rfl), qk_K, qn_K⟩
set_option maxRecDepth 100000 in
theorem qf_Y_51 : ew_F qS qR_Y qwg 51 1 10 := ⟨qR_K, qT_K, 14, qt_K, rfl, by decide, qu_K, Or.inr ⟨"ContractProbe", wg_n 70 rfl rfl⟩, qk_K, qn_K⟩
set_option maxRecDepth 100000 in
theorem qf_K_51 : ew_F qS qR_K qwg 51 1 11 := ⟨qR_K, qT_K, 14, qt_K, rfl, by decide, qu_K, Or.inl (wg_t 71 rfl rfl), qk_K, qn_K⟩
set_option maxRecDepth 100000 in
theorem qf_Y_48 : ew_F qS qR_Y qwg 48 1 11 := ⟨qR_K, qT_K, 14, qt_K, rfl, by decide, qu_K, Or.inr ⟨"ContractProbe", wg_n 72 rfl rfl⟩, qk_K, qn_K⟩
set_option maxRecDepth 100000 in
theorem qf_K_54 : ew_F qS qR_K qwg 54 1 12 := ⟨qR_K, qT_K, 14, qt_K, rfl, by decide, qu_K, Or.inl (wg_t 73 rfl rfl), qk_K, qn_K⟩
set_option maxRecDepth 100000 in
theorem qf_Y_40 : ew_F qS qR_Y qwg 40 1 12 := ⟨qR_K, qT_K, 14, qt_K, rfl, by decide, qu_K, Or.inr ⟨"ContractProbe", wg_n 74 rfl rfl⟩, qk_K, qn_K⟩
set_option maxRecDepth 100000 in
theorem qf_K_57 : ew_F qS qR_K qwg 57 1 13 := ⟨qR_K, qT_K, 14, qt_K, rfl, by decide, qu_K, Or.inl (wg_t 75 rfl rfl), qk_K, qn_K⟩
set_option maxRecDepth 100000 in
theorem qf_B_51 : ew_F qS qR_B qwg 51 1 13 := ⟨qR_K, qT_K, 14, qt_K, rfl, by decide, qu_K, Or.inr ⟨"ContractProbe", wg_n 76 rfl rfl⟩, qk_K, qn_K⟩
set_option maxRecDepth 100000 in
theorem qf_Y_9 : ew_F qS qR_Y qwg 9 5 0 := ⟨qR_Y, qT_Y, 5, qt_Y, rfl, by decide, qu_Y, Or.inl (wg_t 124 rfl rfl), qk_Y, qn_Y⟩
set_option maxRecDepth 100000 in
theorem qf_Y_15 : ew_F qS qR_Y qwg 15 5 1 := ⟨qR_Y, qT_Y, 5, qt_Y, rfl, by decide, qu_Y, Or.inl (wg_t 125 rfl rfl), qk_Y, qn_Y⟩
set_option maxRecDepth 100000 in
theorem qf_Y_18 : ew_F qS qR_Y qwg 18 5 2 := ⟨qR_Y, qT_Y, 5, qt_Y, rfl, by decide, qu_Y, Or.inl (wg_t 126 rfl rfl), qk_Y, qn_Y⟩
set_option maxRecDepth 100000 in
theorem qf_Y_21 : ew_F qS qR_Y qwg 21 5 3 := ⟨qR_Y, qT_Y, 5, qt_Y, rfl, by decide, qu_Y, Or.inl (wg_t 127 rfl rfl), qk_Y, qn_Y⟩
set_option maxRecDepth 100000 in
theorem qf_B_52 : ew_F qS qR_B qwg 52 5 3 := ⟨qR_Y, qT_Y, 5, qt_Y, rfl, by decide, qu_Y, Or.inr ⟨"ContractProbe", wg_n 128 rfl rfl⟩, qk_Y, qn_Y⟩
set_option maxRecDepth 100000 in
theorem qf_X_96 : ew_F qS qR_X qwg 96 5 3 := ⟨qR_Y, qT_Y, 5, qt_Y, rfl, by decide, qu_Y, Or.inr ⟨"ContractProbe", wg_n 129 rfl rfl⟩, qk_Y, qn_Y⟩
set_option maxRecDepth 100000 in
theorem qf_Y_24 : ew_F qS qR_Y qwg 24 5 4 := ⟨qR_Y, qT_Y, 5, qt_Y, rfl, by decide, qu_Y, Or.inl (wg_t 130 rfl rfl), qk_Y, qn_Y⟩
set_option maxRecDepth 100000 in
theorem qf_B_12 : ew_F qS qR_B qwg 12 4 0 := ⟨qR_B, qT_B, 4, qt_B, rfl, by decide, qu_B, Or.inl (wg_t 142 rfl rfl), qk_B, qn_B⟩
set_option maxRecDepth 100000 in
theorem qf_E_72 : ew_F qS qR_E qwg 72 4 0 := ⟨qR_B, qT_B, 4, qt_B, rfl, by decide, qu_B, Or.inr ⟨"ContractProbe", wg_n 143 rfl rfl⟩, qk_B, qn_B⟩
set_option maxRecDepth 100000 in
theorem qf_B_18 : ew_F qS qR_B qwg 18 4 1 := ⟨qR_B, qT_B, 4, qt_B, rfl, by decide, qu_B, Or.inl (wg_t 144 rfl rfl), qk_B, qn_B⟩
set_option maxRecDepth 100000 in
theorem qf_E_86 : ew_F qS qR_E qwg 86 4 1 := ⟨qR_B, qT_B, 4, qt_B, rfl, by decide, qu_B, Or.inr ⟨"ContractProbe", wg_n 145 rfl rfl⟩, qk_B, qn_B⟩
set_option maxRecDepth 100000 in
theorem qf_B_22 : ew_F qS qR_B qwg 22 4 2 := ⟨qR_B, qT_B, 4, qt_B, rfl, by decide, qu_B, Or.inl (wg_t 146 rfl rfl), qk_B, qn_B⟩
set_option maxRecDepth 100000 in
theorem qf_E_55 : ew_F qS qR_E qwg 55 4 2 := ⟨qR_B, qT_B, 4, qt_B, rfl, by decide, qu_B, Or.inr ⟨"ContractProbe", wg_n 147 rfl rfl⟩, qk_B, qn_B⟩
set_option maxRecDepth 100000 in
theorem qf_B_25 : ew_F qS qR_B qwg 25 4 3 := ⟨qR_B, qT_B, 4, qt_B, rfl, by decide, qu_B, Or.inl (wg_t 148 rfl rfl), qk_B, qn_B⟩
set_option maxRecDepth 100000 in
theorem qf_E_93 : ew_F qS qR_E qwg 93 4 3 := ⟨qR_B, qT_B, 4, qt_B, rfl, by decide, qu_B, Or.inr ⟨"ContractProbe", wg_n 149 rfl rfl⟩, qk_B, qn_B⟩
set_option maxRecDepth 100000 in
theorem qf_P_9 : ew_F qS qR_P qwg 9 6 0 := ⟨qR_P, qT_P, 9, qt_P, rfl, by decide, qu_P, Or.inl (wg_t 165 rfl rfl), qk_P, qn_P⟩
set_option maxRecDepth 100000 in
theorem qf_P_15 : ew_F qS qR_P qwg 15 6 1 := ⟨qR_P, qT_P, 9, qt_P, rfl, by decide, qu_P, Or.inl (wg_t 166 rfl rfl), qk_P, qn_P⟩
set_option maxRecDepth 100000 in
theorem qf_E_79 : ew_F qS qR_E qwg 79 6 1 := ⟨qR_P, qT_P, 9, qt_P, rfl, by decide, qu_P, Or.inr ⟨"ContractProbe", wg_n 167 rfl rfl⟩, qk_P, qn_P⟩
set_option maxRecDepth 100000 in
theorem qf_P_18 : ew_F qS qR_P qwg 18 6 2 := ⟨qR_P, qT_P, 9, qt_P, rfl, by decide, qu_P, Or.inl (wg_t 168 rfl rfl), qk_P, qn_P⟩
set_option maxRecDepth 100000 in
theorem qf_E_76 : ew_F qS qR_E qwg 76 6 2 := ⟨qR_P, qT_P, 9, qt_P, rfl, by decide, qu_P, Or.inr ⟨"ContractProbe", wg_n 169 rfl rfl⟩, qk_P, qn_P⟩
set_option maxRecDepth 100000 in
theorem qf_P_21 : ew_F qS qR_P qwg 21 6 3 := ⟨qR_P, qT_P, 9, qt_P, rfl, by decide, qu_P, Or.inl (wg_t 170 rfl rfl), qk_P, qn_P⟩
set_option maxRecDepth 100000 in
theorem qf_X_83 : ew_F qS qR_X qwg 83 6 3 := ⟨qR_P, qT_P, 9, qt_P, rfl, by decide, qu_P, Or.inr ⟨"ContractProbe", wg_n 171 rfl rfl⟩, qk_P, qn_P⟩
set_option maxRecDepth 100000 in
theorem qf_P_24 : ew_F qS qR_P qwg 24 6 4 := ⟨qR_P, qT_P, 9, qt_P, rfl, by decide, qu_P, Or.inl (wg_t 172 rfl rfl), qk_P, qn_P⟩
set_option maxRecDepth 100000 in
theorem qf_X_86 : ew_F qS qR_X qwg 86 6 4 := ⟨qR_P, qT_P, 9, qt_P, rfl, by decide, qu_P, Or.inr ⟨"ContractProbe", wg_n 173 rfl rfl⟩, qk_P, qn_P⟩
set_option maxRecDepth 100000 in
theorem qf_P_27 : ew_F qS qR_P qwg 27 6 5 := ⟨qR_P, qT_P, 9, qt_P, rfl, by decide, qu_P, Or.inl (wg_t 174 rfl rfl), qk_P, qn_P⟩
set_option maxRecDepth 100000 in
theorem qf_X_107 : ew_F qS qR_X qwg 107 6 5 := ⟨qR_P, qT_P, 9, qt_P, rfl, by decide, qu_P, Or.inr ⟨"ContractProbe", wg_n 175 rfl rfl⟩, qk_P, qn_P⟩
set_option maxRecDepth 100000 in
theorem qf_P_30 : ew_F qS qR_P qwg 30 6 6 := ⟨qR_P, qT_P, 9, qt_P, rfl, by decide, qu_P, Or.inl (wg_t 176 rfl rfl), qk_P, qn_P⟩
set_option maxRecDepth 100000 in
theorem qf_X_113 : ew_F qS qR_X qwg 113 6 6 := ⟨qR_P, qT_P, 9, qt_P, rfl, by decide, qu_P, Or.inr ⟨"ContractProbe", wg_n 177 rfl rfl⟩, qk_P, qn_P⟩
set_option maxRecDepth 100000 in
theorem qf_P_33 : ew_F qS qR_P qwg 33 6 7 := ⟨qR_P, qT_P, 9, qt_P, rfl, by decide, qu_P, Or.inl (wg_t 178 rfl rfl), qk_P, qn_P⟩
set_option maxRecDepth 100000 in
theorem qf_P_36 : ew_F qS qR_P qwg 36 6 8 := ⟨qR_P, qT_P, 9, qt_P, rfl, by decide, qu_P, Or.inl (wg_t 179 rfl rfl), qk_P, qn_P⟩
set_option maxRecDepth 100000 in
theorem qf_E_69 : ew_F qS qR_E qwg 69 6 8 := ⟨qR_P, qT_P, 9, qt_P, rfl, by decide, qu_P, Or.inr ⟨"ContractProbe", wg_n 180 rfl rfl⟩, qk_P, qn_P⟩
set_option maxRecDepth 100000 in
theorem qs_T_18 : ew_CS qS qR_T qwg 18 qy_A_fill qc_A_fill 4 (none) qw_A_fill 2 := ⟨⟨⟨_, rfl⟩, wg_good _ (wg_t 33 rfl rfl), wg_t 4 rfl rfl, Or.inl (wg_t 206 rfl rfl), by decide +kernel, by decide +kernel, by decide +kernel⟩, wg_t 32 rfl rfl⟩
set_option maxRecDepth 100000 in
theorem qf_T_9 : ew_F qS qR_T qwg 9 7 0 := ⟨qR_T, qT_T, 2, qt_T, rfl, by decide, qu_T, Or.inl (wg_t 207 rfl rfl), qk_T, qn_T⟩
set_option maxRecDepth 100000 in
theorem qf_T_15 : ew_F qS qR_T qwg 15 7 1 := ⟨qR_T, qT_T, 2, qt_T, rfl, by decide, qu_T, Or.inl (wg_t 208 rfl rfl), qk_T, qn_T⟩
set_option maxRecDepth 100000 in
theorem qf_E_12 : ew_F qS qR_E qwg 12 3 0 := ⟨qR_E, qT_E, 5, qt_E, rfl, by decide, qu_E, Or.inl (wg_t 214 rfl rfl), qk_E, qn_E⟩
set_option maxRecDepth 100000 in
theorem qf_E_18 : ew_F qS qR_E qwg 18 3 1 := ⟨qR_E, qT_E, 5, qt_E, rfl, by decide, qu_E, Or.inl (wg_t 215 rfl rfl), qk_E, qn_E⟩
set_option maxRecDepth 100000 in
theorem qf_E_24 : ew_F qS qR_E qwg 24 3 2 := ⟨qR_E, qT_E, 5, qt_E, rfl, by decide, qu_E, Or.inl (wg_t 216 rfl rfl), qk_E, qn_E⟩
set_option maxRecDepth 100000 in
theorem qf_X_73 : ew_F qS qR_X qwg 73 3 2 := ⟨qR_E, qT_E, 5, qt_E, rfl, by decide, qu_E, Or.inr ⟨"ContractProbe", wg_n 217 rfl rfl⟩, qk_E, qn_E⟩
set_option maxRecDepth 100000 in
theorem qf_E_31 : ew_F qS qR_E qwg 31 3 3 := ⟨qR_E, qT_E, 5, qt_E, rfl, by decide, qu_E, Or.inl (wg_t 218 rfl rfl), qk_E, qn_E⟩
set_option maxRecDepth 100000 in
theorem qf_X_116 : ew_F qS qR_X qwg 116 3 3 := ⟨qR_E, qT_E, 5, qt_E, rfl, by decide, qu_E, Or.inr ⟨"ContractProbe", wg_n 219 rfl rfl⟩, qk_E, qn_E⟩
set_option maxRecDepth 100000 in
theorem qf_E_35 : ew_F qS qR_E qwg 35 3 4 := ⟨qR_E, qT_E, 5, qt_E, rfl, by decide, qu_E, Or.inl (wg_t 220 rfl rfl), qk_E, qn_E⟩
set_option maxRecDepth 100000 in
theorem qf_X_89 : ew_F qS qR_X qwg 89 3 4 := ⟨qR_E, qT_E, 5, qt_E, rfl, by decide, qu_E, Or.inr ⟨"ContractProbe", wg_n 221 rfl rfl⟩, qk_E, qn_E⟩
set_option maxRecDepth 100000 in
theorem qf_X_12 : ew_F qS qR_X qwg 12 0 0 := ⟨qR_X, qT_X, 6, qt_X, rfl, by decide, qu_X, Or.inl (wg_t 233 rfl rfl), qk_X, qn_X⟩
set_option maxRecDepth 100000 in
theorem qf_X_19 : ew_F qS qR_X qwg 19 0 1 := ⟨qR_X, qT_X, 6, qt_X, rfl, by decide, qu_X, Or.inl (wg_t 234 rfl rfl), qk_X, qn_X⟩
set_option maxRecDepth 100000 in
theorem qf_X_23 : ew_F qS qR_X qwg 23 0 2 := ⟨qR_X, qT_X, 6, qt_X, rfl, by decide, qu_X, Or.inl (wg_t 235 rfl rfl), qk_X, qn_X⟩
set_option maxRecDepth 100000 in
theorem qf_X_27 : ew_F qS qR_X qwg 27 0 3 := ⟨qR_X, qT_X, 6, qt_X, rfl, by decide, qu_X, Or.inl (wg_t 236 rfl rfl), qk_X, qn_X⟩
set_option maxRecDepth 100000 in
theorem qf_X_31 : ew_F qS qR_X qwg 31 0 4 := ⟨qR_X, qT_X, 6, qt_X, rfl, by decide, qu_X, Or.inl (wg_t 237 rfl rfl), qk_X, qn_X⟩
set_option maxRecDepth 100000 in
theorem qf_X_35 : ew_F qS qR_X qwg 35 0 5 := ⟨qR_X, qT_X, 6, qt_X, rfl, by decide, qu_X, Or.inl (wg_t 238 rfl rfl), qk_X, qn_X⟩
set_option maxRecDepth 100000 in
theorem qv_L_13 : ew_CV qS qR_L qwg 13 qy_X_add qc_X_add 3 (some .int) qw_X_add 2 := ⟨⟨⟨_, rfl⟩, wg_good _ (wg_t 255 rfl rfl), wg_t 1 rfl rfl, Or.inl (wg_t 252 rfl rfl), by decide +kernel, by decide +kernel, by decide +kernel⟩, wg_t 253 rfl rfl, wg_t 254 rfl rfl⟩
set_option maxRecDepth 100000 in
theorem qs_X_38 : ew_CS qS qR_X qwg 38 qy_X_isBelow qc_X_isBelow 2 (some .boolean) qw_X_isBelow 2 := ⟨⟨⟨_, rfl⟩, wg_good _ (wg_t 258 rfl rfl), wg_t 1 rfl rfl, Or.inl (wg_t 256 rfl rfl), by decide +kernel, by decide +kernel, by decide +kernel⟩, wg_t 257 rfl rfl⟩
set_option maxRecDepth 100000 in
theorem qv_X_46 : ew_CV qS qR_X qwg 46 qy_C_append qc_C_append 3 (some .int) qw_C_append 2 := ⟨⟨⟨_, rfl⟩, wg_good _ (wg_t 262 rfl rfl), wg_t 3 rfl rfl, Or.inl (wg_t 259 rfl rfl), by decide +kernel, by decide +kernel, by decide +kernel⟩, wg_t 260 rfl rfl, wg_t 261 rfl rfl⟩
set_option maxRecDepth 100000 in
theorem qv_L_18 : ew_CV qS qR_L qwg 18 qy_X_clear qc_X_clear 1 (none) qw_X_clear 0 := ⟨⟨⟨_, rfl⟩, wg_good _ (wg_t 266 rfl rfl), wg_t 1 rfl rfl, Or.inl (wg_t 263 rfl rfl), by decide +kernel, by decide +kernel, by decide +kernel⟩, wg_t 264 rfl rfl, wg_t 265 rfl rfl⟩
set_option maxRecDepth 100000 in
theorem qv_X_52 : ew_CV qS qR_X qwg 52 qy_C_wipe qc_C_wipe 1 (none) qw_C_wipe 0 := ⟨⟨⟨_, rfl⟩, wg_good _ (wg_t 270 rfl rfl), wg_t 3 rfl rfl, Or.inl (wg_t 267 rfl rfl), by decide +kernel, by decide +kernel, by decide +kernel⟩, wg_t 268 rfl rfl, wg_t 269 rfl rfl⟩
set_option maxRecDepth 100000 in
theorem qv_L_22 : ew_CV qS qR_L qwg 22 qy_X_start qc_X_start 3 (some .boolean) qw_X_start 2 := ⟨⟨⟨_, rfl⟩, wg_good _ (wg_t 274 rfl rfl), wg_t 1 rfl rfl, Or.inl (wg_t 271 rfl rfl), by decide +kernel, by decide +kernel, by decide +kernel⟩, wg_t 272 rfl rfl, wg_t 273 rfl rfl⟩
set_option maxRecDepth 100000 in
theorem qv_L_27 : ew_CV qS qR_L qwg 27 qy_X_explore qc_X_explore 3 (some .int) qw_X_explore 1 := ⟨⟨⟨_, rfl⟩, wg_good _ (wg_t 278 rfl rfl), wg_t 1 rfl rfl, Or.inl (wg_t 275 rfl rfl), by decide +kernel, by decide +kernel, by decide +kernel⟩, wg_t 276 rfl rfl, wg_t 277 rfl rfl⟩
set_option maxRecDepth 100000 in
theorem qv_X_55 : ew_CV qS qR_X qwg 55 qy_E_forget qc_E_forget 1 (none) qw_E_forget 0 := ⟨⟨⟨_, rfl⟩, wg_good _ (wg_t 282 rfl rfl), wg_t 5 rfl rfl, Or.inl (wg_t 279 rfl rfl), by decide +kernel, by decide +kernel, by decide +kernel⟩, wg_t 280 rfl rfl, wg_t 281 rfl rfl⟩
set_option maxRecDepth 100000 in
theorem qv_E_39 : ew_CV qS qR_E qwg 39 qy_B_forget qc_B_forget 1 (none) qw_B_forget 0 := ⟨⟨⟨_, rfl⟩, wg_good _ (wg_t 286 rfl rfl), wg_t 6 rfl rfl, Or.inl (wg_t 283 rfl rfl), by decide +kernel, by decide +kernel, by decide +kernel⟩, wg_t 284 rfl rfl, wg_t 285 rfl rfl⟩
set_option maxRecDepth 100000 in
theorem qv_B_28 : ew_CV qS qR_B qwg 28 qy_Y_forget qc_Y_forget 1 (none) qw_Y_forget 0 := ⟨⟨⟨_, rfl⟩, wg_good _ (wg_t 290 rfl rfl), wg_t 7 rfl rfl, Or.inl (wg_t 287 rfl rfl), by decide +kernel, by decide +kernel, by decide +kernel⟩, wg_t 288 rfl rfl, wg_t 289 rfl rfl⟩
set_option maxRecDepth 100000 in
theorem qs_B_31 : ew_CS qS qR_B qwg 31 qy_A_fill qc_A_fill 4 (none) qw_A_fill 2 := ⟨⟨⟨_, rfl⟩, wg_good _ (wg_t 33 rfl rfl), wg_t 4 rfl rfl, Or.inl (wg_t 291 rfl rfl), by decide +kernel, by decide +kernel, by decide +kernel⟩, wg_t 32 rfl rfl⟩
set_option maxRecDepth 100000 in
theorem qv_E_42 : ew_CV qS qR_E qwg 42 qy_P_forget qc_P_forget 1 (none) qw_P_forget 0 := ⟨⟨⟨_, rfl⟩, wg_good _ (wg_t 295 rfl rfl), wg_t 8 rfl rfl, Or.inl (wg_t 292 rfl rfl), by decide +kernel, by decide +kernel, by decide +kernel⟩, wg_t 293 rfl rfl, wg_t 294 rfl rfl⟩
set_option maxRecDepth 100000 in
theorem qs_P_40 : ew_CS qS qR_P qwg 40 qy_A_fill qc_A_fill 4 (none) qw_A_fill 2 := ⟨⟨⟨_, rfl⟩, wg_good _ (wg_t 33 rfl rfl), wg_t 4 rfl rfl, Or.inl (wg_t 296 rfl rfl), by decide +kernel, by decide +kernel, by decide +kernel⟩, wg_t 32 rfl rfl⟩
set_option maxRecDepth 100000 in
theorem qv_E_43 : ew_CV qS qR_E qwg 43 qy_T_forget qc_T_forget 1 (none) qw_T_forget 0 := ⟨⟨⟨_, rfl⟩, wg_good _ (wg_t 300 rfl rfl), wg_t 9 rfl rfl, Or.inl (wg_t 297 rfl rfl), by decide +kernel, by decide +kernel, by decide +kernel⟩, wg_t 298 rfl rfl, wg_t 299 rfl rfl⟩
set_option maxRecDepth 100000 in
theorem qv_X_58 : ew_CV qS qR_X qwg 58 qy_X_firstState qc_X_firstState 1 (some .int) qw_X_firstState 0 := ⟨⟨⟨_, rfl⟩, wg_good _ (wg_t 304 rfl rfl), wg_t 1 rfl rfl, Or.inl (wg_t 301 rfl rfl), by decide +kernel, by decide +kernel, by decide +kernel⟩, wg_t 303 rfl rfl, wg_s 0 rfl⟩
set_option maxRecDepth 100000 in
theorem qv_X_62 : ew_CV qS qR_X qwg 62 qy_E_surveySingles qc_E_surveySingles 4 (some .boolean) qw_E_surveySingles 3 := ⟨⟨⟨_, rfl⟩, wg_good _ (wg_t 308 rfl rfl), wg_t 5 rfl rfl, Or.inl (wg_t 305 rfl rfl), by decide +kernel, by decide +kernel, by decide +kernel⟩, wg_t 306 rfl rfl, wg_t 307 rfl rfl⟩
set_option maxRecDepth 100000 in
theorem qv_E_44 : ew_CV qS qR_E qwg 44 qy_B_fill qc_B_fill 8 (some .boolean) qw_B_fill 4 := ⟨⟨⟨_, rfl⟩, wg_good _ (wg_t 312 rfl rfl), wg_t 6 rfl rfl, Or.inl (wg_t 309 rfl rfl), by decide +kernel, by decide +kernel, by decide +kernel⟩, wg_t 310 rfl rfl, wg_t 311 rfl rfl⟩
set_option maxRecDepth 100000 in
theorem qv_B_37 : ew_CV qS qR_B qwg 37 qy_K_transact qc_K_transact 6 (none) qw_K_transact 4 := ⟨⟨⟨_, rfl⟩, wg_good _ (wg_t 316 rfl rfl), wg_t 2 rfl rfl, Or.inl (wg_t 313 rfl rfl), by decide +kernel, by decide +kernel, by decide +kernel⟩, wg_t 314 rfl rfl, wg_t 315 rfl rfl⟩
set_option maxRecDepth 100000 in
theorem qv_K_60 : ew_CV qS qR_K qwg 60 qy_K_begin qc_K_begin 4 (none) qw_K_begin 3 := ⟨⟨⟨_, rfl⟩, wg_good _ (wg_t 320 rfl rfl), wg_t 2 rfl rfl, Or.inl (wg_t 317 rfl rfl), by decide +kernel, by decide +kernel, by decide +kernel⟩, wg_t 319 rfl rfl, wg_s 1 rfl⟩
set_option maxRecDepth 100000 in
theorem qs_K_81 : ew_CS qS qR_K qwg 81 qy_A_fill qc_A_fill 4 (none) qw_A_fill 2 := ⟨⟨⟨_, rfl⟩, wg_good _ (wg_t 33 rfl rfl), wg_t 4 rfl rfl, Or.inl (wg_t 321 rfl rfl), by decide +kernel, by decide +kernel, by decide +kernel⟩, wg_t 32 rfl rfl⟩
set_option maxRecDepth 100000 in
theorem qv_K_67 : ew_CV qS qR_K qwg 67 qy_K_keepStep qc_K_keepStep 2 (none) qw_K_keepStep 1 := ⟨⟨⟨_, rfl⟩, wg_good _ (wg_t 325 rfl rfl), wg_t 2 rfl rfl, Or.inl (wg_t 322 rfl rfl), by decide +kernel, by decide +kernel, by decide +kernel⟩, wg_t 324 rfl rfl, wg_s 2 rfl⟩
set_option maxRecDepth 100000 in
theorem qv_K_77 : ew_CV qS qR_K qwg 77 qy_K_perform qc_K_perform 6 (none) qw_K_perform 2 := ⟨⟨⟨_, rfl⟩, wg_good _ (wg_t 329 rfl rfl), wg_t 2 rfl rfl, Or.inl (wg_t 326 rfl rfl), by decide +kernel, by decide +kernel, by decide +kernel⟩, wg_t 328 rfl rfl, wg_s 3 rfl⟩
set_option maxRecDepth 100000 in
theorem qv_K_87 : ew_CV qS qR_K qwg 87 qy_K_faultOf qc_K_faultOf 4 (some .int) qw_K_faultOf 2 := ⟨⟨⟨_, rfl⟩, wg_good _ (wg_t 333 rfl rfl), wg_t 2 rfl rfl, Or.inl (wg_t 330 rfl rfl), by decide +kernel, by decide +kernel, by decide +kernel⟩, wg_t 332 rfl rfl, wg_s 4 rfl⟩
set_option maxRecDepth 100000 in
theorem qf_K_104 : Cond.fieldLink qR_K 104 "ContractProbe" "TAKES" "[I" ∈ qwg ∨ ∃ host, Cond.fieldLinkNest qR_K 104 "ContractProbe" "TAKES" "[I" host ∈ qS.2.2.2.1 := Or.inr ⟨"ContractProbe", wg_n 334 rfl rfl⟩
set_option maxRecDepth 100000 in
theorem qf_K_101 : Cond.fieldLink qR_K 101 "ContractProbe" "COSTS" "[I" ∈ qwg ∨ ∃ host, Cond.fieldLinkNest qR_K 101 "ContractProbe" "COSTS" "[I" host ∈ qS.2.2.2.1 := Or.inr ⟨"ContractProbe", wg_n 336 rfl rfl⟩
set_option maxRecDepth 100000 in
theorem qf_K_107 : Cond.fieldLink qR_K 107 "ContractProbe" "PUTS" "[I" ∈ qwg ∨ ∃ host, Cond.fieldLinkNest qR_K 107 "ContractProbe" "PUTS" "[I" host ∈ qS.2.2.2.1 := Or.inr ⟨"ContractProbe", wg_n 338 rfl rfl⟩
set_option maxRecDepth 100000 in
theorem qv_K_94 : ew_CV qS qR_K qwg 94 qy_K_wordUnder qc_K_wordUnder 2 (some .int) qw_K_wordUnder 1 := ⟨⟨⟨_, rfl⟩, wg_good _ (wg_t 343 rfl rfl), wg_t 2 rfl rfl, Or.inl (wg_t 340 rfl rfl), by decide +kernel, by decide +kernel, by decide +kernel⟩, wg_t 342 rfl rfl, wg_s 5 rfl⟩
set_option maxRecDepth 100000 in
theorem qv_K_91 : ew_CV qS qR_K qwg 91 qy_K_note qc_K_note 2 (none) qw_K_note 1 := ⟨⟨⟨_, rfl⟩, wg_good _ (wg_t 347 rfl rfl), wg_t 2 rfl rfl, Or.inl (wg_t 344 rfl rfl), by decide +kernel, by decide +kernel, by decide +kernel⟩, wg_t 346 rfl rfl, wg_s 6 rfl⟩
set_option maxRecDepth 100000 in
theorem qv_K_98 : ew_CV qS qR_K qwg 98 qy_K_look qc_K_look 5 (none) qw_K_look 3 := ⟨⟨⟨_, rfl⟩, wg_good _ (wg_t 351 rfl rfl), wg_t 2 rfl rfl, Or.inl (wg_t 348 rfl rfl), by decide +kernel, by decide +kernel, by decide +kernel⟩, wg_t 350 rfl rfl, wg_s 7 rfl⟩
set_option maxRecDepth 100000 in
theorem qv_K_110 : ew_CV qS qR_K qwg 110 qy_K_wordPut qc_K_wordPut 5 (some .int) qw_K_wordPut 4 := ⟨⟨⟨_, rfl⟩, wg_good _ (wg_t 355 rfl rfl), wg_t 2 rfl rfl, Or.inl (wg_t 352 rfl rfl), by decide +kernel, by decide +kernel, by decide +kernel⟩, wg_t 354 rfl rfl, wg_s 8 rfl⟩
set_option maxRecDepth 100000 in
theorem qs_K_121 : ew_CS qS qR_K qwg 121 qy_X_wordOf qc_X_wordOf 2 (some .int) qw_X_wordOf 2 := ⟨⟨⟨_, rfl⟩, wg_good _ (wg_t 358 rfl rfl), wg_t 1 rfl rfl, Or.inr ⟨"ContractProbe", wg_n 356 rfl rfl⟩, by decide +kernel, by decide +kernel, by decide +kernel⟩, wg_t 357 rfl rfl⟩
set_option maxRecDepth 100000 in
theorem qv_K_124 : ew_CV qS qR_K qwg 124 qy_K_send qc_K_send 2 (some .int) qw_K_send 1 := ⟨⟨⟨_, rfl⟩, wg_good _ (wg_t 362 rfl rfl), wg_t 2 rfl rfl, Or.inl (wg_t 359 rfl rfl), by decide +kernel, by decide +kernel, by decide +kernel⟩, wg_t 361 rfl rfl, wg_s 9 rfl⟩
set_option maxRecDepth 100000 in
theorem qv_K_114 : ew_CV qS qR_K qwg 114 qy_K_act qc_K_act 5 (none) qw_K_act 4 := ⟨⟨⟨_, rfl⟩, wg_good _ (wg_t 366 rfl rfl), wg_t 2 rfl rfl, Or.inl (wg_t 363 rfl rfl), by decide +kernel, by decide +kernel, by decide +kernel⟩, wg_t 365 rfl rfl, wg_s 10 rfl⟩
set_option maxRecDepth 100000 in
theorem qv_K_127 : ew_CV qS qR_K qwg 127 qy_K_swap qc_K_swap 4 (none) qw_K_swap 2 := ⟨⟨⟨_, rfl⟩, wg_good _ (wg_t 370 rfl rfl), wg_t 2 rfl rfl, Or.inl (wg_t 367 rfl rfl), by decide +kernel, by decide +kernel, by decide +kernel⟩, wg_t 369 rfl rfl, wg_s 11 rfl⟩
set_option maxRecDepth 100000 in
theorem qs_K_130 : ew_CS qS qR_K qwg 130 qy_X_withWord qc_X_withWord 3 (some .int) qw_X_withWord 3 := ⟨⟨⟨_, rfl⟩, wg_good _ (wg_t 373 rfl rfl), wg_t 1 rfl rfl, Or.inr ⟨"ContractProbe", wg_n 371 rfl rfl⟩, by decide +kernel, by decide +kernel, by decide +kernel⟩, wg_t 372 rfl rfl⟩
set_option maxRecDepth 100000 in
theorem qv_B_43 : ew_CV qS qR_B qwg 43 qy_Y_numberOf qc_Y_numberOf 3 (some .int) qw_Y_numberOf 1 := ⟨⟨⟨_, rfl⟩, wg_good _ (wg_t 377 rfl rfl), wg_t 7 rfl rfl, Or.inl (wg_t 374 rfl rfl), by decide +kernel, by decide +kernel, by decide +kernel⟩, wg_t 375 rfl rfl, wg_t 376 rfl rfl⟩
set_option maxRecDepth 100000 in
theorem qv_Y_28 : ew_CV qS qR_Y qwg 28 qy_Y_isWayOf qc_Y_isWayOf 5 (some .boolean) qw_Y_isWayOf 2 := ⟨⟨⟨_, rfl⟩, wg_good _ (wg_t 381 rfl rfl), wg_t 7 rfl rfl, Or.inl (wg_t 378 rfl rfl), by decide +kernel, by decide +kernel, by decide +kernel⟩, wg_t 380 rfl rfl, wg_s 12 rfl⟩
set_option maxRecDepth 100000 in
theorem qv_Y_32 : ew_CV qS qR_Y qwg 32 qy_Y_keep qc_Y_keep 5 (none) qw_Y_keep 2 := ⟨⟨⟨_, rfl⟩, wg_good _ (wg_t 385 rfl rfl), wg_t 7 rfl rfl, Or.inl (wg_t 382 rfl rfl), by decide +kernel, by decide +kernel, by decide +kernel⟩, wg_t 384 rfl rfl, wg_s 13 rfl⟩
set_option maxRecDepth 100000 in
theorem qv_E_48 : ew_CV qS qR_E qwg 48 qy_E_countFollowers qc_E_countFollowers 7 (some .boolean) qw_E_countFollowers 1 := ⟨⟨⟨_, rfl⟩, wg_good _ (wg_t 389 rfl rfl), wg_t 5 rfl rfl, Or.inl (wg_t 386 rfl rfl), by decide +kernel, by decide +kernel, by decide +kernel⟩, wg_t 388 rfl rfl, wg_s 14 rfl⟩
set_option maxRecDepth 100000 in
theorem qv_E_89 : ew_CV qS qR_E qwg 89 qy_P_meet qc_P_meet 6 (some .int) qw_P_meet 4 := ⟨⟨⟨_, rfl⟩, wg_good _ (wg_t 393 rfl rfl), wg_t 8 rfl rfl, Or.inl (wg_t 390 rfl rfl), by decide +kernel, by decide +kernel, by decide +kernel⟩, wg_t 391 rfl rfl, wg_t 392 rfl rfl⟩
set_option maxRecDepth 100000 in
theorem qv_P_50 : ew_CV qS qR_P qwg 50 qy_P_open qc_P_open 6 (some .int) qw_P_open 4 := ⟨⟨⟨_, rfl⟩, wg_good _ (wg_t 397 rfl rfl), wg_t 8 rfl rfl, Or.inl (wg_t 394 rfl rfl), by decide +kernel, by decide +kernel, by decide +kernel⟩, wg_t 396 rfl rfl, wg_s 15 rfl⟩
set_option maxRecDepth 100000 in
theorem qv_E_96 : ew_CV qS qR_E qwg 96 qy_T_note qc_T_note 8 (none) qw_T_note 4 := ⟨⟨⟨_, rfl⟩, wg_good _ (wg_t 401 rfl rfl), wg_t 9 rfl rfl, Or.inl (wg_t 398 rfl rfl), by decide +kernel, by decide +kernel, by decide +kernel⟩, wg_t 399 rfl rfl, wg_t 400 rfl rfl⟩
set_option maxRecDepth 100000 in
theorem qv_X_66 : ew_CV qS qR_X qwg 66 qy_E_surveyPairs qc_E_surveyPairs 5 (some .boolean) qw_E_surveyPairs 3 := ⟨⟨⟨_, rfl⟩, wg_good _ (wg_t 405 rfl rfl), wg_t 5 rfl rfl, Or.inl (wg_t 402 rfl rfl), by decide +kernel, by decide +kernel, by decide +kernel⟩, wg_t 403 rfl rfl, wg_t 404 rfl rfl⟩
set_option maxRecDepth 100000 in
theorem qv_E_52 : ew_CV qS qR_E qwg 52 qy_B_isFollowedLikeAnEarlierOne qc_B_isFollowedLikeAnEarlierOne 3 (some .boolean) qw_B_isFollowedLikeAnEarlierOne 1 := ⟨⟨⟨_, rfl⟩, wg_good _ (wg_t 409 rfl rfl), wg_t 6 rfl rfl, Or.inl (wg_t 406 rfl rfl), by decide +kernel, by decide +kernel, by decide +kernel⟩, wg_t 407 rfl rfl, wg_t 408 rfl rfl⟩
set_option maxRecDepth 100000 in
theorem qv_B_59 : ew_CV qS qR_B qwg 59 qy_B_areFollowedAlike qc_B_areFollowedAlike 3 (some .boolean) qw_B_areFollowedAlike 2 := ⟨⟨⟨_, rfl⟩, wg_good _ (wg_t 413 rfl rfl), wg_t 6 rfl rfl, Or.inl (wg_t 410 rfl rfl), by decide +kernel, by decide +kernel, by decide +kernel⟩, wg_t 411 rfl rfl, wg_t 412 rfl rfl⟩
set_option maxRecDepth 100000 in
theorem qv_B_55 : ew_CV qS qR_B qwg 55 qy_B_isDestroyed qc_B_isDestroyed 2 (some .boolean) qw_B_isDestroyed 1 := ⟨⟨⟨_, rfl⟩, wg_good _ (wg_t 417 rfl rfl), wg_t 6 rfl rfl, Or.inl (wg_t 414 rfl rfl), by decide +kernel, by decide +kernel, by decide +kernel⟩, wg_t 415 rfl rfl, wg_t 416 rfl rfl⟩
set_option maxRecDepth 100000 in
theorem qv_E_59 : ew_CV qS qR_E qwg 59 qy_B_isDestroyed qc_B_isDestroyed 2 (some .boolean) qw_B_isDestroyed 1 := ⟨⟨⟨_, rfl⟩, wg_good _ (wg_t 417 rfl rfl), wg_t 6 rfl rfl, Or.inl (wg_t 418 rfl rfl), by decide +kernel, by decide +kernel, by decide +kernel⟩, wg_t 415 rfl rfl, wg_t 416 rfl rfl⟩
set_option maxRecDepth 100000 in
theorem qv_E_62 : ew_CV qS qR_E qwg 62 qy_E_countFollowersOfAllAlike qc_E_countFollowersOfAllAlike 3 (some .boolean) qw_E_countFollowersOfAllAlike 1 := ⟨⟨⟨_, rfl⟩, wg_good _ (wg_t 422 rfl rfl), wg_t 5 rfl rfl, Or.inl (wg_t 419 rfl rfl), by decide +kernel, by decide +kernel, by decide +kernel⟩, wg_t 421 rfl rfl, wg_s 16 rfl⟩
set_option maxRecDepth 100000 in
theorem qv_E_82 : ew_CV qS qR_E qwg 82 qy_B_areFollowedAlike qc_B_areFollowedAlike 3 (some .boolean) qw_B_areFollowedAlike 2 := ⟨⟨⟨_, rfl⟩, wg_good _ (wg_t 413 rfl rfl), wg_t 6 rfl rfl, Or.inl (wg_t 423 rfl rfl), by decide +kernel, by decide +kernel, by decide +kernel⟩, wg_t 411 rfl rfl, wg_t 412 rfl rfl⟩
set_option maxRecDepth 100000 in
theorem qv_X_69 : ew_CV qS qR_X qwg 69 qy_E_conclude qc_E_conclude 2 (some .int) qw_E_conclude 1 := ⟨⟨⟨_, rfl⟩, wg_good _ (wg_t 427 rfl rfl), wg_t 5 rfl rfl, Or.inl (wg_t 424 rfl rfl), by decide +kernel, by decide +kernel, by decide +kernel⟩, wg_t 425 rfl rfl, wg_t 426 rfl rfl⟩
set_option maxRecDepth 100000 in
theorem qv_E_65 : ew_CV qS qR_E qwg 65 qy_E_forget qc_E_forget 1 (none) qw_E_forget 0 := ⟨⟨⟨_, rfl⟩, wg_good _ (wg_t 282 rfl rfl), wg_t 5 rfl rfl, Or.inl (wg_t 428 rfl rfl), by decide +kernel, by decide +kernel, by decide +kernel⟩, wg_t 280 rfl rfl, wg_t 281 rfl rfl⟩
set_option maxRecDepth 100000 in
theorem qv_E_66 : ew_CV qS qR_E qwg 66 qy_P_putInOrder qc_P_putInOrder 4 (none) qw_P_putInOrder 0 := ⟨⟨⟨_, rfl⟩, wg_good _ (wg_t 432 rfl rfl), wg_t 8 rfl rfl, Or.inl (wg_t 429 rfl rfl), by decide +kernel, by decide +kernel, by decide +kernel⟩, wg_t 430 rfl rfl, wg_t 431 rfl rfl⟩
set_option maxRecDepth 100000 in
theorem qv_L_32 : ew_CV qS qR_L qwg 32 qy_X_inputs qc_X_inputs 3 (some .int) qw_X_inputs 1 := ⟨⟨⟨_, rfl⟩, wg_good _ (wg_t 436 rfl rfl), wg_t 1 rfl rfl, Or.inl (wg_t 433 rfl rfl), by decide +kernel, by decide +kernel, by decide +kernel⟩, wg_t 434 rfl rfl, wg_t 435 rfl rfl⟩
set_option maxRecDepth 100000 in
theorem qv_X_77 : ew_CV qS qR_X qwg 77 qy_P_rowOf qc_P_rowOf 2 (some .int) qw_P_rowOf 1 := ⟨⟨⟨_, rfl⟩, wg_good _ (wg_t 440 rfl rfl), wg_t 8 rfl rfl, Or.inl (wg_t 437 rfl rfl), by decide +kernel, by decide +kernel, by decide +kernel⟩, wg_t 438 rfl rfl, wg_t 439 rfl rfl⟩
set_option maxRecDepth 100000 in
theorem qs_P_46 : ew_CS qS qR_P qwg 46 qy_X_isBelow qc_X_isBelow 2 (some .boolean) qw_X_isBelow 2 := ⟨⟨⟨_, rfl⟩, wg_good _ (wg_t 258 rfl rfl), wg_t 1 rfl rfl, Or.inr ⟨"ContractProbe", wg_n 441 rfl rfl⟩, by decide +kernel, by decide +kernel, by decide +kernel⟩, wg_t 257 rfl rfl⟩
set_option maxRecDepth 100000 in
theorem qv_L_36 : ew_CV qS qR_L qwg 36 qy_X_witness qc_X_witness 3 (some .int) qw_X_witness 1 := ⟨⟨⟨_, rfl⟩, wg_good _ (wg_t 445 rfl rfl), wg_t 1 rfl rfl, Or.inl (wg_t 442 rfl rfl), by decide +kernel, by decide +kernel, by decide +kernel⟩, wg_t 443 rfl rfl, wg_t 444 rfl rfl⟩
set_option maxRecDepth 100000 in
theorem qv_L_40 : ew_CV qS qR_L qwg 40 qy_X_end qc_X_end 4 (some .int) qw_X_end 2 := ⟨⟨⟨_, rfl⟩, wg_good _ (wg_t 449 rfl rfl), wg_t 1 rfl rfl, Or.inl (wg_t 446 rfl rfl), by decide +kernel, by decide +kernel, by decide +kernel⟩, wg_t 447 rfl rfl, wg_t 448 rfl rfl⟩
set_option maxRecDepth 100000 in
theorem qv_X_92 : ew_CV qS qR_X qwg 92 qy_E_waysOf qc_E_waysOf 2 (some (.object "ContractProbe$Ways")) qw_E_waysOf 1 := ⟨⟨⟨_, rfl⟩, wg_good _ (wg_t 453 rfl rfl), wg_t 5 rfl rfl, Or.inl (wg_t 450 rfl rfl), by decide +kernel, by decide +kernel, by decide +kernel⟩, wg_t 451 rfl rfl, wg_t 452 rfl rfl⟩
set_option maxRecDepth 100000 in
theorem qv_X_101 : ew_CV qS qR_X qwg 101 qy_E_wayOn qc_E_wayOn 3 (some .int) qw_E_wayOn 2 := ⟨⟨⟨_, rfl⟩, wg_good _ (wg_t 457 rfl rfl), wg_t 5 rfl rfl, Or.inl (wg_t 454 rfl rfl), by decide +kernel, by decide +kernel, by decide +kernel⟩, wg_t 455 rfl rfl, wg_t 456 rfl rfl⟩
set_option maxRecDepth 100000 in
theorem qv_L_44 : ew_CV qS qR_L qwg 44 qy_X_step qc_X_step 5 (some .int) qw_X_step 3 := ⟨⟨⟨_, rfl⟩, wg_good _ (wg_t 461 rfl rfl), wg_t 1 rfl rfl, Or.inl (wg_t 458 rfl rfl), by decide +kernel, by decide +kernel, by decide +kernel⟩, wg_t 459 rfl rfl, wg_t 460 rfl rfl⟩
set_option maxRecDepth 100000 in
theorem qv_X_104 : ew_CV qS qR_X qwg 104 qy_Y_stepOf qc_Y_stepOf 3 (some .int) qw_Y_stepOf 2 := ⟨⟨⟨_, rfl⟩, wg_good _ (wg_t 465 rfl rfl), wg_t 7 rfl rfl, Or.inl (wg_t 462 rfl rfl), by decide +kernel, by decide +kernel, by decide +kernel⟩, wg_t 463 rfl rfl, wg_t 464 rfl rfl⟩
set_option maxRecDepth 100000 in
theorem qs_Y_36 : ew_CS qS qR_Y qwg 36 qy_X_isBelow qc_X_isBelow 2 (some .boolean) qw_X_isBelow 2 := ⟨⟨⟨_, rfl⟩, wg_good _ (wg_t 258 rfl rfl), wg_t 1 rfl rfl, Or.inr ⟨"ContractProbe", wg_n 466 rfl rfl⟩, by decide +kernel, by decide +kernel, by decide +kernel⟩, wg_t 257 rfl rfl⟩
set_option maxRecDepth 100000 in
theorem qv_L_49 : ew_CV qS qR_L qwg 49 qy_X_left qc_X_left 6 (some .int) qw_X_left 2 := ⟨⟨⟨_, rfl⟩, wg_good _ (wg_t 470 rfl rfl), wg_t 1 rfl rfl, Or.inl (wg_t 467 rfl rfl), by decide +kernel, by decide +kernel, by decide +kernel⟩, wg_t 468 rfl rfl, wg_t 469 rfl rfl⟩
set_option maxRecDepth 100000 in
theorem qs_X_110 : ew_CS qS qR_X qwg 110 qy_X_wordOf qc_X_wordOf 2 (some .int) qw_X_wordOf 2 := ⟨⟨⟨_, rfl⟩, wg_good _ (wg_t 358 rfl rfl), wg_t 1 rfl rfl, Or.inl (wg_t 471 rfl rfl), by decide +kernel, by decide +kernel, by decide +kernel⟩, wg_t 357 rfl rfl⟩
set_option maxRecDepth 100000 in
theorem qv_L_53 : ew_CV qS qR_L qwg 53 qy_X_finding qc_X_finding 3 (some .int) qw_X_finding 2 := ⟨⟨⟨_, rfl⟩, wg_good _ (wg_t 475 rfl rfl), wg_t 1 rfl rfl, Or.inl (wg_t 472 rfl rfl), by decide +kernel, by decide +kernel, by decide +kernel⟩, wg_t 473 rfl rfl, wg_t 474 rfl rfl⟩
set_option maxRecDepth 100000 in
theorem qv_X_120 : ew_CV qS qR_X qwg 120 qy_T_leastOf qc_T_leastOf 3 (some .int) qw_T_leastOf 2 := ⟨⟨⟨_, rfl⟩, wg_good _ (wg_t 479 rfl rfl), wg_t 9 rfl rfl, Or.inl (wg_t 476 rfl rfl), by decide +kernel, by decide +kernel, by decide +kernel⟩, wg_t 477 rfl rfl, wg_t 478 rfl rfl⟩
set_option maxRecDepth 100000 in
theorem qv_L_57 : ew_CV qS qR_L qwg 57 qy_X_risk qc_X_risk 5 (some .int) qw_X_risk 3 := ⟨⟨⟨_, rfl⟩, wg_good _ (wg_t 483 rfl rfl), wg_t 1 rfl rfl, Or.inl (wg_t 480 rfl rfl), by decide +kernel, by decide +kernel, by decide +kernel⟩, wg_t 481 rfl rfl, wg_t 482 rfl rfl⟩
set_option maxRecDepth 100000 in
theorem qv_X_125 : ew_CV qS qR_X qwg 125 qy_T_countOf qc_T_countOf 4 (some .int) qw_T_countOf 3 := ⟨⟨⟨_, rfl⟩, wg_good _ (wg_t 487 rfl rfl), wg_t 9 rfl rfl, Or.inl (wg_t 484 rfl rfl), by decide +kernel, by decide +kernel, by decide +kernel⟩, wg_t 485 rfl rfl, wg_t 486 rfl rfl⟩
set_option maxRecDepth 100000 in
theorem qv_L_61 : ew_CV qS qR_L qwg 61 qy_X_replay qc_X_replay 5 (some .int) qw_X_replay 2 := ⟨⟨⟨_, rfl⟩, wg_good _ (wg_t 491 rfl rfl), wg_t 1 rfl rfl, Or.inl (wg_t 488 rfl rfl), by decide +kernel, by decide +kernel, by decide +kernel⟩, wg_t 489 rfl rfl, wg_t 490 rfl rfl⟩
set_option maxRecDepth 100000 in
theorem qv_X_129 : ew_CV qS qR_X qwg 129 qy_K_transact qc_K_transact 6 (none) qw_K_transact 4 := ⟨⟨⟨_, rfl⟩, wg_good _ (wg_t 316 rfl rfl), wg_t 2 rfl rfl, Or.inl (wg_t 492 rfl rfl), by decide +kernel, by decide +kernel, by decide +kernel⟩, wg_t 314 rfl rfl, wg_t 315 rfl rfl⟩
set_option maxRecDepth 100000 in
theorem qv_X_139 : ew_CV qS qR_X qwg 139 qy_X_keepReplay qc_X_keepReplay 2 (none) qw_X_keepReplay 0 := ⟨⟨⟨_, rfl⟩, wg_good _ (wg_t 496 rfl rfl), wg_t 1 rfl rfl, Or.inl (wg_t 493 rfl rfl), by decide +kernel, by decide +kernel, by decide +kernel⟩, wg_t 495 rfl rfl, wg_s 17 rfl⟩
set_option maxRecDepth 100000 in
theorem qv_L_65 : ew_CV qS qR_L qwg 65 qy_X_replayed qc_X_replayed 2 (some .int) qw_X_replayed 1 := ⟨⟨⟨_, rfl⟩, wg_good _ (wg_t 500 rfl rfl), wg_t 1 rfl rfl, Or.inl (wg_t 497 rfl rfl), by decide +kernel, by decide +kernel, by decide +kernel⟩, wg_t 498 rfl rfl, wg_t 499 rfl rfl⟩
set_option maxRecDepth 100000 in
theorem qf_M_72 : ew_F qS qR_M qwg 72 8 0 := ⟨qR_M, qT_M, 32, qt_M, rfl, by decide, qu_M, Or.inl (wg_t 507 rfl rfl), qk_M, qn_M⟩
set_option maxRecDepth 100000 in
theorem qf_M_7 : ew_F qS qR_M qwg 7 8 1 := ⟨qR_M, qT_M, 32, qt_M, rfl, by decide, qu_M, Or.inl (wg_t 508 rfl rfl), qk_M, qn_M⟩
set_option maxRecDepth 100000 in
theorem qf_M_13 : ew_F qS qR_M qwg 13 8 2 := ⟨qR_M, qT_M, 32, qt_M, rfl, by decide, qu_M, Or.inl (wg_t 509 rfl rfl), qk_M, qn_M⟩
set_option maxRecDepth 100000 in
theorem qf_M_75 : ew_F qS qR_M qwg 75 8 3 := ⟨qR_M, qT_M, 32, qt_M, rfl, by decide, qu_M, Or.inl (wg_t 510 rfl rfl), qk_M, qn_M⟩
set_option maxRecDepth 100000 in
theorem qf_M_16 : ew_F qS qR_M qwg 16 8 4 := ⟨qR_M, qT_M, 32, qt_M, rfl, by decide, qu_M, Or.inl (wg_t 511 rfl rfl), qk_M, qn_M⟩
set_option maxRecDepth 100000 in
theorem qf_M_20 : ew_F qS qR_M qwg 20 8 5 := ⟨qR_M, qT_M, 32, qt_M, rfl, by decide, qu_M, Or.inl (wg_t 512 rfl rfl), qk_M, qn_M⟩
set_option maxRecDepth 100000 in
theorem qf_M_23 : ew_F qS qR_M qwg 23 8 6 := ⟨qR_M, qT_M, 32, qt_M, rfl, by decide, qu_M, Or.inl (wg_t 513 rfl rfl), qk_M, qn_M⟩
set_option maxRecDepth 100000 in
theorem qf_M_26 : ew_F qS qR_M qwg 26 8 7 := ⟨qR_M, qT_M, 32, qt_M, rfl, by decide, qu_M, Or.inl (wg_t 514 rfl rfl), qk_M, qn_M⟩
set_option maxRecDepth 100000 in
theorem qf_M_88 : ew_F qS qR_M qwg 88 8 8 := ⟨qR_M, qT_M, 32, qt_M, rfl, by decide, qu_M, Or.inl (wg_t 515 rfl rfl), qk_M, qn_M⟩
set_option maxRecDepth 100000 in
theorem qf_M_81 : ew_F qS qR_M qwg 81 8 9 := ⟨qR_M, qT_M, 32, qt_M, rfl, by decide, qu_M, Or.inl (wg_t 516 rfl rfl), qk_M, qn_M⟩
set_option maxRecDepth 100000 in
theorem qf_M_78 : ew_F qS qR_M qwg 78 8 10 := ⟨qR_M, qT_M, 32, qt_M, rfl, by decide, qu_M, Or.inl (wg_t 517 rfl rfl), qk_M, qn_M⟩
set_option maxRecDepth 100000 in
theorem qf_M_115 : ew_F qS qR_M qwg 115 8 11 := ⟨qR_M, qT_M, 32, qt_M, rfl, by decide, qu_M, Or.inl (wg_t 518 rfl rfl), qk_M, qn_M⟩
set_option maxRecDepth 100000 in
theorem qf_M_118 : ew_F qS qR_M qwg 118 8 12 := ⟨qR_M, qT_M, 32, qt_M, rfl, by decide, qu_M, Or.inl (wg_t 519 rfl rfl), qk_M, qn_M⟩
set_option maxRecDepth 100000 in
theorem qf_M_124 : ew_F qS qR_M qwg 124 8 13 := ⟨qR_M, qT_M, 32, qt_M, rfl, by decide, qu_M, Or.inl (wg_t 520 rfl rfl), qk_M, qn_M⟩
set_option maxRecDepth 100000 in
theorem qf_M_108 : ew_F qS qR_M qwg 108 8 14 := ⟨qR_M, qT_M, 32, qt_M, rfl, by decide, qu_M, Or.inl (wg_t 521 rfl rfl), qk_M, qn_M⟩
set_option maxRecDepth 100000 in
theorem qf_M_29 : ew_F qS qR_M qwg 29 8 15 := ⟨qR_M, qT_M, 32, qt_M, rfl, by decide, qu_M, Or.inl (wg_t 522 rfl rfl), qk_M, qn_M⟩
set_option maxRecDepth 100000 in
theorem qf_M_32 : ew_F qS qR_M qwg 32 8 16 := ⟨qR_M, qT_M, 32, qt_M, rfl, by decide, qu_M, Or.inl (wg_t 523 rfl rfl), qk_M, qn_M⟩
set_option maxRecDepth 100000 in
theorem qf_M_35 : ew_F qS qR_M qwg 35 8 17 := ⟨qR_M, qT_M, 32, qt_M, rfl, by decide, qu_M, Or.inl (wg_t 524 rfl rfl), qk_M, qn_M⟩
set_option maxRecDepth 100000 in
theorem qf_M_38 : ew_F qS qR_M qwg 38 8 18 := ⟨qR_M, qT_M, 32, qt_M, rfl, by decide, qu_M, Or.inl (wg_t 525 rfl rfl), qk_M, qn_M⟩
set_option maxRecDepth 100000 in
theorem qf_M_145 : ew_F qS qR_M qwg 145 8 19 := ⟨qR_M, qT_M, 32, qt_M, rfl, by decide, qu_M, Or.inl (wg_t 526 rfl rfl), qk_M, qn_M⟩
set_option maxRecDepth 100000 in
theorem qf_M_148 : ew_F qS qR_M qwg 148 8 20 := ⟨qR_M, qT_M, 32, qt_M, rfl, by decide, qu_M, Or.inl (wg_t 527 rfl rfl), qk_M, qn_M⟩
set_option maxRecDepth 100000 in
theorem qf_M_41 : ew_F qS qR_M qwg 41 8 21 := ⟨qR_M, qT_M, 32, qt_M, rfl, by decide, qu_M, Or.inl (wg_t 528 rfl rfl), qk_M, qn_M⟩
set_option maxRecDepth 100000 in
theorem qf_M_44 : ew_F qS qR_M qwg 44 8 22 := ⟨qR_M, qT_M, 32, qt_M, rfl, by decide, qu_M, Or.inl (wg_t 529 rfl rfl), qk_M, qn_M⟩
set_option maxRecDepth 100000 in
theorem qf_M_47 : ew_F qS qR_M qwg 47 8 23 := ⟨qR_M, qT_M, 32, qt_M, rfl, by decide, qu_M, Or.inl (wg_t 530 rfl rfl), qk_M, qn_M⟩
set_option maxRecDepth 100000 in
theorem qf_M_50 : ew_F qS qR_M qwg 50 8 24 := ⟨qR_M, qT_M, 32, qt_M, rfl, by decide, qu_M, Or.inl (wg_t 531 rfl rfl), qk_M, qn_M⟩
set_option maxRecDepth 100000 in
theorem qf_M_53 : ew_F qS qR_M qwg 53 8 25 := ⟨qR_M, qT_M, 32, qt_M, rfl, by decide, qu_M, Or.inl (wg_t 532 rfl rfl), qk_M, qn_M⟩
set_option maxRecDepth 100000 in
theorem qf_M_56 : ew_F qS qR_M qwg 56 8 26 := ⟨qR_M, qT_M, 32, qt_M, rfl, by decide, qu_M, Or.inl (wg_t 533 rfl rfl), qk_M, qn_M⟩
set_option maxRecDepth 100000 in
theorem qf_M_59 : ew_F qS qR_M qwg 59 8 27 := ⟨qR_M, qT_M, 32, qt_M, rfl, by decide, qu_M, Or.inl (wg_t 534 rfl rfl), qk_M, qn_M⟩
set_option maxRecDepth 100000 in
theorem qf_M_63 : ew_F qS qR_M qwg 63 8 28 := ⟨qR_M, qT_M, 32, qt_M, rfl, by decide, qu_M, Or.inl (wg_t 535 rfl rfl), qk_M, qn_M⟩
set_option maxRecDepth 100000 in
theorem qf_M_66 : ew_F qS qR_M qwg 66 8 29 := ⟨qR_M, qT_M, 32, qt_M, rfl, by decide, qu_M, Or.inl (wg_t 536 rfl rfl), qk_M, qn_M⟩
set_option maxRecDepth 100000 in
theorem qf_M_166 : ew_F qS qR_M qwg 166 8 30 := ⟨qR_M, qT_M, 32, qt_M, rfl, by decide, qu_M, Or.inl (wg_t 537 rfl rfl), qk_M, qn_M⟩
set_option maxRecDepth 100000 in
theorem qf_M_69 : ew_F qS qR_M qwg 69 8 31 := ⟨qR_M, qT_M, 32, qt_M, rfl, by decide, qu_M, Or.inl (wg_t 538 rfl rfl), qk_M, qn_M⟩
set_option maxRecDepth 100000 in
theorem qv_L_17 : ew_CV qS qR_L qwg 17 qy_M_add qc_M_add 3 (some .int) qw_M_add 2 := ⟨⟨⟨_, rfl⟩, wg_good _ (wg_t 608 rfl rfl), wg_t 10 rfl rfl, Or.inl (wg_t 605 rfl rfl), by decide +kernel, by decide +kernel, by decide +kernel⟩, wg_t 606 rfl rfl, wg_t 607 rfl rfl⟩
set_option maxRecDepth 100000 in
theorem qv_L_21 : ew_CV qS qR_L qwg 21 qy_M_clear qc_M_clear 1 (none) qw_M_clear 0 := ⟨⟨⟨_, rfl⟩, wg_good _ (wg_t 612 rfl rfl), wg_t 10 rfl rfl, Or.inl (wg_t 609 rfl rfl), by decide +kernel, by decide +kernel, by decide +kernel⟩, wg_t 610 rfl rfl, wg_t 611 rfl rfl⟩
set_option maxRecDepth 100000 in
theorem qv_L_26 : ew_CV qS qR_L qwg 26 qy_M_start qc_M_start 3 (some .boolean) qw_M_start 2 := ⟨⟨⟨_, rfl⟩, wg_good _ (wg_t 616 rfl rfl), wg_t 10 rfl rfl, Or.inl (wg_t 613 rfl rfl), by decide +kernel, by decide +kernel, by decide +kernel⟩, wg_t 614 rfl rfl, wg_t 615 rfl rfl⟩
set_option maxRecDepth 100000 in
theorem qv_L_31 : ew_CV qS qR_L qwg 31 qy_M_explore qc_M_explore 5 (some .int) qw_M_explore 1 := ⟨⟨⟨_, rfl⟩, wg_good _ (wg_t 620 rfl rfl), wg_t 10 rfl rfl, Or.inl (wg_t 617 rfl rfl), by decide +kernel, by decide +kernel, by decide +kernel⟩, wg_t 618 rfl rfl, wg_t 619 rfl rfl⟩
set_option maxRecDepth 100000 in
theorem qv_M_151 : ew_CV qS qR_M qwg 151 qy_M_perform qc_M_perform 4 (none) qw_M_perform 2 := ⟨⟨⟨_, rfl⟩, wg_good _ (wg_t 624 rfl rfl), wg_t 10 rfl rfl, Or.inl (wg_t 621 rfl rfl), by decide +kernel, by decide +kernel, by decide +kernel⟩, wg_t 623 rfl rfl, wg_s 18 rfl⟩
set_option maxRecDepth 100000 in
theorem qv_M_141 : ew_CV qS qR_M qwg 141 qy_M_transact qc_M_transact 5 (none) qw_M_transact 2 := ⟨⟨⟨_, rfl⟩, wg_good _ (wg_t 628 rfl rfl), wg_t 10 rfl rfl, Or.inl (wg_t 625 rfl rfl), by decide +kernel, by decide +kernel, by decide +kernel⟩, wg_t 627 rfl rfl, wg_s 19 rfl⟩
set_option maxRecDepth 100000 in
theorem qv_M_134 : ew_CV qS qR_M qwg 134 qy_M_faults qc_M_faults 2 (some .boolean) qw_M_faults 1 := ⟨⟨⟨_, rfl⟩, wg_good _ (wg_t 632 rfl rfl), wg_t 10 rfl rfl, Or.inl (wg_t 629 rfl rfl), by decide +kernel, by decide +kernel, by decide +kernel⟩, wg_t 631 rfl rfl, wg_s 20 rfl⟩
set_option maxRecDepth 100000 in
theorem qs_M_84 : ew_CS qS qR_M qwg 84 qy_M_cost qc_M_cost 1 (some .int) qw_M_cost 1 := ⟨⟨⟨_, rfl⟩, wg_good _ (wg_t 635 rfl rfl), wg_t 10 rfl rfl, Or.inl (wg_t 633 rfl rfl), by decide +kernel, by decide +kernel, by decide +kernel⟩, wg_t 634 rfl rfl⟩
set_option maxRecDepth 100000 in
theorem qs_M_91 : ew_CS qS qR_M qwg 91 qy_M_takes qc_M_takes 1 (some .int) qw_M_takes 1 := ⟨⟨⟨_, rfl⟩, wg_good _ (wg_t 638 rfl rfl), wg_t 10 rfl rfl, Or.inl (wg_t 636 rfl rfl), by decide +kernel, by decide +kernel, by decide +kernel⟩, wg_t 637 rfl rfl⟩
set_option maxRecDepth 100000 in
theorem qs_M_94 : ew_CS qS qR_M qwg 94 qy_M_puts qc_M_puts 1 (some .int) qw_M_puts 1 := ⟨⟨⟨_, rfl⟩, wg_good _ (wg_t 641 rfl rfl), wg_t 10 rfl rfl, Or.inl (wg_t 639 rfl rfl), by decide +kernel, by decide +kernel, by decide +kernel⟩, wg_t 640 rfl rfl⟩
set_option maxRecDepth 100000 in
theorem qv_M_97 : ew_CV qS qR_M qwg 97 qy_M_markOf qc_M_markOf 3 (some .int) qw_M_markOf 1 := ⟨⟨⟨_, rfl⟩, wg_good _ (wg_t 645 rfl rfl), wg_t 10 rfl rfl, Or.inl (wg_t 642 rfl rfl), by decide +kernel, by decide +kernel, by decide +kernel⟩, wg_t 644 rfl rfl, wg_s 21 rfl⟩
set_option maxRecDepth 100000 in
theorem qv_M_104 : ew_CV qS qR_M qwg 104 qy_M_note qc_M_note 2 (none) qw_M_note 1 := ⟨⟨⟨_, rfl⟩, wg_good _ (wg_t 649 rfl rfl), wg_t 10 rfl rfl, Or.inl (wg_t 646 rfl rfl), by decide +kernel, by decide +kernel, by decide +kernel⟩, wg_t 648 rfl rfl, wg_s 22 rfl⟩
set_option maxRecDepth 100000 in
theorem qv_M_138 : ew_CV qS qR_M qwg 138 qy_M_act qc_M_act 6 (some .int) qw_M_act 1 := ⟨⟨⟨_, rfl⟩, wg_good _ (wg_t 653 rfl rfl), wg_t 10 rfl rfl, Or.inl (wg_t 650 rfl rfl), by decide +kernel, by decide +kernel, by decide +kernel⟩, wg_t 652 rfl rfl, wg_s 23 rfl⟩
set_option maxRecDepth 100000 in
theorem qs_M_100 : ew_CS qS qR_M qwg 100 qy_M_overflows qc_M_overflows 3 (some .boolean) qw_M_overflows 3 := ⟨⟨⟨_, rfl⟩, wg_good _ (wg_t 656 rfl rfl), wg_t 10 rfl rfl, Or.inl (wg_t 654 rfl rfl), by decide +kernel, by decide +kernel, by decide +kernel⟩, wg_t 655 rfl rfl⟩
set_option maxRecDepth 100000 in
theorem qv_M_112 : ew_CV qS qR_M qwg 112 qy_M_give qc_M_give 2 (none) qw_M_give 1 := ⟨⟨⟨_, rfl⟩, wg_good _ (wg_t 660 rfl rfl), wg_t 10 rfl rfl, Or.inl (wg_t 657 rfl rfl), by decide +kernel, by decide +kernel, by decide +kernel⟩, wg_t 659 rfl rfl, wg_s 24 rfl⟩
set_option maxRecDepth 100000 in
theorem qv_M_121 : ew_CV qS qR_M qwg 121 qy_M_swap qc_M_swap 3 (none) qw_M_swap 1 := ⟨⟨⟨_, rfl⟩, wg_good _ (wg_t 664 rfl rfl), wg_t 10 rfl rfl, Or.inl (wg_t 661 rfl rfl), by decide +kernel, by decide +kernel, by decide +kernel⟩, wg_t 663 rfl rfl, wg_s 25 rfl⟩
set_option maxRecDepth 100000 in
theorem qv_M_127 : ew_CV qS qR_M qwg 127 qy_M_send qc_M_send 3 (none) qw_M_send 1 := ⟨⟨⟨_, rfl⟩, wg_good _ (wg_t 668 rfl rfl), wg_t 10 rfl rfl, Or.inl (wg_t 665 rfl rfl), by decide +kernel, by decide +kernel, by decide +kernel⟩, wg_t 667 rfl rfl, wg_s 26 rfl⟩
set_option maxRecDepth 100000 in
theorem qs_M_130 : ew_CS qS qR_M qwg 130 qy_M_worked qc_M_worked 3 (some .int) qw_M_worked 3 := ⟨⟨⟨_, rfl⟩, wg_good _ (wg_t 671 rfl rfl), wg_t 10 rfl rfl, Or.inl (wg_t 669 rfl rfl), by decide +kernel, by decide +kernel, by decide +kernel⟩, wg_t 670 rfl rfl⟩
set_option maxRecDepth 100000 in
theorem qv_M_154 : ew_CV qS qR_M qwg 154 qy_M_goes qc_M_goes 4 (some .boolean) qw_M_goes 1 := ⟨⟨⟨_, rfl⟩, wg_good _ (wg_t 675 rfl rfl), wg_t 10 rfl rfl, Or.inl (wg_t 672 rfl rfl), by decide +kernel, by decide +kernel, by decide +kernel⟩, wg_t 674 rfl rfl, wg_s 27 rfl⟩
set_option maxRecDepth 100000 in
theorem qv_M_157 : ew_CV qS qR_M qwg 157 qy_M_open qc_M_open 5 (none) qw_M_open 2 := ⟨⟨⟨_, rfl⟩, wg_good _ (wg_t 679 rfl rfl), wg_t 10 rfl rfl, Or.inl (wg_t 676 rfl rfl), by decide +kernel, by decide +kernel, by decide +kernel⟩, wg_t 678 rfl rfl, wg_s 28 rfl⟩
set_option maxRecDepth 100000 in
theorem qv_M_160 : ew_CV qS qR_M qwg 160 qy_M_count qc_M_count 4 (none) qw_M_count 2 := ⟨⟨⟨_, rfl⟩, wg_good _ (wg_t 683 rfl rfl), wg_t 10 rfl rfl, Or.inl (wg_t 680 rfl rfl), by decide +kernel, by decide +kernel, by decide +kernel⟩, wg_t 682 rfl rfl, wg_s 29 rfl⟩
set_option maxRecDepth 100000 in
theorem qv_L_35 : ew_CV qS qR_L qwg 35 qy_M_inputs qc_M_inputs 2 (some .int) qw_M_inputs 1 := ⟨⟨⟨_, rfl⟩, wg_good _ (wg_t 687 rfl rfl), wg_t 10 rfl rfl, Or.inl (wg_t 684 rfl rfl), by decide +kernel, by decide +kernel, by decide +kernel⟩, wg_t 685 rfl rfl, wg_t 686 rfl rfl⟩
set_option maxRecDepth 100000 in
theorem qv_M_163 : ew_CV qS qR_M qwg 163 qy_M_isPath qc_M_isPath 2 (some .boolean) qw_M_isPath 1 := ⟨⟨⟨_, rfl⟩, wg_good _ (wg_t 691 rfl rfl), wg_t 10 rfl rfl, Or.inl (wg_t 688 rfl rfl), by decide +kernel, by decide +kernel, by decide +kernel⟩, wg_t 690 rfl rfl, wg_s 30 rfl⟩
set_option maxRecDepth 100000 in
theorem qv_L_39 : ew_CV qS qR_L qwg 39 qy_M_witness qc_M_witness 2 (some .int) qw_M_witness 1 := ⟨⟨⟨_, rfl⟩, wg_good _ (wg_t 695 rfl rfl), wg_t 10 rfl rfl, Or.inl (wg_t 692 rfl rfl), by decide +kernel, by decide +kernel, by decide +kernel⟩, wg_t 693 rfl rfl, wg_t 694 rfl rfl⟩
set_option maxRecDepth 100000 in
theorem qv_L_43 : ew_CV qS qR_L qwg 43 qy_M_end qc_M_end 3 (some .int) qw_M_end 2 := ⟨⟨⟨_, rfl⟩, wg_good _ (wg_t 699 rfl rfl), wg_t 10 rfl rfl, Or.inl (wg_t 696 rfl rfl), by decide +kernel, by decide +kernel, by decide +kernel⟩, wg_t 697 rfl rfl, wg_t 698 rfl rfl⟩
set_option maxRecDepth 100000 in
theorem qv_L_48 : ew_CV qS qR_L qwg 48 qy_M_step qc_M_step 4 (some .int) qw_M_step 3 := ⟨⟨⟨_, rfl⟩, wg_good _ (wg_t 703 rfl rfl), wg_t 10 rfl rfl, Or.inl (wg_t 700 rfl rfl), by decide +kernel, by decide +kernel, by decide +kernel⟩, wg_t 701 rfl rfl, wg_t 702 rfl rfl⟩
set_option maxRecDepth 100000 in
theorem qv_L_52 : ew_CV qS qR_L qwg 52 qy_M_left qc_M_left 3 (some .int) qw_M_left 2 := ⟨⟨⟨_, rfl⟩, wg_good _ (wg_t 707 rfl rfl), wg_t 10 rfl rfl, Or.inl (wg_t 704 rfl rfl), by decide +kernel, by decide +kernel, by decide +kernel⟩, wg_t 705 rfl rfl, wg_t 706 rfl rfl⟩
set_option maxRecDepth 100000 in
theorem qv_L_56 : ew_CV qS qR_L qwg 56 qy_M_finding qc_M_finding 3 (some .int) qw_M_finding 2 := ⟨⟨⟨_, rfl⟩, wg_good _ (wg_t 711 rfl rfl), wg_t 10 rfl rfl, Or.inl (wg_t 708 rfl rfl), by decide +kernel, by decide +kernel, by decide +kernel⟩, wg_t 709 rfl rfl, wg_t 710 rfl rfl⟩
set_option maxRecDepth 100000 in
theorem qv_L_60 : ew_CV qS qR_L qwg 60 qy_M_risk qc_M_risk 4 (some .int) qw_M_risk 3 := ⟨⟨⟨_, rfl⟩, wg_good _ (wg_t 715 rfl rfl), wg_t 10 rfl rfl, Or.inl (wg_t 712 rfl rfl), by decide +kernel, by decide +kernel, by decide +kernel⟩, wg_t 713 rfl rfl, wg_t 714 rfl rfl⟩
set_option maxRecDepth 100000 in
theorem qv_L_64 : ew_CV qS qR_L qwg 64 qy_M_replay qc_M_replay 4 (some .int) qw_M_replay 2 := ⟨⟨⟨_, rfl⟩, wg_good _ (wg_t 719 rfl rfl), wg_t 10 rfl rfl, Or.inl (wg_t 716 rfl rfl), by decide +kernel, by decide +kernel, by decide +kernel⟩, wg_t 717 rfl rfl, wg_t 718 rfl rfl⟩
set_option maxRecDepth 100000 in
theorem qv_L_68 : ew_CV qS qR_L qwg 68 qy_M_replayed qc_M_replayed 2 (some .int) qw_M_replayed 1 := ⟨⟨⟨_, rfl⟩, wg_good _ (wg_t 723 rfl rfl), wg_t 10 rfl rfl, Or.inl (wg_t 720 rfl rfl), by decide +kernel, by decide +kernel, by decide +kernel⟩, wg_t 721 rfl rfl, wg_t 722 rfl rfl⟩
end
section
/-! constants -/
theorem ii_1 (a : Nat) : nI a + Int32.ofInt 1 = nI (a + 1) := nI_1 a
theorem bp_m2 : (Int8.ofInt (-2)).toInt32 = (-2) := by decide +kernel
theorem bp_6 : (Int8.ofInt 6).toInt32 = nI 6 := by decide +kernel
theorem bp_7 : (Int8.ofInt 7).toInt32 = nI 7 := by decide +kernel
theorem bp_8 : (Int8.ofInt 8).toInt32 = nI 8 := by decide +kernel
theorem bp_12 : (Int8.ofInt 12).toInt32 = nI 12 := by decide +kernel
theorem bp_13 : (Int8.ofInt 13).toInt32 = nI 13 := by decide +kernel
theorem bp_14 : (Int8.ofInt 14).toInt32 = nI 14 := by decide +kernel
theorem bp_15 : (Int8.ofInt 15).toInt32 = nI 15 := by decide +kernel
theorem bp_16 : (Int8.ofInt 16).toInt32 = nI 16 := by decide +kernel
theorem bp_17 : (Int8.ofInt 17).toInt32 = nI 17 := by decide +kernel
theorem bp_18 : (Int8.ofInt 18).toInt32 = nI 18 := by decide +kernel
theorem bp_19 : (Int8.ofInt 19).toInt32 = nI 19 := by decide +kernel
theorem bp_20 : (Int8.ofInt 20).toInt32 = nI 20 := by decide +kernel
theorem bp_21 : (Int8.ofInt 21).toInt32 = nI 21 := by decide +kernel
theorem bp_22 : (Int8.ofInt 22).toInt32 = nI 22 := by decide +kernel
theorem bp_23 : (Int8.ofInt 23).toInt32 = nI 23 := by decide +kernel
theorem bp_24 : (Int8.ofInt 24).toInt32 = nI 24 := by decide +kernel
theorem bp_25 : (Int8.ofInt 25).toInt32 = nI 25 := by decide +kernel
theorem bp_31 : (Int8.ofInt 31).toInt32 = nI 31 := by decide +kernel
theorem bp_32 : (Int8.ofInt 32).toInt32 = nI 32 := by decide +kernel
theorem bp_40 : (Int8.ofInt 40).toInt32 = nI 40 := by decide +kernel
theorem bp_41 : (Int8.ofInt 41).toInt32 = nI 41 := by decide +kernel
theorem bp_64 : (Int8.ofInt 64).toInt32 = nI 64 := by decide +kernel
theorem bp_80 : (Int8.ofInt 80).toInt32 = nI 80 := by decide +kernel
theorem bp_82 : (Int8.ofInt 82).toInt32 = nI 82 := by decide +kernel
theorem ic_m1 : Int32.ofInt (-1) = (-1) := by decide +kernel
theorem ic_0 : Int32.ofInt 0 = nI 0 := by decide +kernel
theorem ic_1 : Int32.ofInt 1 = nI 1 := by decide +kernel
theorem ic_2 : Int32.ofInt 2 = nI 2 := by decide +kernel
theorem ic_3 : Int32.ofInt 3 = nI 3 := by decide +kernel
theorem ic_4 : Int32.ofInt 4 = nI 4 := by decide +kernel
theorem ic_5 : Int32.ofInt 5 = nI 5 := by decide +kernel
theorem sp_160 : (Int16.ofInt 160).toInt32 = nI 160 := by decide +kernel
theorem sp_200 : (Int16.ofInt 200).toInt32 = nI 200 := by decide +kernel
theorem sp_320 : (Int16.ofInt 320).toInt32 = nI 320 := by decide +kernel
theorem sp_1600 : (Int16.ofInt 1600).toInt32 = nI 1600 := by decide +kernel
theorem sp_1640 : (Int16.ofInt 1640).toInt32 = nI 1640 := by decide +kernel
theorem sp_3280 : (Int16.ofInt 3280).toInt32 = nI 3280 := by decide +kernel
theorem sp_4096 : (Int16.ofInt 4096).toInt32 = nI 4096 := by decide +kernel
theorem sp_6400 : (Int16.ofInt 6400).toInt32 = nI 6400 := by decide +kernel
end
section
/-! leaves -/
def sfil (sg : SG) (o n : Nat) (x : Int32) : SG := fun q => if q = o then (fun i => if i < n then x else sg o i) else sg q
theorem sfil_0 (sg : SG) (o : Nat) (x : Int32) : sfil sg o 0 x = sg := by
  funext q i
  unfold sfil
  by_cases h : q = o
  · subst h; simp
  · simp [h]
theorem sfil_s (sg : SG) (o n : Nat) (x : Int32) : sup (sfil sg o n x) o n x = sfil sg o (n + 1) x := by
  funext q i
  unfold sup sfil upd
  by_cases h : q = o
  · subst h
    simp only [if_true]
    by_cases h1 : i = n
    · subst h1; simp
    · by_cases h2 : i < n
      · simp [h1, h2, Nat.lt_succ_of_lt h2]
      · have h3 : ¬ i < n + 1 := by omega
        simp [h1, h2, h3]
  · simp [h]
theorem sfil_at {sg : SG} {o n i : Nat} {x : Int32} (h : i < n) : sfil sg o n x o i = x := by
  unfold sfil; simp [h]
theorem sfil_n {sg : SG} {o n q : Nat} {x : Int32} (h : q ≠ o) : sfil sg o n x q = sg q := if_neg h
theorem k_A_fill (w : WC) (l : Launch) (sg : SG) {o n : Nat} (x : Int32) (ho : o < qS.2.2.1) (hL : qS.2.1 o = .inl (false, n)) (hn : n < 2 ^ 31) : ew_M qS w l qy_A_fill qw_A_fill qr_A_fill [.inr o, .inl x] sg (fun v sg' => v = none ∧ sg' = sfil sg o n x) := by
  refine ew_entry (ws' := qwg) (own := qR_A) (cc := qc_A_fill) (nL := 4) (ret := none) qnk (by decide) rfl rfl (Nat.le_of_ble_eq_true rfl) ?_
  intro k g hp
  have key : ∀ (d i : Nat), i + d = n → ew_E qS w 4 k 5 [some (.inr o), some (.inl x), some (.inl (nI i)), some (.inl (nI n))] [] (sfil sg o i x) := by
    intro d
    induction d with
    | zero =>
      intro i hi
      refine ew_iload_n g qd_A_fill_5 rfl ?_
      refine ew_iload_n g qd_A_fill_6 rfl ?_
      refine en_ge g qd_A_fill_7 (tgt := 20) (by decide) (by omega) (by omega) (fun h => ?_) (fun h => ?_)
      · refine ew_vret g qd_A_fill_20 hp ?_
        have e : i = n := by omega
        rw [e]
        exact ⟨rfl, rfl⟩
      · omega
    | succ d ih =>
      intro i hi
      refine ew_iload_n g qd_A_fill_5 rfl ?_
      refine ew_iload_n g qd_A_fill_6 rfl ?_
      refine en_ge g qd_A_fill_7 (tgt := 20) (by decide) (by omega) (by omega) (fun h => ?_) (fun h => ?_)
      · omega
      · refine ew_aload_n g qd_A_fill_10 rfl ?_
        refine ew_iload_n g qd_A_fill_11 rfl ?_
        refine ew_iload_n g qd_A_fill_12 rfl ?_
        refine en_iast g qd_A_fill_13 ho hL (by omega) (by omega) ?_
        refine ew_iinc g qd_A_fill_14 (by decide) rfl (ii_1 _) ?_
        refine ew_goto g qd_A_fill_17 (tgt := 5) (by decide) ?_
        exact en_sg (sfil_s sg o i x) (ih (i + 1) (by omega))
  refine ew_iconst g qd_A_fill_0 ic_0 ?_
  refine ew_istore_n g qd_A_fill_1 (by decide) ?_
  refine ew_aload_n g qd_A_fill_2 rfl ?_
  refine ew_alen g qd_A_fill_3 ho hL rfl ?_
  refine ew_istore_n g qd_A_fill_4 (by decide) ?_
  exact en_sg (sfil_0 sg o x).symm (key n 0 (by omega))
theorem k_X_isBelow (w : WC) (l : Launch) (sg : SG) (x n : Int32) : ew_M qS w l qy_X_isBelow qw_X_isBelow qr_X_isBelow [.inl x, .inl n] sg (fun v sg' => v = some (.inl (bI (decide (0 ≤ x ∧ x < n)))) ∧ sg' = sg) := by
  refine ew_entry (ws' := qwg) (own := qR_X) (cc := qc_X_isBelow) (nL := 2) (ret := some .boolean) qnk (by decide) rfl rfl (Nat.le_of_ble_eq_true rfl) ?_
  intro k g hp
  refine ew_iload_n g qd_X_isBelow_0 rfl ?_
  refine ew_if_lt g qd_X_isBelow_1 (tgt := 13) (by decide) (fun h => ?_) (fun h => ?_)
  · refine ew_iconst g qd_X_isBelow_13 ic_0 ?_
    refine ew_zret g qd_X_isBelow_14 hp (by first | exact bI_nar _ | decide +kernel) ?_
    have e : ¬ (0 ≤ x ∧ x < n) := fun q => Int32.not_lt.mpr q.1 h
    rw [decide_eq_false e]
    exact ⟨rfl, rfl⟩
  · refine ew_iload_n g qd_X_isBelow_4 rfl ?_
    refine ew_iload_n g qd_X_isBelow_5 rfl ?_
    refine ew_icmp_ge g qd_X_isBelow_6 (tgt := 13) (by decide) (fun h2 => ?_) (fun h2 => ?_)
    · refine ew_iconst g qd_X_isBelow_13 ic_0 ?_
      refine ew_zret g qd_X_isBelow_14 hp (by first | exact bI_nar _ | decide +kernel) ?_
      have e : ¬ (0 ≤ x ∧ x < n) := fun q => Int32.not_lt.mpr h2 q.2
      rw [decide_eq_false e]
      exact ⟨rfl, rfl⟩
    · refine ew_iconst g qd_X_isBelow_9 ic_1 ?_
      refine ew_goto g qd_X_isBelow_10 (tgt := 14) (by decide) ?_
      refine ew_zret g qd_X_isBelow_14 hp (by first | exact bI_nar _ | decide +kernel) ?_
      have e : 0 ≤ x ∧ x < n := ⟨Int32.not_lt.mp h, Int32.not_le.mp h2⟩
      rw [decide_eq_true e]
      exact ⟨rfl, rfl⟩
theorem k_X_wordOf (w : WC) (l : Launch) (sg : SG) (x i : Int32) : ew_M qS w l qy_X_wordOf qw_X_wordOf qr_X_wordOf [.inl x, .inl i] sg (fun v sg' => v = some (.inl (wOf x i)) ∧ sg' = sg) := by
  refine ew_entry (ws' := qwg) (own := qR_X) (cc := qc_X_wordOf) (nL := 2) (ret := some .int) qnk (by decide) rfl rfl (Nat.le_of_ble_eq_true rfl) ?_
  intro k g hp
  refine ew_iload_n g qd_X_wordOf_0 rfl ?_
  refine ew_iconst g qd_X_wordOf_1 ic_4 ?_
  refine ew_iload_n g qd_X_wordOf_2 rfl ?_
  refine ew_imul g qd_X_wordOf_3 ?_
  refine ew_ishr g qd_X_wordOf_4 ?_
  refine ew_bipush g qd_X_wordOf_5 bp_15 ?_
  refine ew_iand g qd_X_wordOf_7 ?_
  refine ew_iret g qd_X_wordOf_8 hp ?_
  exact ⟨rfl, rfl⟩
theorem k_X_withWord (w : WC) (l : Launch) (sg : SG) (x i y : Int32) : ew_M qS w l qy_X_withWord qw_X_withWord qr_X_withWord [.inl x, .inl i, .inl y] sg (fun v sg' => v = some (.inl (wWith x i y)) ∧ sg' = sg) := by
  refine ew_entry (ws' := qwg) (own := qR_X) (cc := qc_X_withWord) (nL := 3) (ret := some .int) qnk (by decide) rfl rfl (Nat.le_of_ble_eq_true rfl) ?_
  intro k g hp
  refine ew_iload_n g qd_X_withWord_0 rfl ?_
  refine ew_bipush g qd_X_withWord_1 bp_15 ?_
  refine ew_iconst g qd_X_withWord_3 ic_4 ?_
  refine ew_iload_n g qd_X_withWord_4 rfl ?_
  refine ew_imul g qd_X_withWord_5 ?_
  refine ew_ishl g qd_X_withWord_6 ?_
  refine ew_iconst g qd_X_withWord_7 ic_m1 ?_
  refine ew_ixor g qd_X_withWord_8 ?_
  refine ew_iand g qd_X_withWord_9 ?_
  refine ew_iload_n g qd_X_withWord_10 rfl ?_
  refine ew_iconst g qd_X_withWord_11 ic_4 ?_
  refine ew_iload_n g qd_X_withWord_12 rfl ?_
  refine ew_imul g qd_X_withWord_13 ?_
  refine ew_ishl g qd_X_withWord_14 ?_
  refine ew_ior g qd_X_withWord_15 ?_
  refine ew_iret g qd_X_withWord_16 hp ?_
  exact ⟨rfl, rfl⟩
theorem k_X_firstState (w : WC) (l : Launch) (sg : SG) {b : Nat} (hb : sg 0 4 = nI b) (hl : b < 16) : ew_M qS w l qy_X_firstState qw_X_firstState qr_X_firstState [.inr 0] sg (fun v sg' => v = some (.inl (nI (65536 * b))) ∧ sg' = sg) := by
  refine ew_entry (ws' := qwg) (own := qR_X) (cc := qc_X_firstState) (nL := 1) (ret := some .int) qnk (by decide) rfl rfl (Nat.le_of_ble_eq_true rfl) ?_
  intro k g hp
  refine ew_aload_n g qd_X_firstState_0 rfl ?_
  refine ew_get g qd_X_firstState_1 qf_X_31 (by decide) rfl rfl ?_
  refine en_top hb ?_
  refine ew_bipush g qd_X_firstState_4 bp_16 ?_
  refine ew_ishl g qd_X_firstState_6 ?_
  refine ew_iret g qd_X_firstState_7 hp ?_
  refine ⟨?_, rfl⟩
  rw [pk_shlN _ 16 (s_l 16 (by omega)) (by omega), Nat.mul_comm]
theorem k_K_wordUnder (w : WC) (l : Launch) (sg : SG) {d i : Nat} (hd : sg 1 2 = nI d) (h6 : d ≤ 6) (hi : i < 2 ^ 31) : ew_M qS w l qy_K_wordUnder qw_K_wordUnder qr_K_wordUnder [.inr 1, .inl (nI i)] sg (fun v sg' => v = some (.inl (if i < d then sg 6 (d - 1 - i) else nI 0)) ∧ sg' = sg) := by
  refine ew_entry (ws' := qwg) (own := qR_K) (cc := qc_K_wordUnder) (nL := 2) (ret := some .int) qnk (by decide) rfl rfl (Nat.le_of_ble_eq_true rfl) ?_
  intro k g hp
  refine ew_iload_n g qd_K_wordUnder_0 rfl ?_
  refine ew_aload_n g qd_K_wordUnder_1 rfl ?_
  refine ew_get g qd_K_wordUnder_2 qf_K_22 (by decide) rfl rfl ?_
  refine en_top hd ?_
  refine en_ge g qd_K_wordUnder_5 (tgt := 24) (by decide) (by omega) (by omega) (fun h => ?_) (fun h => ?_)
  · refine ew_iconst g qd_K_wordUnder_24 ic_0 ?_
    refine ew_iret g qd_K_wordUnder_25 hp ?_
    rw [if_neg (by omega)]
    exact ⟨rfl, rfl⟩
  · refine ew_aload_n g qd_K_wordUnder_8 rfl ?_
    refine ew_getR g qd_K_wordUnder_9 qf_K_18 (by decide) rfl rfl ?_
    refine ew_aload_n g qd_K_wordUnder_12 rfl ?_
    refine ew_get g qd_K_wordUnder_13 qf_K_22 (by decide) rfl rfl ?_
    refine en_top hd ?_
    refine ew_iconst g qd_K_wordUnder_16 ic_1 ?_
    refine ew_isub g qd_K_wordUnder_17 ?_
    refine en_top (pk_sub (by omega)) ?_
    refine ew_iload_n g qd_K_wordUnder_18 rfl ?_
    refine ew_isub g qd_K_wordUnder_19 ?_
    refine en_top (pk_sub (by omega)) ?_
    refine en_iald g qd_K_wordUnder_20 (by decide) rfl (by omega) (by omega) rfl ?_
    refine ew_goto g qd_K_wordUnder_21 (tgt := 25) (by decide) ?_
    refine ew_iret g qd_K_wordUnder_25 hp ?_
    rw [if_pos h]
    exact ⟨rfl, rfl⟩
theorem k_K_note (w : WC) (l : Launch) (sg : SG) {a kd : Nat} (ha : sg 1 5 = nI a) (hk : kd < 5) : ew_M qS w l qy_K_note qw_K_note qr_K_note [.inr 1, .inl (nI kd)] sg (fun v sg' => v = none ∧ sg' = sup sg 8 kd (sg 8 kd ||| (nI 1 <<< (nI a &&& 31)))) := by
  refine ew_entry (ws' := qwg) (own := qR_K) (cc := qc_K_note) (nL := 2) (ret := none) qnk (by decide) rfl rfl (Nat.le_of_ble_eq_true rfl) ?_
  intro k g hp
  refine ew_aload_n g qd_K_note_0 rfl ?_
  refine ew_getR g qd_K_note_1 qf_K_57 (by decide) rfl rfl ?_
  refine ew_iload_n g qd_K_note_4 rfl ?_
  refine ew_dup2 g qd_K_note_5 ?_
  refine en_iald g qd_K_note_6 (by decide) rfl (by omega) (by omega) rfl ?_
  refine ew_iconst g qd_K_note_7 ic_1 ?_
  refine ew_aload_n g qd_K_note_8 rfl ?_
  refine ew_get g qd_K_note_9 qf_K_32 (by decide) rfl rfl ?_
  refine en_top ha ?_
  refine ew_ishl g qd_K_note_12 ?_
  refine ew_ior g qd_K_note_13 ?_
  refine en_iast g qd_K_note_14 (by decide) rfl (by omega) (by omega) ?_
  refine ew_vret g qd_K_note_15 hp ?_
  exact ⟨rfl, rfl⟩
theorem k_K_swap (w : WC) (l : Launch) (sg : SG) {i j : Nat} (hi : i < 6) (hj : j < 6) : ew_M qS w l qy_K_swap qw_K_swap qr_K_swap [.inr 1, .inl (nI i), .inl (nI j)] sg (fun v sg' => v = none ∧ sg' = sup (sup sg 6 i (sg 6 j)) 6 j (sg 6 i)) := by
  refine ew_entry (ws' := qwg) (own := qR_K) (cc := qc_K_swap) (nL := 4) (ret := none) qnk (by decide) rfl rfl (Nat.le_of_ble_eq_true rfl) ?_
  intro k g hp
  refine ew_aload_n g qd_K_swap_0 rfl ?_
  refine ew_getR g qd_K_swap_1 qf_K_18 (by decide) rfl rfl ?_
  refine ew_iload_n g qd_K_swap_4 rfl ?_
  refine en_iald g qd_K_swap_5 (by decide) rfl (by omega) (by omega) rfl ?_
  refine ew_istore_n g qd_K_swap_6 (by decide) ?_
  refine ew_aload_n g qd_K_swap_7 rfl ?_
  refine ew_getR g qd_K_swap_8 qf_K_18 (by decide) rfl rfl ?_
  refine ew_iload_n g qd_K_swap_11 rfl ?_
  refine ew_aload_n g qd_K_swap_12 rfl ?_
  refine ew_getR g qd_K_swap_13 qf_K_18 (by decide) rfl rfl ?_
  refine ew_iload_n g qd_K_swap_16 rfl ?_
  refine en_iald g qd_K_swap_17 (by decide) rfl (by omega) (by omega) rfl ?_
  refine en_iast g qd_K_swap_18 (by decide) rfl (by omega) (by omega) ?_
  refine ew_aload_n g qd_K_swap_19 rfl ?_
  refine ew_getR g qd_K_swap_20 qf_K_18 (by decide) rfl rfl ?_
  refine ew_iload_n g qd_K_swap_23 rfl ?_
  refine ew_iload_n g qd_K_swap_24 rfl ?_
  refine en_iast g qd_K_swap_25 (by decide) rfl (by omega) (by omega) ?_
  refine ew_vret g qd_K_swap_26 hp ?_
  exact ⟨rfl, rfl⟩
theorem k_K_send (w : WC) (l : Launch) (sg : SG) {c : Nat → Nat} {x : Nat} (hs : sg 1 3 = nI (pk5 c)) (hc : c16 c) (hx : x < 16) : ew_M qS w l qy_K_send qw_K_send qr_K_send [.inr 1, .inl (nI x)] sg (fun v sg' => (x ≤ c 4 ∧ v = some (.inl (nI 1)) ∧ sg' = sup (sup sg 1 3 (nI (pk5 (nup c 4 (c 4 - x))))) 1 9 (bI true)) ∨ (c 4 < x ∧ v = some (.inl (nI 0)) ∧ sg' = sg)) := by
  have h4 := hc 4 (by omega)
  refine ew_entry (ws' := qwg) (own := qR_K) (cc := qc_K_send) (nL := 2) (ret := some .int) qnk (by decide) rfl rfl (Nat.le_of_ble_eq_true rfl) ?_
  intro k g hp
  refine ew_iload_n g qd_K_send_0 rfl ?_
  refine ew_aload_n g qd_K_send_1 rfl ?_
  refine ew_get g qd_K_send_2 qf_K_26 (by decide) rfl rfl ?_
  refine en_top hs ?_
  refine ew_bipush g qd_K_send_5 bp_16 ?_
  refine ew_ishr g qd_K_send_7 ?_
  refine en_top (bal_c hc) ?_
  refine en_le g qd_K_send_8 (tgt := 13) (by decide) (by omega) (by omega) (fun h => ?_) (fun h => ?_)
  · refine ew_aload_n g qd_K_send_13 rfl ?_
    refine ew_dup g qd_K_send_14 ?_
    refine ew_get g qd_K_send_15 qf_K_26 (by decide) rfl rfl ?_
    refine en_top hs ?_
    refine ew_iload_n g qd_K_send_18 rfl ?_
    refine ew_bipush g qd_K_send_19 bp_16 ?_
    refine ew_ishl g qd_K_send_21 ?_
    refine en_top (pk_shlN _ 16 (s_l 16 (by omega)) (by omega)) ?_
    refine ew_isub g qd_K_send_22 ?_
    refine en_top (pk_sub (by unfold pk5; omega)) ?_
    refine ew_put g qd_K_send_23 qf_K_26 (qp_K_state _) (by decide) rfl rfl ?_
    refine ew_aload_n g qd_K_send_26 rfl ?_
    refine ew_iconst g qd_K_send_27 ic_1 ?_
    refine en_top bI_t.symm ?_
    refine ew_put g qd_K_send_28 qf_K_44 (qp_K_hasSent _) (by decide) rfl rfl ?_
    refine ew_iconst g qd_K_send_31 ic_1 ?_
    refine ew_iret g qd_K_send_32 hp ?_
    left
    refine ⟨h, rfl, ?_⟩
    congr 3
    unfold pk5 nup
    simp
    omega
  · refine ew_iconst g qd_K_send_11 ic_0 ?_
    refine ew_iret g qd_K_send_12 hp ?_
    exact Or.inr ⟨h, rfl, rfl⟩
end
section
/-! the object under test holds a code, a machine -/
def mkI (cd : CDE) (a : Nat) : Int32 := match mkAt cd a with
  | none => -1
  | some k => nI k
def fI (f : Option Nat) : Int32 := match f with
  | none => -1
  | some k => nI k
def xCode (sg : SG) (cd : CDE) : Prop := cdOK cd ∧ sg 2 3 = nI cd.1 ∧ (∀ i, i < cd.1 → sg 3 i = nI (cd.2.1 i) ∧ sg 4 i = nI (cd.2.2 i)) ∧ ∀ a, a < 16 → sg 5 a = mkI cd a
def xMach (sg : SG) (s : PM) (inp cal : Nat) : Prop := pOK s ∧ sg 1 2 = nI (pDe s) ∧ (∀ i, i < pDe s → sg 6 i = nI (pSt s i)) ∧ sg 1 3 = nI (pk5 (pCe s)) ∧ sg 1 4 = nI (pGa s) ∧ sg 1 5 = nI (pAt s) ∧ sg 1 9 = bI (pSe s) ∧ (∀ kd, kd < 5 → ∀ i, i < 32 → bt (sg 8 kd) i = pFo s kd i) ∧ (sg 1 7 = nI inp ∧ inp < 16) ∧ (sg 1 8 = nI cal ∧ cal < 4) ∧ sg 1 6 = nI (pHo s)
def xFr (sg sg' : SG) : Prop := (∀ o, o ≠ 1 → o ≠ 6 → o ≠ 8 → sg' o = sg o) ∧ sg' 1 11 = sg 1 11 ∧ sg' 1 12 = sg 1 12
theorem xFr.rf (sg : SG) : xFr sg sg := ⟨fun _ _ _ _ => rfl, rfl, rfl⟩
theorem xFr.tr {a b c : SG} (h : xFr a b) (h' : xFr b c) : xFr a c := ⟨fun o h1 h2 h3 => (h'.1 o h1 h2 h3).trans (h.1 o h1 h2 h3), h'.2.1.trans h.2.1, h'.2.2.trans h.2.2⟩
theorem xFr.code {sg sg' : SG} {cd : CDE} (h : xFr sg sg') (hc : xCode sg cd) : xCode sg' cd := by
  unfold xCode at hc ⊢
  rw [h.1 2 (by decide) (by decide) (by decide), h.1 3 (by decide) (by decide) (by decide), h.1 4 (by decide) (by decide) (by decide), h.1 5 (by decide) (by decide) (by decide)]
  exact hc
theorem xFr_f {sg : SG} {i : Nat} {x : Int32} (h : i ≠ 11) (h' : i ≠ 12) : xFr sg (sup sg 1 i x) := ⟨fun o h1 _ _ => sup_n h1, by rw [sup_s, pk_un (by omega)], by rw [sup_s, pk_un (by omega)]⟩
theorem xFr_a {sg : SG} {o i : Nat} {x : Int32} (h : o = 6 ∨ o = 8) : xFr sg (sup sg o i x) := ⟨fun q _ h2 h3 => sup_n (by rcases h with rfl | rfl <;> assumption), by rw [sup_n (by omega)], by rw [sup_n (by omega)]⟩
theorem xM_un {sg : SG} {s : PM} {inp cal : Nat} (h : xMach sg s inp cal) (i : Nat) : (if i < pDe s then sg 6 (pDe s - 1 - i) else nI 0) = nI (pUn s i) := by
  unfold pUn
  split
  · exact h.2.2.1 _ (by omega)
  · rfl
theorem b_one (a : Nat) (ha : a < 32) {i : Nat} (hi : i < 32) : bt (nI 1 <<< (nI a &&& 31)) i = decide (i = a) := by
  rw [b_shl a ha (nI 1) hi]
  have h1 : ∀ j, j < 32 → bt (nI 1) j = decide (j = 0) := by decide +kernel
  rw [h1 _ (by omega)]
  by_cases h : i = a
  · subst h; simp
  · by_cases h2 : a ≤ i
    · have : ¬ i - a = 0 := by omega
      simp [h, this]
    · simp [h, h2]
theorem xM_note {sg : SG} {s : PM} {inp cal kd : Nat} (h : xMach sg s inp cal) (ha : pAt s < 32) (hk : kd < 5) : xMach (sup sg 8 kd (sg 8 kd ||| (nI 1 <<< (nI (pAt s) &&& 31)))) (pNote s (fup (pFo s) kd (pAt s))) inp cal := by
  obtain ⟨h1, h2, h3, h4, h5, h6, h7, h8, h9, h10, h11⟩ := h
  have e1 : sup sg 8 kd (sg 8 kd ||| (nI 1 <<< (nI (pAt s) &&& 31))) 1 = sg 1 := sup_n (by decide)
  have e6 : sup sg 8 kd (sg 8 kd ||| (nI 1 <<< (nI (pAt s) &&& 31))) 6 = sg 6 := sup_n (by decide)
  unfold xMach
  rw [e1, e6]
  refine ⟨pNote_ok h1, h2, h3, h4, h5, h6, h7, fun k hk' i hi => ?_, h9, h10, h11⟩
  rw [sup_s]
  show _ = fup (pFo s) kd (pAt s) k i
  unfold upd fup
  by_cases e : k = kd
  · subst e
    rw [if_pos rfl, b_or, h8 k hk i hi, b_one _ ha hi]
    by_cases e2 : i = pAt s
    · simp [e2]
    · simp [e2]
  · rw [if_neg e, if_neg (fun q => e q.1)]
    exact h8 k hk' i hi
/-- a write of one field: what else stays -/
theorem xM_at {sg : SG} {s s' : PM} {inp cal i : Nat} {x : Int32} (h : xMach sg s inp cal) (hok : pOK s') (hst : ∀ j, j < pDe s' → j < pDe s ∧ pSt s' j = pSt s j) (hfo : pFo s' = pFo s) (hi : i = 2 ∨ i = 3 ∨ i = 4 ∨ i = 5 ∨ i = 6 ∨ i = 9)
    (h2 : upd (sg 1) i x 2 = nI (pDe s')) (h3 : upd (sg 1) i x 3 = nI (pk5 (pCe s'))) (h4 : upd (sg 1) i x 4 = nI (pGa s')) (h5 : upd (sg 1) i x 5 = nI (pAt s')) (h6 : upd (sg 1) i x 6 = nI (pHo s')) (h9 : upd (sg 1) i x 9 = bI (pSe s')) : xMach (sup sg 1 i x) s' inp cal := by
  have e1 : sup sg 1 i x 1 = upd (sg 1) i x := sup_s
  have e6 : sup sg 1 i x 6 = sg 6 := sup_n (by decide)
  have e8 : sup sg 1 i x 8 = sg 8 := sup_n (by decide)
  unfold xMach
  rw [e1, e6, e8, hfo]
  refine ⟨hok, h2, fun j hj => ?_, h3, h4, h5, h9, h.2.2.2.2.2.2.2.1, ?_, ?_, h6⟩
  · rw [(hst j hj).2]
    exact h.2.2.1 j (hst j hj).1
  · rw [pk_un (by omega)]
    exact h.2.2.2.2.2.2.2.2.1
  · rw [pk_un (by omega)]
    exact h.2.2.2.2.2.2.2.2.2.1
end
section
theorem o_small : ∀ o, o < 25 → oTake o ≤ 2 ∧ oCost o ≤ 5 ∧ 1 ≤ oCost o ∧ oPuts o ≤ 1 := by decide +kernel
theorem mkI_m {cd : CDE} (hc : cd.1 ≤ 32) (a : Nat) : mkI cd a = -1 ↔ mkAt cd a = none := by
  unfold mkI
  cases h : mkAt cd a with
  | none => simp
  | some k =>
    have := (mkAt_lt h).1
    have h1 := nI_m1 (a := k) (by omega)
    simp [h1]
theorem k_K_faultOf (w : WC) (l : Launch) (sg : SG) {cd : CDE} {s : PM} {inp cal o a : Nat} (hc : xCode sg cd) (hm : xMach sg s inp cal) (ho : o < 25) (ha : a < 16) : ew_M qS w l qy_K_faultOf qw_K_faultOf qr_K_faultOf [.inr 1, .inl (nI o), .inl (nI a)] sg (fun v sg' => v = some (.inl (fI (pFault cd s o a))) ∧ sg' = sg) := by
  obtain ⟨hok, h2, h3, h4, h5, h6, h7, h8, h9, h10, h11⟩ := id hm
  have hd6 := hok.1
  have hg := hok.2.2.2.1
  have hcd := hc.1.1
  obtain ⟨hT, hC, hC1, hPu⟩ := o_small o ho
  refine ew_entry (ws' := qwg) (own := qR_K) (cc := qc_K_faultOf) (nL := 4) (ret := some .int) qnk (by decide) rfl rfl (Nat.le_of_ble_eq_true rfl) ?_
  intro k g hp
  rcases Nat.lt_or_ge (pDe s) (oTake o) with hlt | hge
  · have hF : pFault cd s o a = some 4 := by unfold pFault; rw [if_pos (Or.inr (Or.inl hlt))]
    refine ew_aload_n g qd_K_faultOf_0 rfl ?_
    refine ew_get g qd_K_faultOf_1 qf_K_22 (by decide) rfl rfl ?_
    refine en_top h2 ?_
    refine ew_gets g qd_K_faultOf_4 (j := 1) rfl qf_K_104 ?_
    refine ew_iload_n g qd_K_faultOf_7 rfl ?_
    refine en_tald g qd_K_faultOf_8 (j := 1) rfl (by omega) (by omega) rfl ?_
    refine ew_isub g qd_K_faultOf_9 ?_
    refine ew_istore_n g qd_K_faultOf_10 (by decide) ?_
    refine ew_aload_n g qd_K_faultOf_11 rfl ?_
    refine ew_get g qd_K_faultOf_12 qf_K_29 (by decide) rfl rfl ?_
    refine en_top h5 ?_
    refine ew_gets g qd_K_faultOf_15 (j := 0) rfl qf_K_101 ?_
    refine ew_iload_n g qd_K_faultOf_18 rfl ?_
    refine en_tald g qd_K_faultOf_19 (j := 0) rfl (by omega) (by omega) rfl ?_
    refine en_lt g qd_K_faultOf_20 (tgt := 39) (by decide) (by omega) (by omega) (fun h => ?_) (fun h => ?_)
    · refine ew_iconst g qd_K_faultOf_39 ic_4 ?_
      refine ew_iret g qd_K_faultOf_40 hp ?_
      rw [hF]; exact ⟨rfl, rfl⟩
    · refine ew_iload_n g qd_K_faultOf_23 rfl ?_
      refine ew_if_lt g qd_K_faultOf_24 (tgt := 39) (by decide) (fun h' => ?_) (fun h' => ?_)
      · refine ew_iconst g qd_K_faultOf_39 ic_4 ?_
        refine ew_iret g qd_K_faultOf_40 hp ?_
        rw [hF]; exact ⟨rfl, rfl⟩
      · exact absurd (pk_sneg (by omega) hlt) h'
  · refine ew_aload_n g qd_K_faultOf_0 rfl ?_
    refine ew_get g qd_K_faultOf_1 qf_K_22 (by decide) rfl rfl ?_
    refine en_top h2 ?_
    refine ew_gets g qd_K_faultOf_4 (j := 1) rfl qf_K_104 ?_
    refine ew_iload_n g qd_K_faultOf_7 rfl ?_
    refine en_tald g qd_K_faultOf_8 (j := 1) rfl (by omega) (by omega) rfl ?_
    refine ew_isub g qd_K_faultOf_9 ?_
    refine en_top (pk_sub hge) ?_
    refine ew_istore_n g qd_K_faultOf_10 (by decide) ?_
    refine ew_aload_n g qd_K_faultOf_11 rfl ?_
    refine ew_get g qd_K_faultOf_12 qf_K_29 (by decide) rfl rfl ?_
    refine en_top h5 ?_
    refine ew_gets g qd_K_faultOf_15 (j := 0) rfl qf_K_101 ?_
    refine ew_iload_n g qd_K_faultOf_18 rfl ?_
    refine en_tald g qd_K_faultOf_19 (j := 0) rfl (by omega) (by omega) rfl ?_
    refine en_lt g qd_K_faultOf_20 (tgt := 39) (by decide) (by omega) (by omega) (fun h => ?_) (fun h => ?_)
    · have hF : pFault cd s o a = some 4 := by unfold pFault; rw [if_pos (Or.inl h)]
      refine ew_iconst g qd_K_faultOf_39 ic_4 ?_
      refine ew_iret g qd_K_faultOf_40 hp ?_
      rw [hF]; exact ⟨rfl, rfl⟩
    · refine ew_iload_n g qd_K_faultOf_23 rfl ?_
      refine ew_if_lt g qd_K_faultOf_24 (tgt := 39) (by decide) (fun h' => ?_) (fun h' => ?_)
      · exact absurd h' (nI_pos (by omega))
      · refine ew_iload_n g qd_K_faultOf_27 rfl ?_
        refine ew_gets g qd_K_faultOf_28 (j := 2) rfl qf_K_107 ?_
        refine ew_iload_n g qd_K_faultOf_31 rfl ?_
        refine en_tald g qd_K_faultOf_32 (j := 2) rfl (by omega) (by omega) rfl ?_
        refine ew_iadd g qd_K_faultOf_33 ?_
        refine en_top (nI_add _ _) ?_
        refine ew_bipush g qd_K_faultOf_34 bp_6 ?_
        refine en_le g qd_K_faultOf_36 (tgt := 41) (by decide) (by omega) (by omega) (fun h6 => ?_) (fun h6 => ?_)
        · have h0 : ¬ (pGa s < oCost o ∨ pDe s < oTake o ∨ 6 < pDe s - oTake o + oPuts o) := by omega
          have hF := (show pFault cd s o a = _ by unfold pFault; rw [if_neg h0])
          refine ew_iload_n g qd_K_faultOf_41 rfl ?_
          rcases (by omega : o = 0 ∨ o = 1 ∨ o = 2 ∨ o = 3 ∨ o = 4 ∨ o = 5 ∨ o = 6 ∨ o = 7 ∨ o = 8 ∨ o = 9 ∨ o = 10 ∨ o = 11 ∨ o = 12 ∨ o = 13 ∨ o = 14 ∨ o = 15 ∨ o = 16 ∨ o = 17 ∨ o = 18 ∨ o = 19 ∨ o = 20 ∨ o = 21 ∨ o = 22 ∨ o = 23 ∨ o = 24) with rfl | rfl | rfl | rfl | rfl | rfl | rfl | rfl | rfl | rfl | rfl | rfl | rfl | rfl | rfl | rfl | rfl | rfl | rfl | rfl | rfl | rfl | rfl | rfl | rfl
          · refine ew_lsw g qd_K_faultOf_42 (off := 148) (tgt := 190) (by decide +kernel) (by decide +kernel) (by decide) ?_
            refine ew_iconst g qd_K_faultOf_190 ic_m1 ?_
            refine ew_iret g qd_K_faultOf_191 hp ?_
            rw [hF]; exact ⟨rfl, rfl⟩
          · refine ew_lsw g qd_K_faultOf_42 (off := 148) (tgt := 190) (by decide +kernel) (by decide +kernel) (by decide) ?_
            refine ew_iconst g qd_K_faultOf_190 ic_m1 ?_
            refine ew_iret g qd_K_faultOf_191 hp ?_
            rw [hF]; exact ⟨rfl, rfl⟩
          · refine ew_lsw g qd_K_faultOf_42 (off := 148) (tgt := 190) (by decide +kernel) (by decide +kernel) (by decide) ?_
            refine ew_iconst g qd_K_faultOf_190 ic_m1 ?_
            refine ew_iret g qd_K_faultOf_191 hp ?_
            rw [hF]; exact ⟨rfl, rfl⟩
          · refine ew_lsw g qd_K_faultOf_42 (off := 50) (tgt := 92) (by decide +kernel) (by decide +kernel) (by decide) ?_
            refine ew_iload_n g qd_K_faultOf_92 rfl ?_
            refine ew_aload_n g qd_K_faultOf_93 rfl ?_
            refine ew_get g qd_K_faultOf_94 qf_K_22 (by decide) rfl rfl ?_
            refine en_top h2 ?_
            refine en_ge g qd_K_faultOf_97 (tgt := 104) (by decide) (by omega) (by omega) (fun hh => ?_) (fun hh => ?_)
            · refine ew_iconst g qd_K_faultOf_104 ic_4 ?_
              refine ew_iret g qd_K_faultOf_105 hp ?_
              rw [hF, if_pos rfl, if_neg (by omega)]; exact ⟨rfl, rfl⟩
            · refine ew_iconst g qd_K_faultOf_100 ic_m1 ?_
              refine ew_goto g qd_K_faultOf_101 (tgt := 105) (by decide) ?_
              refine ew_iret g qd_K_faultOf_105 hp ?_
              rw [hF, if_pos rfl, if_pos hh]; exact ⟨rfl, rfl⟩
          · refine ew_lsw g qd_K_faultOf_42 (off := 64) (tgt := 106) (by decide +kernel) (by decide +kernel) (by decide) ?_
            refine ew_iload_n g qd_K_faultOf_106 rfl ?_
            refine ew_iconst g qd_K_faultOf_107 ic_1 ?_
            refine ew_iadd g qd_K_faultOf_108 ?_
            refine en_top (nI_add _ _) ?_
            refine ew_aload_n g qd_K_faultOf_109 rfl ?_
            refine ew_get g qd_K_faultOf_110 qf_K_22 (by decide) rfl rfl ?_
            refine en_top h2 ?_
            refine en_ge g qd_K_faultOf_113 (tgt := 120) (by decide) (by omega) (by omega) (fun hh => ?_) (fun hh => ?_)
            · refine ew_iconst g qd_K_faultOf_120 ic_4 ?_
              refine ew_iret g qd_K_faultOf_121 hp ?_
              rw [hF, if_neg (by decide), if_pos rfl, if_neg (by omega)]; exact ⟨rfl, rfl⟩
            · refine ew_iconst g qd_K_faultOf_116 ic_m1 ?_
              refine ew_goto g qd_K_faultOf_117 (tgt := 121) (by decide) ?_
              refine ew_iret g qd_K_faultOf_121 hp ?_
              rw [hF, if_neg (by decide), if_pos rfl, if_pos hh]; exact ⟨rfl, rfl⟩
          · refine ew_lsw g qd_K_faultOf_42 (off := 148) (tgt := 190) (by decide +kernel) (by decide +kernel) (by decide) ?_
            refine ew_iconst g qd_K_faultOf_190 ic_m1 ?_
            refine ew_iret g qd_K_faultOf_191 hp ?_
            rw [hF]; exact ⟨rfl, rfl⟩
          · refine ew_lsw g qd_K_faultOf_42 (off := 148) (tgt := 190) (by decide +kernel) (by decide +kernel) (by decide) ?_
            refine ew_iconst g qd_K_faultOf_190 ic_m1 ?_
            refine ew_iret g qd_K_faultOf_191 hp ?_
            rw [hF]; exact ⟨rfl, rfl⟩
          · refine ew_lsw g qd_K_faultOf_42 (off := 148) (tgt := 190) (by decide +kernel) (by decide +kernel) (by decide) ?_
            refine ew_iconst g qd_K_faultOf_190 ic_m1 ?_
            refine ew_iret g qd_K_faultOf_191 hp ?_
            rw [hF]; exact ⟨rfl, rfl⟩
          · refine ew_lsw g qd_K_faultOf_42 (off := 148) (tgt := 190) (by decide +kernel) (by decide +kernel) (by decide) ?_
            refine ew_iconst g qd_K_faultOf_190 ic_m1 ?_
            refine ew_iret g qd_K_faultOf_191 hp ?_
            rw [hF]; exact ⟨rfl, rfl⟩
          · refine ew_lsw g qd_K_faultOf_42 (off := 148) (tgt := 190) (by decide +kernel) (by decide +kernel) (by decide) ?_
            refine ew_iconst g qd_K_faultOf_190 ic_m1 ?_
            refine ew_iret g qd_K_faultOf_191 hp ?_
            rw [hF]; exact ⟨rfl, rfl⟩
          · refine ew_lsw g qd_K_faultOf_42 (off := 148) (tgt := 190) (by decide +kernel) (by decide +kernel) (by decide) ?_
            refine ew_iconst g qd_K_faultOf_190 ic_m1 ?_
            refine ew_iret g qd_K_faultOf_191 hp ?_
            rw [hF]; exact ⟨rfl, rfl⟩
          · refine ew_lsw g qd_K_faultOf_42 (off := 148) (tgt := 190) (by decide +kernel) (by decide +kernel) (by decide) ?_
            refine ew_iconst g qd_K_faultOf_190 ic_m1 ?_
            refine ew_iret g qd_K_faultOf_191 hp ?_
            rw [hF]; exact ⟨rfl, rfl⟩
          · refine ew_lsw g qd_K_faultOf_42 (off := 148) (tgt := 190) (by decide +kernel) (by decide +kernel) (by decide) ?_
            refine ew_iconst g qd_K_faultOf_190 ic_m1 ?_
            refine ew_iret g qd_K_faultOf_191 hp ?_
            rw [hF]; exact ⟨rfl, rfl⟩
          · refine ew_lsw g qd_K_faultOf_42 (off := 148) (tgt := 190) (by decide +kernel) (by decide +kernel) (by decide) ?_
            refine ew_iconst g qd_K_faultOf_190 ic_m1 ?_
            refine ew_iret g qd_K_faultOf_191 hp ?_
            rw [hF]; exact ⟨rfl, rfl⟩
          · refine ew_lsw g qd_K_faultOf_42 (off := 148) (tgt := 190) (by decide +kernel) (by decide +kernel) (by decide) ?_
            refine ew_iconst g qd_K_faultOf_190 ic_m1 ?_
            refine ew_iret g qd_K_faultOf_191 hp ?_
            rw [hF]; exact ⟨rfl, rfl⟩
          · refine ew_lsw g qd_K_faultOf_42 (off := 148) (tgt := 190) (by decide +kernel) (by decide +kernel) (by decide) ?_
            refine ew_iconst g qd_K_faultOf_190 ic_m1 ?_
            refine ew_iret g qd_K_faultOf_191 hp ?_
            rw [hF]; exact ⟨rfl, rfl⟩
          · refine ew_lsw g qd_K_faultOf_42 (off := 148) (tgt := 190) (by decide +kernel) (by decide +kernel) (by decide) ?_
            refine ew_iconst g qd_K_faultOf_190 ic_m1 ?_
            refine ew_iret g qd_K_faultOf_191 hp ?_
            rw [hF]; exact ⟨rfl, rfl⟩
          · refine ew_lsw g qd_K_faultOf_42 (off := 80) (tgt := 122) (by decide +kernel) (by decide +kernel) (by decide) ?_
            refine ew_aload_n g qd_K_faultOf_122 rfl ?_
            refine ew_getR g qd_K_faultOf_123 qf_K_12 (by decide) rfl rfl ?_
            refine ew_getR g qd_K_faultOf_126 qf_K_118 (by decide) rfl rfl ?_
            refine ew_aload_n g qd_K_faultOf_129 rfl ?_
            refine ew_iconst g qd_K_faultOf_130 ic_0 ?_
            refine ew_callV g qd_K_faultOf_131 (k_K_wordUnder w k.2.1 sg h2 hd6 (by decide)) qv_K_94 (by decide) rfl ⟨_, _, rfl⟩ rfl rfl (Nat.le_of_ble_eq_true rfl) ⟨rfl, rfl, by decide, by decide⟩ (fun v sg1 hv => ?_)
            obtain ⟨rfl, rfl⟩ := hv
            refine en_top (xM_un hm 0) ?_
            refine en_iald g qd_K_faultOf_134 (by decide) rfl (pUn_lt hok 0) (by omega) (hc.2.2.2 _ (pUn_lt hok 0)) ?_
            refine ew_iconst g qd_K_faultOf_135 ic_m1 ?_
            refine ew_icmp_eq g qd_K_faultOf_136 (tgt := 143) (by decide) (fun hh => ?_) (fun hh => ?_)
            · have hn := (mkI_m hcd _).mp hh
              refine ew_iconst g qd_K_faultOf_143 ic_4 ?_
              refine ew_iret g qd_K_faultOf_144 hp ?_
              rw [hF, if_neg (by decide), if_neg (by decide), if_pos rfl, hn]; exact ⟨rfl, rfl⟩
            · have hn : (mkAt cd (pUn s 0)).isSome = true := Option.isSome_iff_ne_none.mpr (fun q => hh ((mkI_m hcd _).mpr q))
              refine ew_iconst g qd_K_faultOf_139 ic_m1 ?_
              refine ew_goto g qd_K_faultOf_140 (tgt := 144) (by decide) ?_
              refine ew_iret g qd_K_faultOf_144 hp ?_
              rw [hF, if_neg (by decide), if_neg (by decide), if_pos rfl, if_pos hn]; exact ⟨rfl, rfl⟩
          · refine ew_lsw g qd_K_faultOf_42 (off := 103) (tgt := 145) (by decide +kernel) (by decide +kernel) (by decide) ?_
            refine ew_aload_n g qd_K_faultOf_145 rfl ?_
            refine ew_iconst g qd_K_faultOf_146 ic_1 ?_
            refine ew_callV g qd_K_faultOf_147 (k_K_wordUnder w k.2.1 sg h2 hd6 (by decide)) qv_K_94 (by decide) rfl ⟨_, _, rfl⟩ rfl rfl (Nat.le_of_ble_eq_true rfl) ⟨rfl, rfl, by decide, by decide⟩ (fun v sg1 hv => ?_)
            obtain ⟨rfl, rfl⟩ := hv
            refine en_top (xM_un hm 1) ?_
            have hu1 := pUn_lt hok 1
            refine en_if_eq g qd_K_faultOf_150 (tgt := 170) (by decide) (by omega) (fun hz => ?_) (fun hz => ?_)
            · refine ew_iconst g qd_K_faultOf_170 ic_m1 ?_
              refine ew_goto g qd_K_faultOf_171 (tgt := 175) (by decide) ?_
              refine ew_iret g qd_K_faultOf_175 hp ?_
              rw [hF, if_neg (by decide), if_neg (by decide), if_neg (by decide), if_pos rfl, if_pos (Or.inl hz)]; exact ⟨rfl, rfl⟩
            · refine ew_aload_n g qd_K_faultOf_153 rfl ?_
              refine ew_getR g qd_K_faultOf_154 qf_K_12 (by decide) rfl rfl ?_
              refine ew_getR g qd_K_faultOf_157 qf_K_118 (by decide) rfl rfl ?_
              refine ew_aload_n g qd_K_faultOf_160 rfl ?_
              refine ew_iconst g qd_K_faultOf_161 ic_0 ?_
              refine ew_callV g qd_K_faultOf_162 (k_K_wordUnder w k.2.1 sg1 h2 hd6 (by decide)) qv_K_94 (by decide) rfl ⟨_, _, rfl⟩ rfl rfl (Nat.le_of_ble_eq_true rfl) ⟨rfl, rfl, by decide, by decide⟩ (fun v sg2 hv => ?_)
              obtain ⟨rfl, rfl⟩ := hv
              refine en_top (xM_un hm 0) ?_
              refine en_iald g qd_K_faultOf_165 (by decide) rfl (pUn_lt hok 0) (by omega) (hc.2.2.2 _ (pUn_lt hok 0)) ?_
              refine ew_iconst g qd_K_faultOf_166 ic_m1 ?_
              refine ew_icmp_eq g qd_K_faultOf_167 (tgt := 174) (by decide) (fun hh => ?_) (fun hh => ?_)
              · have hn := (mkI_m hcd _).mp hh
                refine ew_iconst g qd_K_faultOf_174 ic_4 ?_
                refine ew_iret g qd_K_faultOf_175 hp ?_
                rw [hF, if_neg (by decide), if_neg (by decide), if_neg (by decide), if_pos rfl, if_neg (by rw [hn]; rintro (q | q); exact hz q; cases q)]; exact ⟨rfl, rfl⟩
              · have hn : (mkAt cd (pUn s 0)).isSome = true := Option.isSome_iff_ne_none.mpr (fun q => hh ((mkI_m hcd _).mpr q))
                refine ew_iconst g qd_K_faultOf_170 ic_m1 ?_
                refine ew_goto g qd_K_faultOf_171 (tgt := 175) (by decide) ?_
                refine ew_iret g qd_K_faultOf_175 hp ?_
                rw [hF, if_neg (by decide), if_neg (by decide), if_neg (by decide), if_pos rfl, if_pos (Or.inr hn)]; exact ⟨rfl, rfl⟩
          · refine ew_lsw g qd_K_faultOf_42 (off := 148) (tgt := 190) (by decide +kernel) (by decide +kernel) (by decide) ?_
            refine ew_iconst g qd_K_faultOf_190 ic_m1 ?_
            refine ew_iret g qd_K_faultOf_191 hp ?_
            rw [hF]; exact ⟨rfl, rfl⟩
          · refine ew_lsw g qd_K_faultOf_42 (off := 148) (tgt := 190) (by decide +kernel) (by decide +kernel) (by decide) ?_
            refine ew_iconst g qd_K_faultOf_190 ic_m1 ?_
            refine ew_iret g qd_K_faultOf_191 hp ?_
            rw [hF]; exact ⟨rfl, rfl⟩
          · refine ew_lsw g qd_K_faultOf_42 (off := 134) (tgt := 176) (by decide +kernel) (by decide +kernel) (by decide) ?_
            refine ew_aload_n g qd_K_faultOf_176 rfl ?_
            refine ew_iconst g qd_K_faultOf_177 ic_0 ?_
            refine ew_callV g qd_K_faultOf_178 (k_K_wordUnder w k.2.1 sg h2 hd6 (by decide)) qv_K_94 (by decide) rfl ⟨_, _, rfl⟩ rfl rfl (Nat.le_of_ble_eq_true rfl) ⟨rfl, rfl, by decide, by decide⟩ (fun v sg1 hv => ?_)
            obtain ⟨rfl, rfl⟩ := hv
            refine en_top (xM_un hm 0) ?_
            have hu0 := pUn_lt hok 0
            refine en_if_eq g qd_K_faultOf_181 (tgt := 188) (by decide) (by omega) (fun hz => ?_) (fun hz => ?_)
            · refine ew_iconst g qd_K_faultOf_188 ic_0 ?_
              refine ew_iret g qd_K_faultOf_189 hp ?_
              rw [hF, if_neg (by decide), if_neg (by decide), if_neg (by decide), if_neg (by decide), if_pos rfl, if_neg (fun q => q hz)]; exact ⟨rfl, rfl⟩
            · refine ew_iconst g qd_K_faultOf_184 ic_m1 ?_
              refine ew_goto g qd_K_faultOf_185 (tgt := 189) (by decide) ?_
              refine ew_iret g qd_K_faultOf_189 hp ?_
              rw [hF, if_neg (by decide), if_neg (by decide), if_neg (by decide), if_neg (by decide), if_pos rfl, if_pos hz]; exact ⟨rfl, rfl⟩
          · refine ew_lsw g qd_K_faultOf_42 (off := 148) (tgt := 190) (by decide +kernel) (by decide +kernel) (by decide) ?_
            refine ew_iconst g qd_K_faultOf_190 ic_m1 ?_
            refine ew_iret g qd_K_faultOf_191 hp ?_
            rw [hF]; exact ⟨rfl, rfl⟩
          · refine ew_lsw g qd_K_faultOf_42 (off := 148) (tgt := 190) (by decide +kernel) (by decide +kernel) (by decide) ?_
            refine ew_iconst g qd_K_faultOf_190 ic_m1 ?_
            refine ew_iret g qd_K_faultOf_191 hp ?_
            rw [hF]; exact ⟨rfl, rfl⟩
          · refine ew_lsw g qd_K_faultOf_42 (off := 148) (tgt := 190) (by decide +kernel) (by decide +kernel) (by decide) ?_
            refine ew_iconst g qd_K_faultOf_190 ic_m1 ?_
            refine ew_iret g qd_K_faultOf_191 hp ?_
            rw [hF]; exact ⟨rfl, rfl⟩
        · have hF : pFault cd s o a = some 4 := by unfold pFault; rw [if_pos (Or.inr (Or.inr h6))]
          refine ew_iconst g qd_K_faultOf_39 ic_4 ?_
          refine ew_iret g qd_K_faultOf_40 hp ?_
          rw [hF]; exact ⟨rfl, rfl⟩
end
section
/-! fields of the machine, one write each -/
theorem xM_f2 {sg : SG} {s : PM} {inp cal : Nat} {d : Nat} (hd : d ≤ pDe s) (h : xMach sg s inp cal) : xMach (sup sg 1 2 (nI d)) (pAt s, d, pGa s, pSt s, pCe s, pSe s, pFo s, pHo s, pWa s) inp cal := xM_at h ⟨Nat.le_trans hd h.1.1, fun i hi => h.1.2.1 i (Nat.lt_of_lt_of_le hi hd), h.1.2.2⟩ (fun j hj => ⟨Nat.lt_of_lt_of_le hj hd, rfl⟩) rfl (by omega) pk_us (by rw [pk_un (by decide)]; exact h.2.2.2.1) (by rw [pk_un (by decide)]; exact h.2.2.2.2.1) (by rw [pk_un (by decide)]; exact h.2.2.2.2.2.1) (by rw [pk_un (by decide)]; exact h.2.2.2.2.2.2.2.2.2.2) (by rw [pk_un (by decide)]; exact h.2.2.2.2.2.2.1)
theorem xM_f3 {sg : SG} {s : PM} {inp cal : Nat} {c : Nat → Nat} (hc : c16 c) (h : xMach sg s inp cal) : xMach (sup sg 1 3 (nI (pk5 c))) (pCel s c) inp cal := xM_at h (pCel_ok h.1 hc) (fun j hj => ⟨hj, rfl⟩) rfl (by omega) (by rw [pk_un (by decide)]; exact h.2.1) pk_us (by rw [pk_un (by decide)]; exact h.2.2.2.2.1) (by rw [pk_un (by decide)]; exact h.2.2.2.2.2.1) (by rw [pk_un (by decide)]; exact h.2.2.2.2.2.2.2.2.2.2) (by rw [pk_un (by decide)]; exact h.2.2.2.2.2.2.1)
theorem xM_f4 {sg : SG} {s : PM} {inp cal : Nat} {d : Nat} (hd : d ≤ 40) (h : xMach sg s inp cal) : xMach (sup sg 1 4 (nI d)) (pAt s, pDe s, d, pSt s, pCe s, pSe s, pFo s, pHo s, pWa s) inp cal := xM_at h ⟨h.1.1, h.1.2.1, h.1.2.2.1, hd, h.1.2.2.2.2⟩ (fun j hj => ⟨hj, rfl⟩) rfl (by omega) (by rw [pk_un (by decide)]; exact h.2.1) (by rw [pk_un (by decide)]; exact h.2.2.2.1) pk_us (by rw [pk_un (by decide)]; exact h.2.2.2.2.2.1) (by rw [pk_un (by decide)]; exact h.2.2.2.2.2.2.2.2.2.2) (by rw [pk_un (by decide)]; exact h.2.2.2.2.2.2.1)
theorem xM_f5 {sg : SG} {s : PM} {inp cal : Nat} {d : Nat} (hd : d ≤ 32) (h : xMach sg s inp cal) : xMach (sup sg 1 5 (nI d)) (pJmp s d) inp cal := xM_at h (pJmp_ok h.1 hd) (fun j hj => ⟨hj, rfl⟩) rfl (by omega) (by rw [pk_un (by decide)]; exact h.2.1) (by rw [pk_un (by decide)]; exact h.2.2.2.1) (by rw [pk_un (by decide)]; exact h.2.2.2.2.1) pk_us (by rw [pk_un (by decide)]; exact h.2.2.2.2.2.2.2.2.2.2) (by rw [pk_un (by decide)]; exact h.2.2.2.2.2.2.1)
theorem xM_f6 {sg : SG} {s : PM} {inp cal : Nat} {d : Nat} (h : xMach sg s inp cal) : xMach (sup sg 1 6 (nI d)) (pEnd s d) inp cal := xM_at h (pEnd_ok h.1) (fun j hj => ⟨hj, rfl⟩) rfl (by omega) (by rw [pk_un (by decide)]; exact h.2.1) (by rw [pk_un (by decide)]; exact h.2.2.2.1) (by rw [pk_un (by decide)]; exact h.2.2.2.2.1) (by rw [pk_un (by decide)]; exact h.2.2.2.2.2.1) pk_us (by rw [pk_un (by decide)]; exact h.2.2.2.2.2.2.1)
theorem xM_f9 {sg : SG} {s : PM} {inp cal : Nat} {d : Bool} (h : xMach sg s inp cal) : xMach (sup sg 1 9 (bI d)) (pAt s, pDe s, pGa s, pSt s, pCe s, d, pFo s, pHo s, pWa s) inp cal := xM_at h h.1 (fun j hj => ⟨hj, rfl⟩) rfl (by omega) (by rw [pk_un (by decide)]; exact h.2.1) (by rw [pk_un (by decide)]; exact h.2.2.2.1) (by rw [pk_un (by decide)]; exact h.2.2.2.2.1) (by rw [pk_un (by decide)]; exact h.2.2.2.2.2.1) (by rw [pk_un (by decide)]; exact h.2.2.2.2.2.2.2.2.2.2) pk_us
theorem xM_s6 {sg : SG} {s : PM} {inp cal v i : Nat} (h : xMach sg s inp cal) (hv : v < 16) (hi : i < pDe s) : xMach (sup sg 6 i (nI v)) (pAt s, pDe s, pGa s, nup (pSt s) i v, pCe s, pSe s, pFo s, pHo s, pWa s) inp cal := by
  have e1 : sup sg 6 i (nI v) 1 = sg 1 := sup_n (by decide)
  have e8 : sup sg 6 i (nI v) 8 = sg 8 := sup_n (by decide)
  unfold xMach
  rw [e1, e8, sup_s]
  refine ⟨⟨h.1.1, nup_lt h.1.2.1 hv, h.1.2.2⟩, h.2.1, fun j hj => ?_, h.2.2.2⟩
  show upd (sg 6) i (nI v) j = nI (nup (pSt s) i v j)
  unfold upd nup
  split
  · rfl
  · exact h.2.2.1 j hj
theorem xM_push {sg : SG} {s : PM} {inp cal v : Nat} (h : xMach sg s inp cal) (hv : v < 16) (hd : pDe s < 6) : xMach (sup (sup sg 6 (pDe s) (nI v)) 1 2 (nI (pDe s + 1))) (pPush s v) inp cal := by
  have e1 : sup (sup sg 6 (pDe s) (nI v)) 1 2 (nI (pDe s + 1)) 1 = upd (sg 1) 2 (nI (pDe s + 1)) := by rw [sup_s, sup_n (by decide)]
  have e6 : sup (sup sg 6 (pDe s) (nI v)) 1 2 (nI (pDe s + 1)) 6 = upd (sg 6) (pDe s) (nI v) := by rw [sup_n (by decide), sup_s]
  have e8 : sup (sup sg 6 (pDe s) (nI v)) 1 2 (nI (pDe s + 1)) 8 = sg 8 := by rw [sup_n (by decide), sup_n (by decide)]
  obtain ⟨h1, h2, h3, h4, h5, h6, h7, h8, h9, h10, h11⟩ := h
  unfold xMach
  rw [e1, e6, e8]
  have u : ∀ j, j ≠ 2 → upd (sg 1) 2 (nI (pDe s + 1)) j = sg 1 j := fun j hj => pk_un hj
  rw [u 3 (by decide), u 4 (by decide), u 5 (by decide), u 9 (by decide), u 7 (by decide), u 8 (by decide), u 6 (by decide), pk_us]
  refine ⟨pPush_ok h1 hd hv, rfl, fun j hj => ?_, h4, h5, h6, h7, h8, h9, h10, h11⟩
  show upd (sg 6) (pDe s) (nI v) j = nI (nup (pSt s) (pDe s) v j)
  unfold upd nup
  split
  · rfl
  · have : j < pDe s + 1 := hj
    exact h3 j (by omega)
theorem k_K_wordPut (w : WC) (l : Launch) (sg : SG) {s : PM} {inp cal o a x y : Nat} (hm : xMach sg s inp cal) (ho : o < 25) (ha : a < 16) (hx : x < 16) (hy : y < 16) : ew_M qS w l qy_K_wordPut qw_K_wordPut qr_K_wordPut [.inr 1, .inl (nI o), .inl (nI a), .inl (nI x), .inl (nI y)] sg (fun v sg' => v = some (.inl (nI (pPut inp cal s o a y x))) ∧ xMach sg' (pSnd s o x) inp cal ∧ xFr sg sg') := by
  obtain ⟨hok, h2, h3, h4, h5, h6, h7, h8, h9, h10, h11⟩ := id hm
  have hd6 := hok.1
  have hnS : o ≠ 19 → pSnd s o x = s := fun q => by unfold pSnd; rw [if_neg (fun z => q z.1)]
  refine ew_entry (ws' := qwg) (own := qR_K) (cc := qc_K_wordPut) (nL := 5) (ret := some .int) qnk (by decide) rfl rfl (Nat.le_of_ble_eq_true rfl) ?_
  intro k g hp
  refine ew_iload_n g qd_K_wordPut_0 rfl ?_
  rcases (by omega : o = 0 ∨ o = 1 ∨ o = 2 ∨ o = 3 ∨ o = 4 ∨ o = 5 ∨ o = 6 ∨ o = 7 ∨ o = 8 ∨ o = 9 ∨ o = 10 ∨ o = 11 ∨ o = 12 ∨ o = 13 ∨ o = 14 ∨ o = 15 ∨ o = 16 ∨ o = 17 ∨ o = 18 ∨ o = 19 ∨ o = 20 ∨ o = 21 ∨ o = 22 ∨ o = 23 ∨ o = 24) with rfl | rfl | rfl | rfl | rfl | rfl | rfl | rfl | rfl | rfl | rfl | rfl | rfl | rfl | rfl | rfl | rfl | rfl | rfl | rfl | rfl | rfl | rfl | rfl | rfl
  · refine ew_tswI g qd_K_wordPut_1 (off := 99) (tgt := 100) (by decide +kernel) (by decide +kernel) (by decide +kernel) (by decide) ?_
    refine ew_iload_n g qd_K_wordPut_100 rfl ?_
    refine ew_iret g qd_K_wordPut_101 hp ?_
    exact ⟨rfl, by rw [hnS (by decide)]; exact hm, xFr.rf sg⟩
  · refine ew_tswI g qd_K_wordPut_1 (off := 101) (tgt := 102) (by decide +kernel) (by decide +kernel) (by decide +kernel) (by decide) ?_
    refine ew_aload_n g qd_K_wordPut_102 rfl ?_
    refine ew_get g qd_K_wordPut_103 qf_K_38 (by decide) rfl rfl ?_
    refine en_top h9.1 ?_
    refine ew_iret g qd_K_wordPut_106 hp ?_
    exact ⟨rfl, by rw [hnS (by decide)]; exact hm, xFr.rf sg⟩
  · refine ew_tswI g qd_K_wordPut_1 (off := 106) (tgt := 107) (by decide +kernel) (by decide +kernel) (by decide +kernel) (by decide) ?_
    refine ew_aload_n g qd_K_wordPut_107 rfl ?_
    refine ew_get g qd_K_wordPut_108 qf_K_41 (by decide) rfl rfl ?_
    refine en_top h10.1 ?_
    refine ew_iret g qd_K_wordPut_111 hp ?_
    exact ⟨rfl, by rw [hnS (by decide)]; exact hm, xFr.rf sg⟩
  · refine ew_tswI g qd_K_wordPut_1 (off := 111) (tgt := 112) (by decide +kernel) (by decide +kernel) (by decide +kernel) (by decide) ?_
    refine ew_aload_n g qd_K_wordPut_112 rfl ?_
    refine ew_iload_n g qd_K_wordPut_113 rfl ?_
    refine ew_callV g qd_K_wordPut_114 (k_K_wordUnder w k.2.1 sg h2 hd6 (by omega)) qv_K_94 (by decide) rfl ⟨_, _, rfl⟩ rfl rfl (Nat.le_of_ble_eq_true rfl) ⟨rfl, rfl, by decide, by decide⟩ (fun v sg1 hv => ?_)
    obtain ⟨rfl, rfl⟩ := hv
    refine en_top (xM_un hm a) ?_
    refine ew_iret g qd_K_wordPut_117 hp ?_
    exact ⟨rfl, by rw [hnS (by decide)]; exact hm, xFr.rf _⟩
  · refine ew_tswI g qd_K_wordPut_1 (off := 210) (tgt := 211) (by decide +kernel) (by decide +kernel) (by decide +kernel) (by decide) ?_
    refine ew_iconst g qd_K_wordPut_211 ic_0 ?_
    refine ew_iret g qd_K_wordPut_212 hp ?_
    exact ⟨rfl, by rw [hnS (by decide)]; exact hm, xFr.rf sg⟩
  · refine ew_tswI g qd_K_wordPut_1 (off := 210) (tgt := 211) (by decide +kernel) (by decide +kernel) (by decide +kernel) (by decide) ?_
    refine ew_iconst g qd_K_wordPut_211 ic_0 ?_
    refine ew_iret g qd_K_wordPut_212 hp ?_
    exact ⟨rfl, by rw [hnS (by decide)]; exact hm, xFr.rf sg⟩
  · refine ew_tswI g qd_K_wordPut_1 (off := 117) (tgt := 118) (by decide +kernel) (by decide +kernel) (by decide +kernel) (by decide) ?_
    refine ew_iload g qd_K_wordPut_118 rfl ?_
    refine ew_iload_n g qd_K_wordPut_120 rfl ?_
    refine ew_iadd g qd_K_wordPut_121 ?_
    refine ew_bipush g qd_K_wordPut_122 bp_15 ?_
    refine ew_iand g qd_K_wordPut_124 ?_
    refine en_top (w_add y hy x hx) ?_
    refine ew_iret g qd_K_wordPut_125 hp ?_
    exact ⟨rfl, by rw [hnS (by decide)]; exact hm, xFr.rf sg⟩
  · refine ew_tswI g qd_K_wordPut_1 (off := 125) (tgt := 126) (by decide +kernel) (by decide +kernel) (by decide +kernel) (by decide) ?_
    refine ew_iload g qd_K_wordPut_126 rfl ?_
    refine ew_iload_n g qd_K_wordPut_128 rfl ?_
    refine ew_isub g qd_K_wordPut_129 ?_
    refine ew_bipush g qd_K_wordPut_130 bp_15 ?_
    refine ew_iand g qd_K_wordPut_132 ?_
    refine en_top (w_sub y hy x hx) ?_
    refine ew_iret g qd_K_wordPut_133 hp ?_
    exact ⟨rfl, by rw [hnS (by decide)]; exact hm, xFr.rf sg⟩
  · refine ew_tswI g qd_K_wordPut_1 (off := 133) (tgt := 134) (by decide +kernel) (by decide +kernel) (by decide +kernel) (by decide) ?_
    refine ew_iload g qd_K_wordPut_134 rfl ?_
    refine ew_iload_n g qd_K_wordPut_136 rfl ?_
    refine ew_imul g qd_K_wordPut_137 ?_
    refine ew_bipush g qd_K_wordPut_138 bp_15 ?_
    refine ew_iand g qd_K_wordPut_140 ?_
    refine en_top (w_mul y hy x hx) ?_
    refine ew_iret g qd_K_wordPut_141 hp ?_
    exact ⟨rfl, by rw [hnS (by decide)]; exact hm, xFr.rf sg⟩
  · refine ew_tswI g qd_K_wordPut_1 (off := 141) (tgt := 142) (by decide +kernel) (by decide +kernel) (by decide +kernel) (by decide) ?_
    refine ew_iload g qd_K_wordPut_142 rfl ?_
    refine ew_iload_n g qd_K_wordPut_144 rfl ?_
    refine ew_iand g qd_K_wordPut_145 ?_
    refine en_top (nx_and y x) ?_
    refine ew_iret g qd_K_wordPut_146 hp ?_
    exact ⟨rfl, by rw [hnS (by decide)]; exact hm, xFr.rf sg⟩
  · refine ew_tswI g qd_K_wordPut_1 (off := 146) (tgt := 147) (by decide +kernel) (by decide +kernel) (by decide +kernel) (by decide) ?_
    refine ew_iload g qd_K_wordPut_147 rfl ?_
    refine ew_iload_n g qd_K_wordPut_149 rfl ?_
    refine ew_ixor g qd_K_wordPut_150 ?_
    refine en_top (nx_xor y x) ?_
    refine ew_iret g qd_K_wordPut_151 hp ?_
    exact ⟨rfl, by rw [hnS (by decide)]; exact hm, xFr.rf sg⟩
  · refine ew_tswI g qd_K_wordPut_1 (off := 151) (tgt := 152) (by decide +kernel) (by decide +kernel) (by decide +kernel) (by decide) ?_
    refine ew_iload g qd_K_wordPut_152 rfl ?_
    refine ew_iload_n g qd_K_wordPut_154 rfl ?_
    refine en_ge g qd_K_wordPut_155 (tgt := 162) (by decide) (by omega) (by omega) (fun hh => ?_) (fun hh => ?_)
    · refine ew_iconst g qd_K_wordPut_162 ic_0 ?_
      refine ew_iret g qd_K_wordPut_163 hp ?_
      have e : ¬ y < x := by omega
      refine ⟨?_, by rw [hnS (by decide)]; exact hm, xFr.rf sg⟩
      show _ = some (Sum.inl (nI (if y < x then 1 else 0)))
      rw [if_neg e]
    · refine ew_iconst g qd_K_wordPut_158 ic_1 ?_
      refine ew_goto g qd_K_wordPut_159 (tgt := 163) (by decide) ?_
      refine ew_iret g qd_K_wordPut_163 hp ?_
      have e : y < x := by omega
      refine ⟨?_, by rw [hnS (by decide)]; exact hm, xFr.rf sg⟩
      show _ = some (Sum.inl (nI (if y < x then 1 else 0)))
      rw [if_pos e]
  · refine ew_tswI g qd_K_wordPut_1 (off := 163) (tgt := 164) (by decide +kernel) (by decide +kernel) (by decide +kernel) (by decide) ?_
    refine ew_iload g qd_K_wordPut_164 rfl ?_
    refine ew_iload_n g qd_K_wordPut_166 rfl ?_
    refine en_ne g qd_K_wordPut_167 (tgt := 174) (by decide) (by omega) (by omega) (fun hh => ?_) (fun hh => ?_)
    · refine ew_iconst g qd_K_wordPut_174 ic_0 ?_
      refine ew_iret g qd_K_wordPut_175 hp ?_
      have e : ¬ y = x := by omega
      refine ⟨?_, by rw [hnS (by decide)]; exact hm, xFr.rf sg⟩
      show _ = some (Sum.inl (nI (if y = x then 1 else 0)))
      rw [if_neg e]
    · refine ew_iconst g qd_K_wordPut_170 ic_1 ?_
      refine ew_goto g qd_K_wordPut_171 (tgt := 175) (by decide) ?_
      refine ew_iret g qd_K_wordPut_175 hp ?_
      have e : y = x := by omega
      refine ⟨?_, by rw [hnS (by decide)]; exact hm, xFr.rf sg⟩
      show _ = some (Sum.inl (nI (if y = x then 1 else 0)))
      rw [if_pos e]
  · refine ew_tswI g qd_K_wordPut_1 (off := 175) (tgt := 176) (by decide +kernel) (by decide +kernel) (by decide +kernel) (by decide) ?_
    refine ew_iload_n g qd_K_wordPut_176 rfl ?_
    refine en_if_ne g qd_K_wordPut_177 (tgt := 184) (by decide) (by omega) (fun hh => ?_) (fun hh => ?_)
    · refine ew_iconst g qd_K_wordPut_184 ic_0 ?_
      refine ew_iret g qd_K_wordPut_185 hp ?_
      have e : ¬ x = 0 := by omega
      refine ⟨?_, by rw [hnS (by decide)]; exact hm, xFr.rf sg⟩
      show _ = some (Sum.inl (nI (if x = 0 then 1 else 0)))
      rw [if_neg e]
    · refine ew_iconst g qd_K_wordPut_180 ic_1 ?_
      refine ew_goto g qd_K_wordPut_181 (tgt := 185) (by decide) ?_
      refine ew_iret g qd_K_wordPut_185 hp ?_
      have e : x = 0 := by omega
      refine ⟨?_, by rw [hnS (by decide)]; exact hm, xFr.rf sg⟩
      show _ = some (Sum.inl (nI (if x = 0 then 1 else 0)))
      rw [if_pos e]
  · refine ew_tswI g qd_K_wordPut_1 (off := 185) (tgt := 186) (by decide +kernel) (by decide +kernel) (by decide +kernel) (by decide) ?_
    refine ew_aload_n g qd_K_wordPut_186 rfl ?_
    refine ew_get g qd_K_wordPut_187 qf_K_26 (by decide) rfl rfl ?_
    refine en_top h4 ?_
    refine ew_iload_n g qd_K_wordPut_190 rfl ?_
    refine ew_iconst g qd_K_wordPut_191 ic_4 ?_
    refine ew_irem g qd_K_wordPut_192 (by decide +kernel) ?_
    refine en_top (pk_rem (by omega) (by omega) (by omega)) ?_
    refine ew_callS g qd_K_wordPut_193 (k_X_wordOf w k.2.1 sg _ _) qs_K_121 rfl rfl (Nat.le_of_ble_eq_true rfl) ⟨rfl, rfl, by decide, by decide⟩ (fun v sg1 hv => ?_)
    obtain ⟨rfl, rfl⟩ := hv
    refine en_top (wOf_c hok.2.2.1 (by omega)) ?_
    refine ew_iret g qd_K_wordPut_196 hp ?_
    exact ⟨rfl, by rw [hnS (by decide)]; exact hm, xFr.rf _⟩
  · refine ew_tswI g qd_K_wordPut_1 (off := 210) (tgt := 211) (by decide +kernel) (by decide +kernel) (by decide +kernel) (by decide) ?_
    refine ew_iconst g qd_K_wordPut_211 ic_0 ?_
    refine ew_iret g qd_K_wordPut_212 hp ?_
    exact ⟨rfl, by rw [hnS (by decide)]; exact hm, xFr.rf sg⟩
  · refine ew_tswI g qd_K_wordPut_1 (off := 210) (tgt := 211) (by decide +kernel) (by decide +kernel) (by decide +kernel) (by decide) ?_
    refine ew_iconst g qd_K_wordPut_211 ic_0 ?_
    refine ew_iret g qd_K_wordPut_212 hp ?_
    exact ⟨rfl, by rw [hnS (by decide)]; exact hm, xFr.rf sg⟩
  · refine ew_tswI g qd_K_wordPut_1 (off := 210) (tgt := 211) (by decide +kernel) (by decide +kernel) (by decide +kernel) (by decide) ?_
    refine ew_iconst g qd_K_wordPut_211 ic_0 ?_
    refine ew_iret g qd_K_wordPut_212 hp ?_
    exact ⟨rfl, by rw [hnS (by decide)]; exact hm, xFr.rf sg⟩
  · refine ew_tswI g qd_K_wordPut_1 (off := 210) (tgt := 211) (by decide +kernel) (by decide +kernel) (by decide +kernel) (by decide) ?_
    refine ew_iconst g qd_K_wordPut_211 ic_0 ?_
    refine ew_iret g qd_K_wordPut_212 hp ?_
    exact ⟨rfl, by rw [hnS (by decide)]; exact hm, xFr.rf sg⟩
  · refine ew_tswI g qd_K_wordPut_1 (off := 196) (tgt := 197) (by decide +kernel) (by decide +kernel) (by decide +kernel) (by decide) ?_
    refine ew_aload_n g qd_K_wordPut_197 rfl ?_
    refine ew_iload_n g qd_K_wordPut_198 rfl ?_
    refine ew_callV g qd_K_wordPut_199 (k_K_send w k.2.1 sg h4 hok.2.2.1 hx) qv_K_124 (by decide) rfl ⟨_, _, rfl⟩ rfl rfl (Nat.le_of_ble_eq_true rfl) ⟨rfl, rfl, by decide, by decide⟩ (fun v sg1 hv => ?_)
    rcases hv with ⟨hle, rfl, rfl⟩ | ⟨hlt, rfl, rfl⟩
    · refine ew_iret g qd_K_wordPut_202 hp ?_
      refine ⟨?_, ?_, (xFr_f (by decide) (by decide)).tr (xFr_f (by decide) (by decide))⟩
      · show _ = some (Sum.inl (nI (if x ≤ pCe s 4 then 1 else 0)))
        rw [if_pos hle]
      · have e : pSnd s 19 x = (pAt s, pDe s, pGa s, pSt s, nup (pCe s) 4 (pCe s 4 - x), true, pFo s, pHo s, pWa s) := by unfold pSnd; rw [if_pos ⟨rfl, hle⟩]
        rw [e]
        have hc4 := hok.2.2.1 4 (by omega)
        exact xM_f9 (xM_f3 (nup_c16 hok.2.2.1 (by omega)) hm)
    · refine ew_iret g qd_K_wordPut_202 hp ?_
      refine ⟨?_, ?_, xFr.rf _⟩
      · show _ = some (Sum.inl (nI (if x ≤ pCe s 4 then 1 else 0)))
        rw [if_neg (by omega)]
      · have e : pSnd s 19 x = s := by unfold pSnd; rw [if_neg (by omega)]
        rw [e]; exact hm
  · refine ew_tswI g qd_K_wordPut_1 (off := 202) (tgt := 203) (by decide +kernel) (by decide +kernel) (by decide +kernel) (by decide) ?_
    refine ew_aload_n g qd_K_wordPut_203 rfl ?_
    refine ew_get g qd_K_wordPut_204 qf_K_26 (by decide) rfl rfl ?_
    refine en_top h4 ?_
    refine ew_bipush g qd_K_wordPut_207 bp_16 ?_
    refine ew_ishr g qd_K_wordPut_209 ?_
    refine en_top (bal_c hok.2.2.1) ?_
    refine ew_iret g qd_K_wordPut_210 hp ?_
    exact ⟨rfl, by rw [hnS (by decide)]; exact hm, xFr.rf sg⟩
  · refine ew_tswO g qd_K_wordPut_1 (tgt := 211) (by decide +kernel) (by decide) ?_
    refine ew_iconst g qd_K_wordPut_211 ic_0 ?_
    refine ew_iret g qd_K_wordPut_212 hp ?_
    exact ⟨rfl, by rw [hnS (by decide)]; exact hm, xFr.rf sg⟩
  · refine ew_tswO g qd_K_wordPut_1 (tgt := 211) (by decide +kernel) (by decide) ?_
    refine ew_iconst g qd_K_wordPut_211 ic_0 ?_
    refine ew_iret g qd_K_wordPut_212 hp ?_
    exact ⟨rfl, by rw [hnS (by decide)]; exact hm, xFr.rf sg⟩
  · refine ew_tswO g qd_K_wordPut_1 (tgt := 211) (by decide +kernel) (by decide) ?_
    refine ew_iconst g qd_K_wordPut_211 ic_0 ?_
    refine ew_iret g qd_K_wordPut_212 hp ?_
    exact ⟨rfl, by rw [hnS (by decide)]; exact hm, xFr.rf sg⟩
  · refine ew_tswO g qd_K_wordPut_1 (tgt := 211) (by decide +kernel) (by decide) ?_
    refine ew_iconst g qd_K_wordPut_211 ic_0 ?_
    refine ew_iret g qd_K_wordPut_212 hp ?_
    exact ⟨rfl, by rw [hnS (by decide)]; exact hm, xFr.rf sg⟩
end
section
theorem k_K_act (w : WC) (l : Launch) (sg : SG) {cd : CDE} {s : PM} {inp cal o a x y : Nat} (hc : xCode sg cd) (hm : xMach sg s inp cal) (ho : o < 25) (ha : a < 16) (hx : x < 16) (hy : y < 16) (hs4 : o = 4 → a + 1 < pDe s) (h17 : o = 17 → (mkAt cd x).isSome = true) (h18 : o = 18 → y ≠ 0 → (mkAt cd x).isSome = true) : ew_M qS w l qy_K_act qw_K_act qr_K_act [.inr 1, .inl (nI o), .inl (nI a), .inl (nI x), .inl (nI y)] sg (fun v sg' => v = none ∧ xMach sg' (pAct cd s o a y x) inp cal ∧ xFr sg sg') := by
  obtain ⟨hok, h2, h3, h4, h5, h6, h7, h8, h9, h10, h11⟩ := id hm
  have hd6 := hok.1
  have hcd := hc.1.1
  have hmk : (mkAt cd x).isSome = true → sg 5 x = nI ((mkAt cd x).getD 0) := by
    intro q
    rw [hc.2.2.2 x hx]
    unfold mkI
    cases hq : mkAt cd x with
    | none => rw [hq] at q; cases q
    | some k => rfl
  have hgd := getD_lt (cd := cd) (a := x) hcd
  refine ew_entry (ws' := qwg) (own := qR_K) (cc := qc_K_act) (nL := 5) (ret := none) qnk (by decide) rfl rfl (Nat.le_of_ble_eq_true rfl) ?_
  intro k g hp
  refine ew_iload_n g qd_K_act_0 rfl ?_
  rcases (by omega : o = 0 ∨ o = 1 ∨ o = 2 ∨ o = 3 ∨ o = 4 ∨ o = 5 ∨ o = 6 ∨ o = 7 ∨ o = 8 ∨ o = 9 ∨ o = 10 ∨ o = 11 ∨ o = 12 ∨ o = 13 ∨ o = 14 ∨ o = 15 ∨ o = 16 ∨ o = 17 ∨ o = 18 ∨ o = 19 ∨ o = 20 ∨ o = 21 ∨ o = 22 ∨ o = 23 ∨ o = 24) with rfl | rfl | rfl | rfl | rfl | rfl | rfl | rfl | rfl | rfl | rfl | rfl | rfl | rfl | rfl | rfl | rfl | rfl | rfl | rfl | rfl | rfl | rfl | rfl | rfl
  · refine ew_tswO g qd_K_act_1 (tgt := 208) (by decide +kernel) (by decide) ?_
    refine ew_vret g qd_K_act_208 hp ?_
    exact ⟨rfl, hm, xFr.rf sg⟩
  · refine ew_tswO g qd_K_act_1 (tgt := 208) (by decide +kernel) (by decide) ?_
    refine ew_vret g qd_K_act_208 hp ?_
    exact ⟨rfl, hm, xFr.rf sg⟩
  · refine ew_tswO g qd_K_act_1 (tgt := 208) (by decide +kernel) (by decide) ?_
    refine ew_vret g qd_K_act_208 hp ?_
    exact ⟨rfl, hm, xFr.rf sg⟩
  · refine ew_tswO g qd_K_act_1 (tgt := 208) (by decide +kernel) (by decide) ?_
    refine ew_vret g qd_K_act_208 hp ?_
    exact ⟨rfl, hm, xFr.rf sg⟩
  · refine ew_tswI g qd_K_act_1 (off := 99) (tgt := 100) (by decide +kernel) (by decide +kernel) (by decide +kernel) (by decide) ?_
    have h44 := hs4 rfl
    refine ew_aload_n g qd_K_act_100 rfl ?_
    refine ew_aload_n g qd_K_act_101 rfl ?_
    refine ew_get g qd_K_act_102 qf_K_22 (by decide) rfl rfl ?_
    refine en_top h2 ?_
    refine ew_iconst g qd_K_act_105 ic_1 ?_
    refine ew_isub g qd_K_act_106 ?_
    refine en_top (pk_sub (by omega)) ?_
    refine ew_aload_n g qd_K_act_107 rfl ?_
    refine ew_get g qd_K_act_108 qf_K_22 (by decide) rfl rfl ?_
    refine en_top h2 ?_
    refine ew_iconst g qd_K_act_111 ic_2 ?_
    refine ew_isub g qd_K_act_112 ?_
    refine en_top (pk_sub (by omega)) ?_
    refine ew_iload_n g qd_K_act_113 rfl ?_
    refine ew_isub g qd_K_act_114 ?_
    refine en_top (pk_sub (by omega)) ?_
    refine ew_callV g qd_K_act_115 (k_K_swap w k.2.1 sg (by omega) (by omega)) qv_K_127 (by decide) rfl ⟨_, _, rfl⟩ rfl rfl (Nat.le_of_ble_eq_true rfl) ⟨rfl, rfl, by decide, by decide⟩ (fun v sg1 hv => ?_)
    obtain ⟨rfl, rfl⟩ := hv
    refine ew_goto g qd_K_act_118 (tgt := 208) (by decide) ?_
    refine ew_vret g qd_K_act_208 hp ?_
    refine ⟨rfl, ?_, (xFr_a (Or.inl rfl)).tr (xFr_a (Or.inl rfl))⟩
    have e1 := h3 (pDe s - 1) (by omega)
    have e2 := h3 (pDe s - 2 - a) (by omega)
    rw [e1, e2]
    exact xM_s6 (xM_s6 hm (hok.2.1 _ (by omega)) (by omega)) (hok.2.1 _ (by omega)) (by show pDe s - 2 - a < pDe s; omega)
  · refine ew_tswI g qd_K_act_1 (off := 207) (tgt := 208) (by decide +kernel) (by decide +kernel) (by decide +kernel) (by decide) ?_
    refine ew_vret g qd_K_act_208 hp ?_
    exact ⟨rfl, hm, xFr.rf sg⟩
  · refine ew_tswI g qd_K_act_1 (off := 207) (tgt := 208) (by decide +kernel) (by decide +kernel) (by decide +kernel) (by decide) ?_
    refine ew_vret g qd_K_act_208 hp ?_
    exact ⟨rfl, hm, xFr.rf sg⟩
  · refine ew_tswI g qd_K_act_1 (off := 207) (tgt := 208) (by decide +kernel) (by decide +kernel) (by decide +kernel) (by decide) ?_
    refine ew_vret g qd_K_act_208 hp ?_
    exact ⟨rfl, hm, xFr.rf sg⟩
  · refine ew_tswI g qd_K_act_1 (off := 207) (tgt := 208) (by decide +kernel) (by decide +kernel) (by decide +kernel) (by decide) ?_
    refine ew_vret g qd_K_act_208 hp ?_
    exact ⟨rfl, hm, xFr.rf sg⟩
  · refine ew_tswI g qd_K_act_1 (off := 207) (tgt := 208) (by decide +kernel) (by decide +kernel) (by decide +kernel) (by decide) ?_
    refine ew_vret g qd_K_act_208 hp ?_
    exact ⟨rfl, hm, xFr.rf sg⟩
  · refine ew_tswI g qd_K_act_1 (off := 207) (tgt := 208) (by decide +kernel) (by decide +kernel) (by decide +kernel) (by decide) ?_
    refine ew_vret g qd_K_act_208 hp ?_
    exact ⟨rfl, hm, xFr.rf sg⟩
  · refine ew_tswI g qd_K_act_1 (off := 207) (tgt := 208) (by decide +kernel) (by decide +kernel) (by decide +kernel) (by decide) ?_
    refine ew_vret g qd_K_act_208 hp ?_
    exact ⟨rfl, hm, xFr.rf sg⟩
  · refine ew_tswI g qd_K_act_1 (off := 207) (tgt := 208) (by decide +kernel) (by decide +kernel) (by decide +kernel) (by decide) ?_
    refine ew_vret g qd_K_act_208 hp ?_
    exact ⟨rfl, hm, xFr.rf sg⟩
  · refine ew_tswI g qd_K_act_1 (off := 207) (tgt := 208) (by decide +kernel) (by decide +kernel) (by decide +kernel) (by decide) ?_
    refine ew_vret g qd_K_act_208 hp ?_
    exact ⟨rfl, hm, xFr.rf sg⟩
  · refine ew_tswI g qd_K_act_1 (off := 207) (tgt := 208) (by decide +kernel) (by decide +kernel) (by decide +kernel) (by decide) ?_
    refine ew_vret g qd_K_act_208 hp ?_
    exact ⟨rfl, hm, xFr.rf sg⟩
  · refine ew_tswI g qd_K_act_1 (off := 120) (tgt := 121) (by decide +kernel) (by decide +kernel) (by decide +kernel) (by decide) ?_
    refine ew_aload_n g qd_K_act_121 rfl ?_
    refine ew_aload_n g qd_K_act_122 rfl ?_
    refine ew_get g qd_K_act_123 qf_K_26 (by decide) rfl rfl ?_
    refine en_top h4 ?_
    refine ew_iload_n g qd_K_act_126 rfl ?_
    refine ew_iconst g qd_K_act_127 ic_4 ?_
    refine ew_irem g qd_K_act_128 (by decide +kernel) ?_
    refine en_top (pk_rem (by omega) (by omega) (by omega)) ?_
    refine ew_iload g qd_K_act_129 rfl ?_
    refine ew_callS g qd_K_act_131 (k_X_withWord w k.2.1 sg _ _ _) qs_K_130 rfl rfl (Nat.le_of_ble_eq_true rfl) ⟨rfl, rfl, by decide, by decide⟩ (fun v sg1 hv => ?_)
    obtain ⟨rfl, rfl⟩ := hv
    refine en_top (wWith_c hok.2.2.1 (by omega) hy) ?_
    refine ew_put g qd_K_act_134 qf_K_26 (qp_K_state _) (by decide) rfl rfl ?_
    refine ew_goto g qd_K_act_137 (tgt := 208) (by decide) ?_
    refine ew_vret g qd_K_act_208 hp ?_
    exact ⟨rfl, xM_f3 (nup_c16 hok.2.2.1 hy) hm, xFr_f (by decide) (by decide)⟩
  · refine ew_tswI g qd_K_act_1 (off := 207) (tgt := 208) (by decide +kernel) (by decide +kernel) (by decide +kernel) (by decide) ?_
    refine ew_vret g qd_K_act_208 hp ?_
    exact ⟨rfl, hm, xFr.rf sg⟩
  · refine ew_tswI g qd_K_act_1 (off := 139) (tgt := 140) (by decide +kernel) (by decide +kernel) (by decide +kernel) (by decide) ?_
    refine ew_aload_n g qd_K_act_140 rfl ?_
    refine ew_aload_n g qd_K_act_141 rfl ?_
    refine ew_getR g qd_K_act_142 qf_K_12 (by decide) rfl rfl ?_
    refine ew_getR g qd_K_act_145 qf_K_118 (by decide) rfl rfl ?_
    refine ew_iload_n g qd_K_act_148 rfl ?_
    refine en_iald g qd_K_act_149 (by decide) rfl (by omega) (by omega) (hmk (h17 rfl)) ?_
    refine ew_put g qd_K_act_150 qf_K_32 (qp_K_at _) (by decide) rfl rfl ?_
    refine ew_goto g qd_K_act_153 (tgt := 208) (by decide) ?_
    refine ew_vret g qd_K_act_208 hp ?_
    exact ⟨rfl, xM_f5 hgd hm, xFr_f (by decide) (by decide)⟩
  · refine ew_tswI g qd_K_act_1 (off := 155) (tgt := 156) (by decide +kernel) (by decide +kernel) (by decide +kernel) (by decide) ?_
    refine ew_aload_n g qd_K_act_156 rfl ?_
    refine ew_iload g qd_K_act_157 rfl ?_
    refine en_if_eq g qd_K_act_159 (tgt := 174) (by decide) (by omega) (fun hz => ?_) (fun hz => ?_)
    · have ha32 := hok.2.2.2.2
      refine ew_aload_n g qd_K_act_174 rfl ?_
      refine ew_get g qd_K_act_175 qf_K_32 (by decide) rfl rfl ?_
      refine en_top h6 ?_
      refine ew_put g qd_K_act_178 qf_K_32 (qp_K_at _) (by decide) rfl rfl ?_
      refine ew_goto g qd_K_act_181 (tgt := 208) (by decide) ?_
      refine ew_vret g qd_K_act_208 hp ?_
      refine ⟨rfl, ?_, xFr_f (by decide) (by decide)⟩
      have e : pAct cd s 18 a y x = pJmp s (pAt s) := by
        show (if y ≠ 0 then _ else s) = _
        rw [if_neg (fun q => q hz)]
        rfl
      rw [e]; exact xM_f5 ha32 hm
    · refine ew_aload_n g qd_K_act_162 rfl ?_
      refine ew_getR g qd_K_act_163 qf_K_12 (by decide) rfl rfl ?_
      refine ew_getR g qd_K_act_166 qf_K_118 (by decide) rfl rfl ?_
      refine ew_iload_n g qd_K_act_169 rfl ?_
      refine en_iald g qd_K_act_170 (by decide) rfl (by omega) (by omega) (hmk (h18 rfl hz)) ?_
      refine ew_goto g qd_K_act_171 (tgt := 178) (by decide) ?_
      refine ew_put g qd_K_act_178 qf_K_32 (qp_K_at _) (by decide) rfl rfl ?_
      refine ew_goto g qd_K_act_181 (tgt := 208) (by decide) ?_
      refine ew_vret g qd_K_act_208 hp ?_
      refine ⟨rfl, ?_, xFr_f (by decide) (by decide)⟩
      have e : pAct cd s 18 a y x = pJmp s ((mkAt cd x).getD 0) := by
        show (if y ≠ 0 then _ else s) = _
        rw [if_pos hz]
      rw [e]; exact xM_f5 hgd hm
  · refine ew_tswI g qd_K_act_1 (off := 207) (tgt := 208) (by decide +kernel) (by decide +kernel) (by decide +kernel) (by decide) ?_
    refine ew_vret g qd_K_act_208 hp ?_
    exact ⟨rfl, hm, xFr.rf sg⟩
  · refine ew_tswI g qd_K_act_1 (off := 207) (tgt := 208) (by decide +kernel) (by decide +kernel) (by decide +kernel) (by decide) ?_
    refine ew_vret g qd_K_act_208 hp ?_
    exact ⟨rfl, hm, xFr.rf sg⟩
  · refine ew_tswI g qd_K_act_1 (off := 207) (tgt := 208) (by decide +kernel) (by decide +kernel) (by decide +kernel) (by decide) ?_
    refine ew_vret g qd_K_act_208 hp ?_
    exact ⟨rfl, hm, xFr.rf sg⟩
  · refine ew_tswI g qd_K_act_1 (off := 183) (tgt := 184) (by decide +kernel) (by decide +kernel) (by decide +kernel) (by decide) ?_
    refine ew_aload_n g qd_K_act_184 rfl ?_
    refine ew_iconst g qd_K_act_185 ic_0 ?_
    refine ew_put g qd_K_act_186 qf_K_35 (qp_K_ending _) (by decide) rfl rfl ?_
    refine ew_goto g qd_K_act_189 (tgt := 208) (by decide) ?_
    refine ew_vret g qd_K_act_208 hp ?_
    exact ⟨rfl, xM_f6 hm, xFr_f (by decide) (by decide)⟩
  · refine ew_tswI g qd_K_act_1 (off := 191) (tgt := 192) (by decide +kernel) (by decide +kernel) (by decide +kernel) (by decide) ?_
    refine ew_aload_n g qd_K_act_192 rfl ?_
    refine ew_iconst g qd_K_act_193 ic_1 ?_
    refine ew_put g qd_K_act_194 qf_K_35 (qp_K_ending _) (by decide) rfl rfl ?_
    refine ew_goto g qd_K_act_197 (tgt := 208) (by decide) ?_
    refine ew_vret g qd_K_act_208 hp ?_
    exact ⟨rfl, xM_f6 hm, xFr_f (by decide) (by decide)⟩
  · refine ew_tswI g qd_K_act_1 (off := 199) (tgt := 200) (by decide +kernel) (by decide +kernel) (by decide +kernel) (by decide) ?_
    refine ew_aload_n g qd_K_act_200 rfl ?_
    refine ew_iconst g qd_K_act_201 ic_3 ?_
    refine ew_put g qd_K_act_202 qf_K_35 (qp_K_ending _) (by decide) rfl rfl ?_
    refine ew_goto g qd_K_act_205 (tgt := 208) (by decide) ?_
    refine ew_vret g qd_K_act_208 hp ?_
    exact ⟨rfl, xM_f6 hm, xFr_f (by decide) (by decide)⟩
theorem k_K_look (w : WC) (l : Launch) (sg : SG) {s : PM} {inp cal o x y : Nat} (hm : xMach sg s inp cal) (ho : o < 25) (hat : pAt s < 32) (hx : x < 16) (hy : y < 16) : ew_M qS w l qy_K_look qw_K_look qr_K_look [.inr 1, .inl (nI o), .inl (nI x), .inl (nI y)] sg (fun v sg' => v = none ∧ xMach sg' (pNote s (pLook cal s o y x)) inp cal ∧ xFr sg sg') := by
  obtain ⟨hok, h2, h3, h4, h5, h6, h7, h8, h9, h10, h11⟩ := id hm
  have hyx : y * x < 2 ^ 31 := Nat.lt_of_le_of_lt (Nat.mul_le_mul (Nat.le_of_lt hy) (Nat.le_of_lt hx)) (by decide)
  have hcal := h10.2
  refine ew_entry (ws' := qwg) (own := qR_K) (cc := qc_K_look) (nL := 5) (ret := none) qnk (by decide) rfl rfl (Nat.le_of_ble_eq_true rfl) ?_
  intro k g hp
  have hJ : ∀ b, b = pOver o y x → ew_E qS w 5 k 44 [some (.inr 1), some (.inl (nI o)), some (.inl (nI x)), some (.inl (nI y)), none] [.inl (bI b)] sg := by
    intro b hb
    cases b with
    | true =>
      refine ew_istore g qd_K_look_44 (by decide) ?_
      refine ew_iload g qd_K_look_46 rfl ?_
      refine en_top bI_t ?_
      refine en_if_eq g qd_K_look_48 (tgt := 59) (by decide) (by omega) (fun h => ?_) (fun h => ?_)
      · exact absurd h (by decide)
      · refine ew_aload_n g qd_K_look_51 rfl ?_
        refine ew_iconst g qd_K_look_52 ic_1 ?_
        refine ew_callV g qd_K_look_53 (k_K_note w k.2.1 sg h6 (by decide)) qv_K_91 (by decide) rfl ⟨_, _, rfl⟩ rfl rfl (Nat.le_of_ble_eq_true rfl) ⟨rfl, rfl, by decide, by decide⟩ (fun v sg1 hv => ?_)
        obtain ⟨rfl, rfl⟩ := hv
        refine ew_goto g qd_K_look_56 (tgt := 98) (by decide) ?_
        refine ew_vret g qd_K_look_98 hp ?_
        refine ⟨rfl, ?_, xFr_a (Or.inr rfl)⟩
        unfold pLook
        rw [if_pos hb.symm]
        exact xM_note hm hat (by decide)
    | false =>
      have hnb : ¬ pOver o y x = true := by rw [← hb]; decide
      refine ew_istore g qd_K_look_44 (by decide) ?_
      refine ew_iload g qd_K_look_46 rfl ?_
      refine en_top bI_f ?_
      refine en_if_eq g qd_K_look_48 (tgt := 59) (by decide) (by omega) (fun h => ?_) (fun h => ?_)
      · refine ew_iload_n g qd_K_look_59 rfl ?_
        refine ew_bipush g qd_K_look_60 bp_24 ?_
        have h80 : ¬ (o = 24 ∧ cal ≠ 0) → ew_E qS w 5 k 80 (([some (.inr 1), some (.inl (nI o)), some (.inl (nI x)), some (.inl (nI y)), none] : List (Option MV)).set 4 (some (.inl (bI false)))) [] sg := by
          intro hno
          refine ew_iload_n g qd_K_look_80 rfl ?_
          refine ew_bipush g qd_K_look_81 bp_15 ?_
          refine en_ne g qd_K_look_83 (tgt := 98) (by decide) (by omega) (by omega) (fun h3 => ?_) (fun h3 => ?_)
          · refine ew_vret g qd_K_look_98 hp ?_
            refine ⟨rfl, ?_, xFr.rf sg⟩
            unfold pLook
            rw [if_neg hnb, if_neg hno, if_neg (fun q => h3 q.1)]
            exact hm
          · refine ew_aload_n g qd_K_look_86 rfl ?_
            refine ew_get g qd_K_look_87 qf_K_44 (by decide) rfl rfl ?_
            cases hse : pSe s with
            | true =>
              rw [hse] at h7
              refine en_top (h7.trans bI_t) ?_
              refine en_if_eq g qd_K_look_90 (tgt := 98) (by decide) (by omega) (fun hz => ?_) (fun hz => ?_)
              · exact absurd hz (by decide)
              · refine ew_aload_n g qd_K_look_93 rfl ?_
                refine ew_iconst g qd_K_look_94 ic_3 ?_
                refine ew_callV g qd_K_look_95 (k_K_note w k.2.1 sg h6 (by decide)) qv_K_91 (by decide) rfl ⟨_, _, rfl⟩ rfl rfl (Nat.le_of_ble_eq_true rfl) ⟨rfl, rfl, by decide, by decide⟩ (fun v sg1 hv => ?_)
                obtain ⟨rfl, rfl⟩ := hv
                refine ew_vret g qd_K_look_98 hp ?_
                refine ⟨rfl, ?_, xFr_a (Or.inr rfl)⟩
                unfold pLook
                rw [if_neg hnb, if_neg hno, if_pos ⟨h3, hse⟩]
                exact xM_note hm hat (by decide)
            | false =>
              rw [hse] at h7
              refine en_top (h7.trans bI_f) ?_
              refine en_if_eq g qd_K_look_90 (tgt := 98) (by decide) (by omega) (fun hz => ?_) (fun hz => ?_)
              · refine ew_vret g qd_K_look_98 hp ?_
                refine ⟨rfl, ?_, xFr.rf sg⟩
                unfold pLook
                rw [if_neg hnb, if_neg hno, if_neg (fun q => by rw [hse] at q; exact absurd q.2 (by decide))]
                exact hm
              · exact absurd rfl hz
        refine en_ne g qd_K_look_62 (tgt := 80) (by decide) (by omega) (by omega) (fun h24 => ?_) (fun h24 => ?_)
        · exact h80 (fun q => h24 q.1)
        · refine ew_aload_n g qd_K_look_65 rfl ?_
          refine ew_get g qd_K_look_66 qf_K_41 (by decide) rfl rfl ?_
          refine en_top h10.1 ?_
          refine en_if_eq g qd_K_look_69 (tgt := 80) (by decide) (by omega) (fun hz => ?_) (fun hz => ?_)
          · exact h80 (fun q => q.2 hz)
          · refine ew_aload_n g qd_K_look_72 rfl ?_
            refine ew_iconst g qd_K_look_73 ic_2 ?_
            refine ew_callV g qd_K_look_74 (k_K_note w k.2.1 sg h6 (by decide)) qv_K_91 (by decide) rfl ⟨_, _, rfl⟩ rfl rfl (Nat.le_of_ble_eq_true rfl) ⟨rfl, rfl, by decide, by decide⟩ (fun v sg1 hv => ?_)
            obtain ⟨rfl, rfl⟩ := hv
            refine ew_goto g qd_K_look_77 (tgt := 98) (by decide) ?_
            refine ew_vret g qd_K_look_98 hp ?_
            refine ⟨rfl, ?_, xFr_a (Or.inr rfl)⟩
            unfold pLook
            rw [if_neg hnb, if_pos ⟨h24, hz⟩]
            exact xM_note hm hat (by decide)
      · exact absurd rfl h
  have hT : pOver o y x = true → ew_E qS w 5 k 39 [some (.inr 1), some (.inl (nI o)), some (.inl (nI x)), some (.inl (nI y)), none] [] sg := by
    intro q
    refine ew_iconst g qd_K_look_39 ic_1 ?_
    refine ew_goto g qd_K_look_40 (tgt := 44) (by decide) ?_
    exact hJ true q.symm
  have hF : ¬ ((o = 6 ∧ 16 ≤ y + x) ∨ (o = 8 ∧ 16 ≤ y * x) ∨ (o = 7 ∧ y < x)) → ew_E qS w 5 k 43 [some (.inr 1), some (.inl (nI o)), some (.inl (nI x)), some (.inl (nI y)), none] [] sg := by
    intro q
    refine ew_iconst g qd_K_look_43 ic_0 ?_
    exact hJ false (decide_eq_false q).symm
  have h28 : ¬ (o = 6 ∧ 16 ≤ y + x) → ¬ (o = 8 ∧ 16 ≤ y * x) → ew_E qS w 5 k 28 [some (.inr 1), some (.inl (nI o)), some (.inl (nI x)), some (.inl (nI y)), none] [] sg := by
    intro q1 q2
    refine ew_iload_n g qd_K_look_28 rfl ?_
    refine ew_bipush g qd_K_look_29 bp_7 ?_
    refine en_ne g qd_K_look_31 (tgt := 43) (by decide) (by omega) (by omega) (fun h => ?_) (fun h => ?_)
    · exact hF (fun z => by rcases z with z | z | z; exact q1 z; exact q2 z; exact h z.1)
    · refine ew_iload_n g qd_K_look_34 rfl ?_
      refine ew_iload_n g qd_K_look_35 rfl ?_
      refine en_le g qd_K_look_36 (tgt := 43) (by decide) (by omega) (by omega) (fun h' => ?_) (fun h' => ?_)
      · exact hF (fun z => by rcases z with z | z | z; exact q1 z; exact q2 z; omega)
      · exact hT (decide_eq_true (Or.inr (Or.inr ⟨h, h'⟩)))
  have h14 : ¬ (o = 6 ∧ 16 ≤ y + x) → ew_E qS w 5 k 14 [some (.inr 1), some (.inl (nI o)), some (.inl (nI x)), some (.inl (nI y)), none] [] sg := by
    intro q1
    refine ew_iload_n g qd_K_look_14 rfl ?_
    refine ew_bipush g qd_K_look_15 bp_8 ?_
    refine en_ne g qd_K_look_17 (tgt := 28) (by decide) (by omega) (by omega) (fun h => ?_) (fun h => ?_)
    · exact h28 q1 (fun z => h z.1)
    · refine ew_iload_n g qd_K_look_20 rfl ?_
      refine ew_iload_n g qd_K_look_21 rfl ?_
      refine ew_imul g qd_K_look_22 ?_
      refine en_top (pk_mul _ _) ?_
      refine ew_bipush g qd_K_look_23 bp_16 ?_
      refine en_ge g qd_K_look_25 (tgt := 39) (by decide) (by omega) (by omega) (fun h' => ?_) (fun h' => ?_)
      · exact hT (decide_eq_true (Or.inr (Or.inl ⟨h, h'⟩)))
      · exact h28 q1 (fun z => by have := z.2; omega)
  refine ew_iload_n g qd_K_look_0 rfl ?_
  refine ew_bipush g qd_K_look_1 bp_6 ?_
  refine en_ne g qd_K_look_3 (tgt := 14) (by decide) (by omega) (by omega) (fun h => ?_) (fun h => ?_)
  · exact h14 (fun z => h z.1)
  · refine ew_iload_n g qd_K_look_6 rfl ?_
    refine ew_iload_n g qd_K_look_7 rfl ?_
    refine ew_iadd g qd_K_look_8 ?_
    refine en_top (nI_add _ _) ?_
    refine ew_bipush g qd_K_look_9 bp_16 ?_
    refine en_ge g qd_K_look_11 (tgt := 39) (by decide) (by omega) (by omega) (fun h' => ?_) (fun h' => ?_)
    · exact hT (decide_eq_true (Or.inl ⟨h, h'⟩))
    · exact h14 (fun z => by have := z.2; omega)
end
section
theorem pFault_lt {cd : CDE} {s : PM} {o a f : Nat} (h : pFault cd s o a = some f) : f < 5 := by
  unfold pFault at h
  split at h
  · cases h; decide
  · split at h
    · split at h <;> cases h; decide
    · split at h
      · split at h <;> cases h; decide
      · split at h
        · split at h <;> cases h; decide
        · split at h
          · split at h <;> cases h; decide
          · split at h
            · split at h <;> cases h; decide
            · cases h
theorem k_K_perform (w : WC) (l : Launch) (sg : SG) {cd : CDE} {s : PM} {inp cal o a : Nat} (hc : xCode sg cd) (hm : xMach sg s inp cal) (ho : o < 25) (ha : a < 16) (hat : pAt s < 32) : ew_M qS w l qy_K_perform qw_K_perform qr_K_perform [.inr 1, .inl (nI o), .inl (nI a)] sg (fun v sg' => v = none ∧ xMach sg' (pPer cd inp cal s o a) inp cal ∧ xFr sg sg') := by
  obtain ⟨hok, h2, h3, h4, h5, h6, h7, h8, h9, h10, h11⟩ := id hm
  have hd6 := hok.1
  obtain ⟨hT, hC, hC1, hPu⟩ := o_small o ho
  refine ew_entry (ws' := qwg) (own := qR_K) (cc := qc_K_perform) (nL := 6) (ret := none) qnk (by decide) rfl rfl (Nat.le_of_ble_eq_true rfl) ?_
  intro k g hp
  refine ew_aload_n g qd_K_perform_0 rfl ?_
  refine ew_iload_n g qd_K_perform_1 rfl ?_
  refine ew_iload_n g qd_K_perform_2 rfl ?_
  refine ew_callV g qd_K_perform_3 (k_K_faultOf w k.2.1 sg hc hm ho ha) qv_K_87 (by decide) rfl ⟨_, _, rfl⟩ rfl rfl (Nat.le_of_ble_eq_true rfl) ⟨rfl, rfl, by decide, by decide⟩ (fun v sg1 hv => ?_)
  obtain ⟨rfl, rfl⟩ := hv
  cases hf : pFault cd s o a with
  | some f =>
    have hf5 := pFault_lt hf
    refine en_top (show _ = nI f from rfl) ?_
    refine ew_istore_n g qd_K_perform_6 (by decide) ?_
    refine ew_iload_n g qd_K_perform_7 rfl ?_
    refine ew_iconst g qd_K_perform_8 ic_m1 ?_
    refine ew_icmp_eq g qd_K_perform_9 (tgt := 23) (by decide) (fun h => ?_) (fun h => ?_)
    · exact absurd h (nI_m1 (by omega))
    · refine ew_aload_n g qd_K_perform_12 rfl ?_
      refine ew_iload_n g qd_K_perform_13 rfl ?_
      refine ew_callV g qd_K_perform_14 (k_K_note w k.2.1 sg1 h6 hf5) qv_K_91 (by decide) rfl ⟨_, _, rfl⟩ rfl rfl (Nat.le_of_ble_eq_true rfl) ⟨rfl, rfl, by decide, by decide⟩ (fun v sg2 hv => ?_)
      obtain ⟨rfl, rfl⟩ := hv
      refine ew_aload_n g qd_K_perform_17 rfl ?_
      refine ew_iconst g qd_K_perform_18 ic_2 ?_
      refine ew_put g qd_K_perform_19 qf_K_35 (qp_K_ending _) (by decide) rfl rfl ?_
      refine ew_vret g qd_K_perform_22 hp ?_
      refine ⟨rfl, ?_, (xFr_a (Or.inr rfl)).tr (xFr_f (by decide) (by decide))⟩
      unfold pPer
      rw [hf]
      exact xM_f6 (xM_note hm hat hf5)
  | none =>
    obtain ⟨f1, f2, f3, f4, f5, f6, f7, -⟩ := pFault_none hf
    have hx := pUn_lt hok 0
    have hy := pUn_lt hok 1
    have hga := hok.2.2.2.1
    refine en_top (show _ = (-1 : Int32) from rfl) ?_
    refine ew_istore_n g qd_K_perform_6 (by decide) ?_
    refine ew_iload_n g qd_K_perform_7 rfl ?_
    refine ew_iconst g qd_K_perform_8 ic_m1 ?_
    refine ew_icmp_eq g qd_K_perform_9 (tgt := 23) (by decide) (fun h => ?_) (fun h => ?_)
    · refine ew_aload_n g qd_K_perform_23 rfl ?_
      refine ew_iconst g qd_K_perform_24 ic_0 ?_
      refine ew_callV g qd_K_perform_25 (k_K_wordUnder w k.2.1 sg1 h2 hd6 (by decide)) qv_K_94 (by decide) rfl ⟨_, _, rfl⟩ rfl rfl (Nat.le_of_ble_eq_true rfl) ⟨rfl, rfl, by decide, by decide⟩ (fun v sg2 hv => ?_)
      obtain ⟨rfl, rfl⟩ := hv
      refine en_top (xM_un hm 0) ?_
      refine ew_istore g qd_K_perform_28 (by decide) ?_
      refine ew_aload_n g qd_K_perform_30 rfl ?_
      refine ew_iconst g qd_K_perform_31 ic_1 ?_
      refine ew_callV g qd_K_perform_32 (k_K_wordUnder w k.2.1 sg2 h2 hd6 (by decide)) qv_K_94 (by decide) rfl ⟨_, _, rfl⟩ rfl rfl (Nat.le_of_ble_eq_true rfl) ⟨rfl, rfl, by decide, by decide⟩ (fun v sg3 hv => ?_)
      obtain ⟨rfl, rfl⟩ := hv
      refine en_top (xM_un hm 1) ?_
      refine ew_istore g qd_K_perform_35 (by decide) ?_
      refine ew_aload_n g qd_K_perform_37 rfl ?_
      refine ew_iload_n g qd_K_perform_38 rfl ?_
      refine ew_iload g qd_K_perform_39 rfl ?_
      refine ew_iload g qd_K_perform_41 rfl ?_
      refine ew_callV g qd_K_perform_43 (k_K_look w k.2.1 sg3 hm ho hat hx hy) qv_K_98 (by decide) rfl ⟨_, _, rfl⟩ rfl rfl (Nat.le_of_ble_eq_true rfl) ⟨rfl, rfl, by decide, by decide⟩ (fun v sg4 hv => ?_)
      obtain ⟨rfl, hm1, hfr1⟩ := hv
      refine ew_aload_n g qd_K_perform_46 rfl ?_
      refine ew_dup g qd_K_perform_47 ?_
      refine ew_get g qd_K_perform_48 qf_K_29 (by decide) rfl rfl ?_
      refine en_top (show _ = nI (pGa s) from hm1.2.2.2.2.1) ?_
      refine ew_gets g qd_K_perform_51 (j := 0) rfl qf_K_101 ?_
      refine ew_iload_n g qd_K_perform_54 rfl ?_
      refine en_tald g qd_K_perform_55 (j := 0) rfl (by omega) (by omega) rfl ?_
      refine ew_isub g qd_K_perform_56 ?_
      refine en_top (pk_sub f1) ?_
      refine ew_put g qd_K_perform_57 qf_K_29 (qp_K_gas _) (by decide) rfl rfl ?_
      have hm2 := xM_f4 (d := pGa s - oCost o) (by omega) hm1
      refine ew_aload_n g qd_K_perform_60 rfl ?_
      refine ew_dup g qd_K_perform_61 ?_
      refine ew_get g qd_K_perform_62 qf_K_22 (by decide) rfl rfl ?_
      refine en_top (show _ = nI (pDe s) from hm2.2.1) ?_
      refine ew_gets g qd_K_perform_65 (j := 1) rfl qf_K_104 ?_
      refine ew_iload_n g qd_K_perform_68 rfl ?_
      refine en_tald g qd_K_perform_69 (j := 1) rfl (by omega) (by omega) rfl ?_
      refine ew_isub g qd_K_perform_70 ?_
      refine en_top (pk_sub f2) ?_
      refine ew_put g qd_K_perform_71 qf_K_22 (qp_K_depth _) (by decide) rfl rfl ?_
      have hm3 := xM_f2 (d := pDe s - oTake o) (by show pDe s - oTake o ≤ pDe s; omega) hm2
      refine ew_aload_n g qd_K_perform_74 rfl ?_
      refine ew_dup g qd_K_perform_75 ?_
      refine ew_get g qd_K_perform_76 qf_K_32 (by decide) rfl rfl ?_
      refine en_top (show _ = nI (pAt s) from hm3.2.2.2.2.2.1) ?_
      refine ew_iconst g qd_K_perform_79 ic_1 ?_
      refine ew_iadd g qd_K_perform_80 ?_
      refine en_top (nI_add _ _) ?_
      refine ew_put g qd_K_perform_81 qf_K_32 (qp_K_at _) (by decide) rfl rfl ?_
      have hm4 := xM_f5 (d := pAt s + 1) hat hm3
      refine ew_gets g qd_K_perform_84 (j := 2) rfl qf_K_107 ?_
      refine ew_iload_n g qd_K_perform_87 rfl ?_
      refine en_tald g qd_K_perform_88 (j := 2) rfl (by omega) (by omega) rfl ?_
      refine ew_iconst g qd_K_perform_89 ic_1 ?_
      have hm4 : xMach _ (pS1 cal s o (pUn s 1) (pUn s 0)) inp cal := hm4
      have hfr4 := ((hfr1.tr (xFr_f (i := 4) (x := nI (pGa s - oCost o)) (by decide) (by decide))).tr (xFr_f (i := 2) (x := nI (pDe s - oTake o)) (by decide) (by decide))).tr (xFr_f (i := 5) (x := nI (pAt s + 1)) (by decide) (by decide))
      generalize sup (sup (sup sg4 1 4 (nI (pGa s - oCost o))) 1 2 (nI (pDe s - oTake o))) 1 5 (nI (pAt s + 1)) = sg5 at hm4 hfr4 ⊢
      refine en_ne g qd_K_perform_90 (tgt := 125) (by decide) (by omega) (by omega) (fun hp1 => ?_) (fun hp1 => ?_)
      · have h44 : o = 4 → a + 1 < pDe s - oTake o := fun e => by
          have q1 := f5 e
          have q2 : oTake o = 0 := by rw [e]; decide
          omega
        refine ew_aload_n g qd_K_perform_125 rfl ?_
        refine ew_iload_n g qd_K_perform_126 rfl ?_
        refine ew_iload_n g qd_K_perform_127 rfl ?_
        refine ew_iload g qd_K_perform_128 rfl ?_
        refine ew_iload g qd_K_perform_130 rfl ?_
        refine ew_callV g qd_K_perform_132 (k_K_act w k.2.1 sg5 (hfr4.code hc) hm4 ho ha hx hy h44 f6 f7) qv_K_114 (by decide) rfl ⟨_, _, rfl⟩ rfl rfl (Nat.le_of_ble_eq_true rfl) ⟨rfl, rfl, by decide, by decide⟩ (fun v sg6 hv => ?_)
        obtain ⟨rfl, hm6, hfr6⟩ := hv
        refine ew_vret g qd_K_perform_135 hp ?_
        refine ⟨rfl, ?_, hfr4.tr hfr6⟩
        unfold pPer
        rw [hf]
        show xMach sg6 (pDo cd inp cal s o a (pUn s 1) (pUn s 0)) inp cal
        unfold pDo
        rw [if_neg hp1]
        exact hm6
      · refine ew_aload_n g qd_K_perform_93 rfl ?_
        refine ew_getR g qd_K_perform_94 qf_K_18 (by decide) rfl rfl ?_
        refine ew_aload_n g qd_K_perform_97 rfl ?_
        refine ew_get g qd_K_perform_98 qf_K_22 (by decide) rfl rfl ?_
        refine en_top (show _ = nI (pDe s - oTake o) from hm4.2.1) ?_
        refine ew_aload_n g qd_K_perform_101 rfl ?_
        refine ew_iload_n g qd_K_perform_102 rfl ?_
        refine ew_iload_n g qd_K_perform_103 rfl ?_
        refine ew_iload g qd_K_perform_104 rfl ?_
        refine ew_iload g qd_K_perform_106 rfl ?_
        refine ew_callV g qd_K_perform_108 (k_K_wordPut w k.2.1 sg5 hm4 ho ha hx hy) qv_K_110 (by decide) rfl ⟨_, _, rfl⟩ rfl rfl (Nat.le_of_ble_eq_true rfl) ⟨rfl, rfl, by decide, by decide⟩ (fun v sg6 hv => ?_)
        obtain ⟨rfl, hm6, hfr6⟩ := hv
        have hde6 : sg6 1 2 = nI (pDe s - oTake o) := by rw [hm6.2.1, pSnd_de]; rfl
        refine en_iast g qd_K_perform_111 (by decide) rfl (by omega) (by omega) ?_
        refine ew_aload_n g qd_K_perform_112 rfl ?_
        refine ew_dup g qd_K_perform_113 ?_
        refine ew_get g qd_K_perform_114 qf_K_22 (by decide) rfl rfl ?_
        refine en_top (show sup sg6 6 _ _ 1 2 = nI (pDe s - oTake o) by rw [sup_n (by decide)]; exact hde6) ?_
        refine ew_iconst g qd_K_perform_117 ic_1 ?_
        refine ew_iadd g qd_K_perform_118 ?_
        refine en_top (nI_add _ _) ?_
        refine ew_put g qd_K_perform_119 qf_K_22 (qp_K_depth _) (by decide) rfl rfl ?_
        refine ew_goto g qd_K_perform_122 (tgt := 135) (by decide) ?_
        refine ew_vret g qd_K_perform_135 hp ?_
        refine ⟨rfl, ?_, (hfr4.tr hfr6).tr ((xFr_a (Or.inl rfl)).tr (xFr_f (by decide) (by decide)))⟩
        unfold pPer
        rw [hf]
        show xMach _ (pDo cd inp cal s o a (pUn s 1) (pUn s 0)) inp cal
        unfold pDo
        rw [if_pos hp1]
        have hps := xM_push hm6 (pPut_lt (o := o) (a := a) (y := pUn s 1) (x := pUn s 0) hm4.1 h9.2 h10.2 ha hy hx) (by rw [pSnd_de]; show pDe s - oTake o < 6; omega)
        rw [pSnd_de] at hps
        exact hps
    · exact absurd rfl h
/-- what a machine holds of its way -/
def shp (l : List Nat) : Int32 := l.foldl (fun h a => h * nI 31 + nI a + nI 1) (nI 0)
def xWay (sg : SG) (l : List Nat) : Prop := l.length ≤ 41 ∧ sg 1 11 = nI l.length ∧ sg 1 12 = shp l ∧ ∀ i, i < l.length → sg 7 i = nI (l.getD i 0) ∧ l.getD i 0 < 32
theorem shp_snoc (l : List Nat) (a : Nat) : shp (l ++ [a]) = shp l * nI 31 + nI a + nI 1 := by unfold shp; rw [List.foldl_append]; rfl
theorem k_K_keepStep (w : WC) (l : Launch) (sg : SG) {a i : Nat} (ha : sg 1 5 = nI a) (hi : i < 41) : ew_M qS w l qy_K_keepStep qw_K_keepStep qr_K_keepStep [.inr 1, .inl (nI i)] sg (fun v sg' => v = none ∧ sg' = sup (sup (sup sg 7 i (nI a)) 1 11 (nI (i + 1))) 1 12 (sg 1 12 * nI 31 + nI a + nI 1)) := by
  refine ew_entry (ws' := qwg) (own := qR_K) (cc := qc_K_keepStep) (nL := 2) (ret := none) qnk (by decide) rfl rfl (Nat.le_of_ble_eq_true rfl) ?_
  intro k g hp
  refine ew_aload_n g qd_K_keepStep_0 rfl ?_
  refine ew_getR g qd_K_keepStep_1 qf_K_48 (by decide) rfl rfl ?_
  refine ew_iload_n g qd_K_keepStep_4 rfl ?_
  refine ew_aload_n g qd_K_keepStep_5 rfl ?_
  refine ew_get g qd_K_keepStep_6 qf_K_32 (by decide) rfl rfl ?_
  refine en_top ha ?_
  refine en_iast g qd_K_keepStep_9 (by decide) rfl (by omega) (by omega) ?_
  refine ew_aload_n g qd_K_keepStep_10 rfl ?_
  refine ew_iload_n g qd_K_keepStep_11 rfl ?_
  refine ew_iconst g qd_K_keepStep_12 ic_1 ?_
  refine ew_iadd g qd_K_keepStep_13 ?_
  refine en_top (nI_add _ _) ?_
  refine ew_put g qd_K_keepStep_14 qf_K_51 (qp_K_stepCount _) (by decide) rfl rfl ?_
  refine ew_aload_n g qd_K_keepStep_17 rfl ?_
  refine ew_aload_n g qd_K_keepStep_18 rfl ?_
  refine ew_get g qd_K_keepStep_19 qf_K_54 (by decide) rfl rfl ?_
  refine en_top (show sup (sup sg 7 i (nI a)) 1 11 (nI (i + 1)) 1 12 = sg 1 12 by rw [sup_s, pk_un (by decide), sup_n (by decide)]) ?_
  refine ew_bipush g qd_K_keepStep_22 bp_31 ?_
  refine ew_imul g qd_K_keepStep_24 ?_
  refine ew_aload_n g qd_K_keepStep_25 rfl ?_
  refine ew_get g qd_K_keepStep_26 qf_K_32 (by decide) rfl rfl ?_
  refine en_top (show sup (sup sg 7 i (nI a)) 1 11 (nI (i + 1)) 1 5 = nI a by rw [sup_s, pk_un (by decide), sup_n (by decide)]; exact ha) ?_
  refine ew_iadd g qd_K_keepStep_29 ?_
  refine ew_iconst g qd_K_keepStep_30 ic_1 ?_
  refine ew_iadd g qd_K_keepStep_31 ?_
  refine ew_put g qd_K_keepStep_32 qf_K_54 (qp_K_shape _) (by decide) rfl rfl ?_
  refine ew_vret g qd_K_keepStep_35 hp ?_
  exact ⟨rfl, rfl⟩
theorem xM_keep {sg : SG} {s : PM} {inp cal i : Nat} {x y z : Int32} (h : xMach sg s inp cal) : xMach (sup (sup (sup sg 7 i x) 1 11 y) 1 12 z) s inp cal := by
  have e1 : ∀ j, j ≠ 11 → j ≠ 12 → sup (sup (sup sg 7 i x) 1 11 y) 1 12 z 1 j = sg 1 j := fun j h1 h2 => by rw [sup_s, pk_un h2, sup_s, pk_un h1, sup_n (by decide)]
  have e6 : sup (sup (sup sg 7 i x) 1 11 y) 1 12 z 6 = sg 6 := by rw [sup_n (by decide), sup_n (by decide), sup_n (by decide)]
  have e8 : sup (sup (sup sg 7 i x) 1 11 y) 1 12 z 8 = sg 8 := by rw [sup_n (by decide), sup_n (by decide), sup_n (by decide)]
  unfold xMach
  rw [e6, e8, e1 2 (by decide) (by decide), e1 3 (by decide) (by decide), e1 4 (by decide) (by decide), e1 5 (by decide) (by decide), e1 9 (by decide) (by decide), e1 7 (by decide) (by decide), e1 8 (by decide) (by decide), e1 6 (by decide) (by decide)]
  exact h
theorem xW_keep {sg : SG} {l : List Nat} {a : Nat} (h : xWay sg l) (hl : l.length < 41) (ha : a < 32) : xWay (sup (sup (sup sg 7 l.length (nI a)) 1 11 (nI (l.length + 1))) 1 12 (sg 1 12 * nI 31 + nI a + nI 1)) (l ++ [a]) := by
  obtain ⟨-, h2, h3, h4⟩ := h
  refine ⟨by simp; omega, ?_, ?_, fun i hi => ?_⟩
  · rw [sup_s, pk_un (by decide), sup_s, pk_us]; simp
  · rw [sup_s, pk_us, shp_snoc, h3]
  · rw [sup_n (by decide), sup_n (by decide), sup_s]
    have hi : i < l.length + 1 := by simpa using hi
    by_cases e : i = l.length
    · subst e
      rw [pk_us]
      simp [ha]
    · rw [pk_un e]
      have : i < l.length := by omega
      have hg : (l ++ [a]).getD i 0 = l.getD i 0 := by simp [List.getElem?_append, this]
      rw [hg]
      exact h4 i this
theorem xW_fr {sg sg' : SG} {l : List Nat} (h : xWay sg l) (hf : xFr sg sg') : xWay sg' l := by
  unfold xWay
  rw [hf.2.1, hf.2.2, hf.1 7 (by decide) (by decide) (by decide)]
  exact h
end
section
def begF (sg : SG) (num st lim : Int32) : SG := sfil (sup (sup (sup (sup (sup (sup (sup (sup (sup sg 1 2 (nI 0)) 1 3 st) 1 4 lim) 1 5 (nI 0)) 1 7 (num / nI 4)) 1 8 (num - num / nI 4 * nI 4)) 1 9 (bI false)) 1 11 (nI 0)) 1 12 (nI 0)) 8 5 (nI 0)
theorem k_K_begin (w : WC) (l : Launch) (sg : SG) (num st lim : Int32) : ew_M qS w l qy_K_begin qw_K_begin qr_K_begin [.inr 1, .inl num, .inl st, .inl lim] sg (fun v sg' => v = none ∧ sg' = begF sg num st lim) := by
  refine ew_entry (ws' := qwg) (own := qR_K) (cc := qc_K_begin) (nL := 4) (ret := none) qnk (by decide) rfl rfl (Nat.le_of_ble_eq_true rfl) ?_
  intro k g hp
  refine ew_aload_n g qd_K_begin_0 rfl ?_
  refine ew_iconst g qd_K_begin_1 ic_0 ?_
  refine ew_put g qd_K_begin_2 qf_K_22 (qp_K_depth _) (by decide) rfl rfl ?_
  refine ew_aload_n g qd_K_begin_5 rfl ?_
  refine ew_iload_n g qd_K_begin_6 rfl ?_
  refine ew_put g qd_K_begin_7 qf_K_26 (qp_K_state _) (by decide) rfl rfl ?_
  refine ew_aload_n g qd_K_begin_10 rfl ?_
  refine ew_iload_n g qd_K_begin_11 rfl ?_
  refine ew_put g qd_K_begin_12 qf_K_29 (qp_K_gas _) (by decide) rfl rfl ?_
  refine ew_aload_n g qd_K_begin_15 rfl ?_
  refine ew_iconst g qd_K_begin_16 ic_0 ?_
  refine ew_put g qd_K_begin_17 qf_K_32 (qp_K_at _) (by decide) rfl rfl ?_
  refine ew_aload_n g qd_K_begin_20 rfl ?_
  refine ew_iload_n g qd_K_begin_21 rfl ?_
  refine ew_iconst g qd_K_begin_22 ic_4 ?_
  refine ew_idiv g qd_K_begin_23 (by decide +kernel) ?_
  refine ew_put g qd_K_begin_24 qf_K_38 (qp_K_input _) (by decide) rfl rfl ?_
  refine ew_aload_n g qd_K_begin_27 rfl ?_
  refine ew_iload_n g qd_K_begin_28 rfl ?_
  refine ew_iconst g qd_K_begin_29 ic_4 ?_
  refine ew_irem g qd_K_begin_30 (by decide +kernel) ?_
  refine ew_put g qd_K_begin_31 qf_K_41 (qp_K_caller _) (by decide) rfl rfl ?_
  refine ew_aload_n g qd_K_begin_34 rfl ?_
  refine ew_iconst g qd_K_begin_35 ic_0 ?_
  refine en_top bI_f.symm ?_
  refine ew_put g qd_K_begin_36 qf_K_44 (qp_K_hasSent _) (by decide) rfl rfl ?_
  refine ew_aload_n g qd_K_begin_39 rfl ?_
  refine ew_iconst g qd_K_begin_40 ic_0 ?_
  refine ew_put g qd_K_begin_41 qf_K_51 (qp_K_stepCount _) (by decide) rfl rfl ?_
  refine ew_aload_n g qd_K_begin_44 rfl ?_
  refine ew_iconst g qd_K_begin_45 ic_0 ?_
  refine ew_put g qd_K_begin_46 qf_K_54 (qp_K_shape _) (by decide) rfl rfl ?_
  refine ew_aload_n g qd_K_begin_49 rfl ?_
  refine ew_getR g qd_K_begin_50 qf_K_57 (by decide) rfl rfl ?_
  refine ew_iconst g qd_K_begin_53 ic_0 ?_
  refine ew_callS g qd_K_begin_54 (k_A_fill w k.2.1 _ (nI 0) (by decide) rfl (by decide)) qs_K_81 rfl rfl (Nat.le_of_ble_eq_true rfl) ⟨rfl, rfl, by decide, by decide⟩ (fun v sg1 hv => ?_)
  obtain ⟨rfl, rfl⟩ := hv
  refine ew_vret g qd_K_begin_57 hp ?_
  exact ⟨rfl, rfl⟩
theorem begF_1 (sg : SG) (num st lim : Int32) : begF sg num st lim 1 = upd (upd (upd (upd (upd (upd (upd (upd (upd (sg 1) 2 (nI 0)) 3 st) 4 lim) 5 (nI 0)) 7 (num / nI 4)) 8 (num - num / nI 4 * nI 4)) 9 (bI false)) 11 (nI 0)) 12 (nI 0) := by
  unfold begF
  rw [sfil_n (by decide)]
  simp only [sup_s]
theorem begF_n {sg : SG} {num st lim : Int32} {q : Nat} (h1 : q ≠ 1) (h8 : q ≠ 8) : begF sg num st lim q = sg q := by
  unfold begF
  rw [sfil_n h8]
  simp only [sup_n h1]
theorem b_zero (i : Nat) : bt (nI 0) i = false := b_0 i
/-- nothing but the machine's own cells -/
def xFm (sg sg' : SG) : Prop := ∀ o, o ≠ 1 → o ≠ 6 → o ≠ 7 → o ≠ 8 → sg' o = sg o
theorem xFm.rf (sg : SG) : xFm sg sg := fun _ _ _ _ _ => rfl
theorem xFm.tr {a b c : SG} (h : xFm a b) (h' : xFm b c) : xFm a c := fun o h1 h2 h3 h4 => (h' o h1 h2 h3 h4).trans (h o h1 h2 h3 h4)
theorem xFr.m {a b : SG} (h : xFr a b) : xFm a b := fun o h1 h2 _ h4 => h.1 o h1 h2 h4
theorem xFm.code {sg sg' : SG} {cd : CDE} (h : xFm sg sg') (hc : xCode sg cd) : xCode sg' cd := by
  unfold xCode at hc ⊢
  rw [h 2 (by decide) (by decide) (by decide) (by decide), h 3 (by decide) (by decide) (by decide) (by decide), h 4 (by decide) (by decide) (by decide) (by decide), h 5 (by decide) (by decide) (by decide) (by decide)]
  exact hc
theorem xM_beg (sg : SG) {num lim how : Nat} {c : Nat → Nat} (hn : num < 64) (hl : lim ≤ 40) (hc : c16 c) : xMach (sup (begF sg (nI num) (nI (pk5 c)) (nI lim)) 1 6 (nI how)) (pBeg lim c how) (num / 4) (num % 4) ∧ xWay (sup (begF sg (nI num) (nI (pk5 c)) (nI lim)) 1 6 (nI how)) [] ∧ xFm sg (sup (begF sg (nI num) (nI (pk5 c)) (nI lim)) 1 6 (nI how)) := by
  have e1 : sup (begF sg (nI num) (nI (pk5 c)) (nI lim)) 1 6 (nI how) 1 = upd (upd (upd (upd (upd (upd (upd (upd (upd (upd (sg 1) 2 (nI 0)) 3 (nI (pk5 c))) 4 (nI lim)) 5 (nI 0)) 7 (nI num / nI 4)) 8 (nI num - nI num / nI 4 * nI 4)) 9 (bI false)) 11 (nI 0)) 12 (nI 0)) 6 (nI how) := by rw [sup_s, begF_1]
  have e8 : ∀ k, k < 5 → sup (begF sg (nI num) (nI (pk5 c)) (nI lim)) 1 6 (nI how) 8 k = nI 0 := fun k hk => by rw [sup_n (by decide)]; unfold begF; exact sfil_at hk
  have d1 : nI num / nI 4 = nI (num / 4) := pk_div (by omega) (by decide) (by decide)
  have d2 : nI num - nI num / nI 4 * nI 4 = nI (num % 4) := pk_rem (by omega) (by decide) (by decide)
  refine ⟨?_, ?_, ?_⟩
  · unfold xMach
    rw [e1, d2, d1]
    refine ⟨⟨Nat.zero_le 6, fun i hi => absurd hi (Nat.not_lt_zero i), hc, hl, Nat.zero_le _⟩, ?_, fun i hi => absurd hi (Nat.not_lt_zero i), ?_, ?_, ?_, ?_, ?_, ⟨?_, by omega⟩, ⟨?_, by omega⟩, ?_⟩
    · simp [upd, pBeg, pDe]
    · simp [upd, pBeg, pCe]
    · simp [upd, pBeg, pGa]
    · simp [upd, pBeg, pAt]
    · simp [upd, pBeg, pSe]
    · intro kd hk i hi
      rw [e8 kd hk, b_zero]
      rfl
    · simp [upd]
    · simp [upd]
    · simp [upd, pBeg, pHo]
  · unfold xWay
    rw [e1]
    refine ⟨by decide, by simp [upd], by simp [upd, shp], fun i hi => absurd hi (Nat.not_lt_zero i)⟩
  · intro o h1 h2 h3 h4
    rw [sup_n h1, begF_n h1 h4]
theorem pSnd_wa (s : PM) (o x : Nat) : pWa (pSnd s o x) = pWa s ∧ pHo (pSnd s o x) = pHo s := by unfold pSnd; split <;> exact ⟨rfl, rfl⟩
theorem pPer_wa {cd : CDE} {inp cal : Nat} {s : PM} {o a : Nat} (h : pHo s ≤ 5) : pWa (pPer cd inp cal s o a) = pWa s ∧ pHo (pPer cd inp cal s o a) ≤ 5 := by
  unfold pPer
  split
  · exact ⟨rfl, by show (2 : Nat) ≤ 5; decide⟩
  · unfold pDo
    split
    · exact ⟨(pSnd_wa _ _ _).1, by show pHo (pSnd _ _ _) ≤ 5; rw [(pSnd_wa _ _ _).2]; exact h⟩
    · unfold pAct
      split
      · exact ⟨rfl, h⟩
      · split
        · exact ⟨rfl, h⟩
        · split
          · exact ⟨rfl, h⟩
          · split
            · split <;> exact ⟨rfl, h⟩
            · split
              · exact ⟨rfl, by show (0 : Nat) ≤ 5; decide⟩
              · split
                · exact ⟨rfl, by show (1 : Nat) ≤ 5; decide⟩
                · split
                  · exact ⟨rfl, by show (3 : Nat) ≤ 5; decide⟩
                  · exact ⟨rfl, h⟩
theorem k_K_transact (w : WC) (l : Launch) (sg : SG) {cd : CDE} {num lim : Nat} {c : Nat → Nat} {dead : Bool} (hcd : xCode sg cd) (hn : num < 64) (hl : lim ≤ 40) (hc : c16 c) : ew_M qS w l qy_K_transact qw_K_transact qr_K_transact [.inr 1, .inl (nI num), .inl (nI (pk5 c)), .inl (bI dead), .inl (nI lim)] sg (fun v sg' => v = none ∧ xMach sg' (pTx cd lim num c dead) (num / 4) (num % 4) ∧ xWay sg' (pWa (pTx cd lim num c dead)) ∧ xFm sg sg' ∧ pHo (pTx cd lim num c dead) ≤ 5) := by
  refine ew_entry (ws' := qwg) (own := qR_K) (cc := qc_K_transact) (nL := 6) (ret := none) qnk (by decide) rfl rfl (Nat.le_of_ble_eq_true rfl) ?_
  intro k g hp
  have hX : ∀ (x : MV) (s : PM) (sg1 : SG), xMach sg1 s (num / 4) (num % 4) → xWay sg1 (pWa s) → xFm sg sg1 → pHo s ≤ 5 → pTx cd lim num c dead = (if pHo s = 1 ∨ pHo s = 2 then pCel s c else s) → ew_E qS w 6 k 109 [some (.inr 1), some (.inl (nI num)), some (.inl (nI (pk5 c))), some (.inl (bI dead)), some (.inl (nI lim)), some x] [] sg1 := by
    intro x s sg1 hm hw hf h5 e
    have hE := hm.2.2.2.2.2.2.2.2.2.2
    have hlast : pHo s = 1 ∨ pHo s = 2 → ew_E qS w 6 k 125 [some (.inr 1), some (.inl (nI num)), some (.inl (nI (pk5 c))), some (.inl (bI dead)), some (.inl (nI lim)), some x] [] sg1 := by
      intro q
      rw [if_pos q] at e
      refine ew_aload_n g qd_K_transact_125 rfl ?_
      refine ew_iload_n g qd_K_transact_126 rfl ?_
      refine ew_put g qd_K_transact_127 qf_K_26 (qp_K_state _) (by decide) rfl rfl ?_
      refine ew_vret g qd_K_transact_130 hp ?_
      rw [e]
      exact ⟨rfl, xM_f3 hc hm, xW_fr hw (xFr_f (by decide) (by decide)), hf.tr (xFr_f (by decide) (by decide)).m, h5⟩
    refine ew_aload_n g qd_K_transact_109 rfl ?_
    refine ew_get g qd_K_transact_110 qf_K_35 (by decide) rfl rfl ?_
    refine en_top hE ?_
    refine ew_iconst g qd_K_transact_113 ic_1 ?_
    refine en_eq g qd_K_transact_114 (tgt := 125) (by decide) (by omega) (by omega) (fun h1 => ?_) (fun h1 => ?_)
    · exact hlast (Or.inl h1)
    · refine ew_aload_n g qd_K_transact_117 rfl ?_
      refine ew_get g qd_K_transact_118 qf_K_35 (by decide) rfl rfl ?_
      refine en_top hE ?_
      refine ew_iconst g qd_K_transact_121 ic_2 ?_
      refine en_ne g qd_K_transact_122 (tgt := 130) (by decide) (by omega) (by omega) (fun h2 => ?_) (fun h2 => ?_)
      · refine ew_vret g qd_K_transact_130 hp ?_
        rw [if_neg (fun q => by rcases q with q | q; exact h1 q; exact h2 q)] at e
        rw [e]
        exact ⟨rfl, hm, hw, hf, h5⟩
      · exact hlast (Or.inr h2)
  have hloop : ∀ (d i : Nat) (s : PM) (sg1 : SG), i + d = 41 → xMach sg1 s (num / 4) (num % 4) → xWay sg1 (pWa s) → xFm sg sg1 → pHo s ≤ 5 → (pHo s = 5 → (pWa s).length = i) → pTx cd lim num c dead = (if pHo (pRun cd (num / 4) (num % 4) d s) = 1 ∨ pHo (pRun cd (num / 4) (num % 4) d s) = 2 then pCel (pRun cd (num / 4) (num % 4) d s) c else pRun cd (num / 4) (num % 4) d s) → ew_E qS w 6 k 32 [some (.inr 1), some (.inl (nI num)), some (.inl (nI (pk5 c))), some (.inl (bI dead)), some (.inl (nI lim)), some (.inl (nI i))] [] sg1 := by
    intro d
    induction d with
    | zero =>
      intro i s sg1 hi hm hw hf h5 hlen e
      refine ew_iload g qd_K_transact_32 rfl ?_
      refine ew_bipush g qd_K_transact_34 bp_41 ?_
      refine en_ge g qd_K_transact_36 (tgt := 109) (by decide) (by omega) (by omega) (fun h => ?_) (fun h => ?_)
      · exact hX _ s sg1 hm hw hf h5 e
      · omega
    | succ d ih =>
      intro i s sg1 hi hm hw hf h5 hlen e
      have hE := hm.2.2.2.2.2.2.2.2.2.2
      have hA := hm.2.2.2.2.2.1
      have hok := hm.1
      have ha32 := hok.2.2.2.2
      have hc1 := hf.code hcd
      have hz := hc1.1.1
      refine ew_iload g qd_K_transact_32 rfl ?_
      refine ew_bipush g qd_K_transact_34 bp_41 ?_
      refine en_ge g qd_K_transact_36 (tgt := 109) (by decide) (by omega) (by omega) (fun h => ?_) (fun h => ?_)
      · omega
      · refine ew_aload_n g qd_K_transact_39 rfl ?_
        refine ew_get g qd_K_transact_40 qf_K_35 (by decide) rfl rfl ?_
        refine en_top hE ?_
        refine ew_iconst g qd_K_transact_43 ic_5 ?_
        refine en_ne g qd_K_transact_44 (tgt := 109) (by decide) (by omega) (by omega) (fun h5n => ?_) (fun h5n => ?_)
        · refine hX _ s sg1 hm hw hf h5 ?_
          rw [pRun_stop h5n] at e
          exact e
        · have hru : pRun cd (num / 4) (num % 4) (d + 1) s = if cd.1 ≤ pAt s then pEnd s 0 else pRun cd (num / 4) (num % 4) d (pStep cd (num / 4) (num % 4) s) := by
            show (if pHo s ≠ 5 then s else _) = _
            rw [if_neg (fun q => q h5n)]
          rw [hru] at e
          refine ew_aload_n g qd_K_transact_47 rfl ?_
          refine ew_get g qd_K_transact_48 qf_K_32 (by decide) rfl rfl ?_
          refine en_top hA ?_
          refine ew_aload_n g qd_K_transact_51 rfl ?_
          refine ew_getR g qd_K_transact_52 qf_K_12 (by decide) rfl rfl ?_
          refine ew_get g qd_K_transact_55 qf_K_64 (by decide) rfl rfl ?_
          refine en_top hc1.2.1 ?_
          refine en_lt g qd_K_transact_58 (tgt := 69) (by decide) (by omega) (by omega) (fun hat => ?_) (fun hat => ?_)
          · rw [if_neg (Nat.not_le.mpr hat)] at e
            have hl41 := hlen h5n
            refine ew_aload_n g qd_K_transact_69 rfl ?_
            refine ew_iload g qd_K_transact_70 rfl ?_
            rw [← hl41]
            refine ew_callV g qd_K_transact_72 (k_K_keepStep w k.2.1 sg1 hA (by omega)) qv_K_67 (by decide) rfl ⟨_, _, rfl⟩ rfl rfl (Nat.le_of_ble_eq_true rfl) ⟨rfl, rfl, by decide, by decide⟩ (fun v sg2 hv => ?_)
            obtain ⟨rfl, hv⟩ := hv
            have hm2 : xMach sg2 (pWay s (pWa s ++ [pAt s])) (num / 4) (num % 4) := by rw [hv]; exact xM_keep hm
            have hw2 : xWay sg2 (pWa s ++ [pAt s]) := by rw [hv]; exact xW_keep hw (by omega) (by omega)
            have hf2 : xFm sg1 sg2 := by
              intro o q1 q2 q3 q4
              rw [hv, sup_n q1, sup_n q1, sup_n q3]
            have hf2' := hf.tr hf2
            have hc2 := hf2'.code hcd
            obtain ⟨ho25, ha16⟩ := hc2.1.2 _ hat
            obtain ⟨hop, harg⟩ := hc2.2.2.1 _ hat
            refine ew_aload_n g qd_K_transact_75 rfl ?_
            refine ew_aload_n g qd_K_transact_76 rfl ?_
            refine ew_getR g qd_K_transact_77 qf_K_12 (by decide) rfl rfl ?_
            refine ew_getR g qd_K_transact_80 qf_K_71 (by decide) rfl rfl ?_
            refine ew_aload_n g qd_K_transact_83 rfl ?_
            refine ew_get g qd_K_transact_84 qf_K_32 (by decide) rfl rfl ?_
            refine en_top (show _ = nI (pAt s) from hm2.2.2.2.2.2.1) ?_
            refine en_iald g qd_K_transact_87 (by decide) rfl (by omega) (by omega) hop ?_
            refine ew_aload_n g qd_K_transact_88 rfl ?_
            refine ew_getR g qd_K_transact_89 qf_K_12 (by decide) rfl rfl ?_
            refine ew_getR g qd_K_transact_92 qf_K_74 (by decide) rfl rfl ?_
            refine ew_aload_n g qd_K_transact_95 rfl ?_
            refine ew_get g qd_K_transact_96 qf_K_32 (by decide) rfl rfl ?_
            refine en_top (show _ = nI (pAt s) from hm2.2.2.2.2.2.1) ?_
            refine en_iald g qd_K_transact_99 (by decide) rfl (by omega) (by omega) harg ?_
            refine ew_callV g qd_K_transact_100 (k_K_perform w k.2.1 sg2 hc2 hm2 ho25 ha16 (by show pAt s < 32; omega)) qv_K_77 (by decide) rfl ⟨_, _, rfl⟩ rfl rfl (Nat.le_of_ble_eq_true rfl) ⟨rfl, rfl, by decide, by decide⟩ (fun v sg3 hv => ?_)
            obtain ⟨rfl, hm3, hf3⟩ := hv
            obtain ⟨hwa, hho⟩ := pPer_wa (cd := cd) (inp := num / 4) (cal := num % 4) (s := pWay s (pWa s ++ [pAt s])) (o := cd.2.1 (pAt s)) (a := cd.2.2 (pAt s)) h5
            refine ew_iinc g qd_K_transact_103 (by decide) rfl (ii_1 _) ?_
            refine ew_goto g qd_K_transact_106 (tgt := 32) (by decide) ?_
            refine ih ((pWa s).length + 1) (pStep cd (num / 4) (num % 4) s) sg3 (by omega) hm3 ?_ (hf2'.tr hf3.m) hho (fun _ => ?_) e
            · show xWay sg3 (pWa (pPer _ _ _ _ _ _))
              rw [hwa]
              exact xW_fr hw2 hf3
            · show (pWa (pPer _ _ _ _ _ _)).length = _
              rw [hwa]
              show (pWa s ++ [pAt s]).length = _
              simp
          · rw [if_pos hat] at e
            refine ew_aload_n g qd_K_transact_61 rfl ?_
            refine ew_iconst g qd_K_transact_62 ic_0 ?_
            refine ew_put g qd_K_transact_63 qf_K_35 (qp_K_ending _) (by decide) rfl rfl ?_
            refine ew_goto g qd_K_transact_66 (tgt := 103) (by decide) ?_
            refine ew_iinc g qd_K_transact_103 (by decide) rfl (ii_1 _) ?_
            refine ew_goto g qd_K_transact_106 (tgt := 32) (by decide) ?_
            refine ih (i + 1) (pEnd s 0) _ (by omega) (xM_f6 hm) (xW_fr hw (xFr_f (by decide) (by decide))) (hf.tr (xFr_f (by decide) (by decide)).m) (by show (0 : Nat) ≤ 5; decide) (fun q => absurd q (by show (0 : Nat) ≠ 5; decide)) ?_
            rw [pRun_stop (by show (0 : Nat) ≠ 5; decide)]
            exact e
  cases dead with
  | true =>
    refine ew_aload_n g qd_K_transact_0 rfl ?_
    refine ew_iload_n g qd_K_transact_1 rfl ?_
    refine ew_iload_n g qd_K_transact_2 rfl ?_
    refine ew_iload_n g qd_K_transact_3 rfl ?_
    refine en_top bI_t ?_
    refine en_if_eq g qd_K_transact_4 (tgt := 11) (by decide) (by omega) (fun h => ?_) (fun h => ?_)
    · exact absurd h (by decide)
    · refine ew_iconst g qd_K_transact_7 ic_0 ?_
      refine ew_goto g qd_K_transact_8 (tgt := 13) (by decide) ?_
      refine ew_callV g qd_K_transact_13 (k_K_begin w k.2.1 sg _ _ _) qv_K_60 (by decide) rfl ⟨_, _, rfl⟩ rfl rfl (Nat.le_of_ble_eq_true rfl) ⟨rfl, rfl, by decide, by decide⟩ (fun v sg1 hv => ?_)
      obtain ⟨rfl, rfl⟩ := hv
      refine ew_aload_n g qd_K_transact_16 rfl ?_
      refine ew_iload_n g qd_K_transact_17 rfl ?_
      refine en_top bI_t ?_
      refine en_if_eq g qd_K_transact_18 (tgt := 25) (by decide) (by omega) (fun h => ?_) (fun h => ?_)
      · exact absurd h (by decide)
      · refine ew_iconst g qd_K_transact_21 ic_4 ?_
        refine ew_goto g qd_K_transact_22 (tgt := 26) (by decide) ?_
        refine ew_put g qd_K_transact_26 qf_K_35 (qp_K_ending _) (by decide) rfl rfl ?_
        refine ew_iconst g qd_K_transact_29 ic_0 ?_
        refine ew_istore g qd_K_transact_30 (by decide) ?_
        obtain ⟨q1, q2, q3⟩ := xM_beg sg (num := num) (lim := 0) (how := 4) hn (by omega) hc
        exact hloop 41 0 (pBeg 0 c 4) _ rfl q1 q2 q3 (by show (4 : Nat) ≤ 5; decide) (fun _ => rfl) rfl
  | false =>
    refine ew_aload_n g qd_K_transact_0 rfl ?_
    refine ew_iload_n g qd_K_transact_1 rfl ?_
    refine ew_iload_n g qd_K_transact_2 rfl ?_
    refine ew_iload_n g qd_K_transact_3 rfl ?_
    refine en_top bI_f ?_
    refine en_if_eq g qd_K_transact_4 (tgt := 11) (by decide) (by omega) (fun h => ?_) (fun h => ?_)
    · refine ew_iload g qd_K_transact_11 rfl ?_
      refine ew_callV g qd_K_transact_13 (k_K_begin w k.2.1 sg _ _ _) qv_K_60 (by decide) rfl ⟨_, _, rfl⟩ rfl rfl (Nat.le_of_ble_eq_true rfl) ⟨rfl, rfl, by decide, by decide⟩ (fun v sg1 hv => ?_)
      obtain ⟨rfl, rfl⟩ := hv
      refine ew_aload_n g qd_K_transact_16 rfl ?_
      refine ew_iload_n g qd_K_transact_17 rfl ?_
      refine en_top bI_f ?_
      refine en_if_eq g qd_K_transact_18 (tgt := 25) (by decide) (by omega) (fun h => ?_) (fun h => ?_)
      · refine ew_iconst g qd_K_transact_25 ic_5 ?_
        refine ew_put g qd_K_transact_26 qf_K_35 (qp_K_ending _) (by decide) rfl rfl ?_
        refine ew_iconst g qd_K_transact_29 ic_0 ?_
        refine ew_istore g qd_K_transact_30 (by decide) ?_
        obtain ⟨q1, q2, q3⟩ := xM_beg sg (num := num) (lim := lim) (how := 5) hn hl hc
        exact hloop 41 0 (pBeg lim c 5) _ rfl q1 q2 q3 (by show (5 : Nat) ≤ 5; decide) (fun _ => rfl) rfl
      · exact absurd rfl h
    · exact absurd rfl h
end
section
/-! the ways: a list of (way, ending) without doubles -/
abbrev WKL : Type := List (List Nat × Nat)
def yE (sg : SG) (b j : Nat) (q : List Nat × Nat) : Prop := q.1.length ≤ 41 ∧ sg (b + 3) j = nI q.1.length ∧ sg (b + 4) j = shp q.1 ∧ sg (b + 5) j = nI q.2 ∧ q.2 ≤ 5 ∧ ∀ i, i < q.1.length → sg (b + 2) (j * 41 + i) = nI (q.1.getD i 0) ∧ q.1.getD i 0 < 32
def yW (sg : SG) (b : Nat) (ks : WKL) : Prop := ks.length ≤ 40 ∧ sg (b + 1) 4 = nI ks.length ∧ ks.Nodup ∧ ∀ (j : Nat) (q : List Nat × Nat), ks[j]? = some q → yE sg b j q
theorem getD_ext {a b : List Nat} (h : a.length = b.length) (e : ∀ i, i < a.length → a.getD i 0 = b.getD i 0) : a = b := by
  refine List.ext_getElem h (fun i h1 h2 => ?_)
  have := e i h1
  simpa [h1, h2] using this
theorem k_Y_isWayOf (w : WC) (l : Launch) (sg : SG) {b j e : Nat} {q : List Nat × Nat} {wl : List Nat} (hb : b = 10 ∨ b = 19) (hj : j < 40) (hq : yE sg b j q) (hw : xWay sg wl) (he : sg 1 6 = nI e) (h5 : e ≤ 5) : ew_M qS w l qy_Y_isWayOf qw_Y_isWayOf qr_Y_isWayOf [.inr (b + 1), .inr 1, .inl (nI j)] sg (fun v sg' => v = some (.inl (bI (decide (q = (wl, e))))) ∧ sg' = sg) := by
  obtain ⟨q1, q2, q3, q4, q5, q6⟩ := hq
  obtain ⟨w1, w2, w3, w4⟩ := hw
  refine ew_entry (ws' := qwg) (own := qR_Y) (cc := qc_Y_isWayOf) (nL := 5) (ret := some .boolean) qnk (by decide) rfl rfl (Nat.le_of_ble_eq_true rfl) ?_
  intro k g hp
  have hno : ¬ q = (wl, e) → ew_E qS w 5 k 39 [some (.inr (b + 1)), some (.inr 1), some (.inl (nI j)), none, none] [] sg := by
    intro hne
    refine ew_iconst g qd_Y_isWayOf_39 ic_0 ?_
    refine ew_zret g qd_Y_isWayOf_40 hp (by first | exact bI_nar _ | decide +kernel) ?_
    rw [decide_eq_false hne]
    exact ⟨rfl, rfl⟩
  refine ew_aload_n g qd_Y_isWayOf_0 rfl ?_
  refine ew_getR g qd_Y_isWayOf_1 qf_Y_18 (by first | decide | exact lyo0 hb | exact lyo1 hb | exact lyo2 hb | exact lyo3 hb | exact lyo4 hb | exact lyo5 hb | exact lyo6 hb | exact lyo7 hb | exact lyo8 hb) (by first | rfl | exact lyB hb | exact lyY hb | exact lyA2 hb | exact lyA3 hb | exact lyA4 hb | exact lyA5 hb | exact lyA6 hb | exact lyA7 hb | exact lyA8 hb) rfl ?_
  refine ew_iload_n g qd_Y_isWayOf_4 rfl ?_
  refine en_iald g qd_Y_isWayOf_5 (by first | decide | exact lyo0 hb | exact lyo1 hb | exact lyo2 hb | exact lyo3 hb | exact lyo4 hb | exact lyo5 hb | exact lyo6 hb | exact lyo7 hb | exact lyo8 hb) (by first | rfl | exact lyB hb | exact lyY hb | exact lyA2 hb | exact lyA3 hb | exact lyA4 hb | exact lyA5 hb | exact lyA6 hb | exact lyA7 hb | exact lyA8 hb) (by omega) (by omega) q3 ?_
  refine ew_aload_n g qd_Y_isWayOf_6 rfl ?_
  refine ew_get g qd_Y_isWayOf_7 qf_Y_40 (by first | decide | exact lyo0 hb | exact lyo1 hb | exact lyo2 hb | exact lyo3 hb | exact lyo4 hb | exact lyo5 hb | exact lyo6 hb | exact lyo7 hb | exact lyo8 hb) (by first | rfl | exact lyB hb | exact lyY hb | exact lyA2 hb | exact lyA3 hb | exact lyA4 hb | exact lyA5 hb | exact lyA6 hb | exact lyA7 hb | exact lyA8 hb) rfl ?_
  refine en_top w3 ?_
  refine ew_icmp_ne g qd_Y_isWayOf_10 (tgt := 39) (by decide) (fun h => ?_) (fun h => ?_)
  · exact hno (fun z => h (by rw [z]))
  · refine ew_aload_n g qd_Y_isWayOf_13 rfl ?_
    refine ew_getR g qd_Y_isWayOf_14 qf_Y_21 (by first | decide | exact lyo0 hb | exact lyo1 hb | exact lyo2 hb | exact lyo3 hb | exact lyo4 hb | exact lyo5 hb | exact lyo6 hb | exact lyo7 hb | exact lyo8 hb) (by first | rfl | exact lyB hb | exact lyY hb | exact lyA2 hb | exact lyA3 hb | exact lyA4 hb | exact lyA5 hb | exact lyA6 hb | exact lyA7 hb | exact lyA8 hb) rfl ?_
    refine ew_iload_n g qd_Y_isWayOf_17 rfl ?_
    refine en_iald g qd_Y_isWayOf_18 (by first | decide | exact lyo0 hb | exact lyo1 hb | exact lyo2 hb | exact lyo3 hb | exact lyo4 hb | exact lyo5 hb | exact lyo6 hb | exact lyo7 hb | exact lyo8 hb) (by first | rfl | exact lyB hb | exact lyY hb | exact lyA2 hb | exact lyA3 hb | exact lyA4 hb | exact lyA5 hb | exact lyA6 hb | exact lyA7 hb | exact lyA8 hb) (by omega) (by omega) q4 ?_
    refine ew_aload_n g qd_Y_isWayOf_19 rfl ?_
    refine ew_get g qd_Y_isWayOf_20 qf_Y_45 (by first | decide | exact lyo0 hb | exact lyo1 hb | exact lyo2 hb | exact lyo3 hb | exact lyo4 hb | exact lyo5 hb | exact lyo6 hb | exact lyo7 hb | exact lyo8 hb) (by first | rfl | exact lyB hb | exact lyY hb | exact lyA2 hb | exact lyA3 hb | exact lyA4 hb | exact lyA5 hb | exact lyA6 hb | exact lyA7 hb | exact lyA8 hb) rfl ?_
    refine en_top he ?_
    refine en_ne g qd_Y_isWayOf_23 (tgt := 39) (by decide) (by omega) (by omega) (fun h2 => ?_) (fun h2 => ?_)
    · exact hno (fun z => h2 (by rw [z]))
    · refine ew_aload_n g qd_Y_isWayOf_26 rfl ?_
      refine ew_getR g qd_Y_isWayOf_27 qf_Y_15 (by first | decide | exact lyo0 hb | exact lyo1 hb | exact lyo2 hb | exact lyo3 hb | exact lyo4 hb | exact lyo5 hb | exact lyo6 hb | exact lyo7 hb | exact lyo8 hb) (by first | rfl | exact lyB hb | exact lyY hb | exact lyA2 hb | exact lyA3 hb | exact lyA4 hb | exact lyA5 hb | exact lyA6 hb | exact lyA7 hb | exact lyA8 hb) rfl ?_
      refine ew_iload_n g qd_Y_isWayOf_30 rfl ?_
      refine en_iald g qd_Y_isWayOf_31 (by first | decide | exact lyo0 hb | exact lyo1 hb | exact lyo2 hb | exact lyo3 hb | exact lyo4 hb | exact lyo5 hb | exact lyo6 hb | exact lyo7 hb | exact lyo8 hb) (by first | rfl | exact lyB hb | exact lyY hb | exact lyA2 hb | exact lyA3 hb | exact lyA4 hb | exact lyA5 hb | exact lyA6 hb | exact lyA7 hb | exact lyA8 hb) (by omega) (by omega) q2 ?_
      refine ew_aload_n g qd_Y_isWayOf_32 rfl ?_
      refine ew_get g qd_Y_isWayOf_33 qf_Y_48 (by first | decide | exact lyo0 hb | exact lyo1 hb | exact lyo2 hb | exact lyo3 hb | exact lyo4 hb | exact lyo5 hb | exact lyo6 hb | exact lyo7 hb | exact lyo8 hb) (by first | rfl | exact lyB hb | exact lyY hb | exact lyA2 hb | exact lyA3 hb | exact lyA4 hb | exact lyA5 hb | exact lyA6 hb | exact lyA7 hb | exact lyA8 hb) rfl ?_
      refine en_top w2 ?_
      refine en_eq g qd_Y_isWayOf_36 (tgt := 41) (by decide) (by omega) (by omega) (fun h3 => ?_) (fun h3 => ?_)
      · have key : ∀ (d i : Nat), i + d = wl.length → (∀ i', i' < i → q.1.getD i' 0 = wl.getD i' 0) → ew_E qS w 5 k 49 [some (.inr (b + 1)), some (.inr 1), some (.inl (nI j)), some (.inl (nI (j * 41))), some (.inl (nI i))] [] sg := by
          intro d
          induction d with
          | zero =>
            intro i hi hinv
            refine ew_iload g qd_Y_isWayOf_49 rfl ?_
            refine ew_aload_n g qd_Y_isWayOf_51 rfl ?_
            refine ew_get g qd_Y_isWayOf_52 qf_Y_48 (by first | decide | exact lyo0 hb | exact lyo1 hb | exact lyo2 hb | exact lyo3 hb | exact lyo4 hb | exact lyo5 hb | exact lyo6 hb | exact lyo7 hb | exact lyo8 hb) (by first | rfl | exact lyB hb | exact lyY hb | exact lyA2 hb | exact lyA3 hb | exact lyA4 hb | exact lyA5 hb | exact lyA6 hb | exact lyA7 hb | exact lyA8 hb) rfl ?_
            refine en_top w2 ?_
            refine en_ge g qd_Y_isWayOf_55 (tgt := 85) (by decide) (by omega) (by omega) (fun h4 => ?_) (fun h4 => ?_)
            · refine ew_iconst g qd_Y_isWayOf_85 ic_1 ?_
              refine ew_zret g qd_Y_isWayOf_86 hp (by first | exact bI_nar _ | decide +kernel) ?_
              have e1 : q.1 = wl := getD_ext h3 (fun i' hi' => hinv i' (by omega))
              have e2 : q = (wl, e) := Prod.ext e1 h2
              rw [decide_eq_true e2]
              exact ⟨rfl, rfl⟩
            · omega
          | succ d ih =>
            intro i hi hinv
            have e1 := q6 i (by omega)
            have e2 := w4 i (by omega)
            refine ew_iload g qd_Y_isWayOf_49 rfl ?_
            refine ew_aload_n g qd_Y_isWayOf_51 rfl ?_
            refine ew_get g qd_Y_isWayOf_52 qf_Y_48 (by first | decide | exact lyo0 hb | exact lyo1 hb | exact lyo2 hb | exact lyo3 hb | exact lyo4 hb | exact lyo5 hb | exact lyo6 hb | exact lyo7 hb | exact lyo8 hb) (by first | rfl | exact lyB hb | exact lyY hb | exact lyA2 hb | exact lyA3 hb | exact lyA4 hb | exact lyA5 hb | exact lyA6 hb | exact lyA7 hb | exact lyA8 hb) rfl ?_
            refine en_top w2 ?_
            refine en_ge g qd_Y_isWayOf_55 (tgt := 85) (by decide) (by omega) (by omega) (fun h4 => ?_) (fun h4 => ?_)
            · omega
            · refine ew_aload_n g qd_Y_isWayOf_58 rfl ?_
              refine ew_getR g qd_Y_isWayOf_59 qf_Y_9 (by first | decide | exact lyo0 hb | exact lyo1 hb | exact lyo2 hb | exact lyo3 hb | exact lyo4 hb | exact lyo5 hb | exact lyo6 hb | exact lyo7 hb | exact lyo8 hb) (by first | rfl | exact lyB hb | exact lyY hb | exact lyA2 hb | exact lyA3 hb | exact lyA4 hb | exact lyA5 hb | exact lyA6 hb | exact lyA7 hb | exact lyA8 hb) rfl ?_
              refine ew_iload_n g qd_Y_isWayOf_62 rfl ?_
              refine ew_iload g qd_Y_isWayOf_63 rfl ?_
              refine ew_iadd g qd_Y_isWayOf_65 ?_
              refine en_top (nI_add _ _) ?_
              refine en_iald g qd_Y_isWayOf_66 (by first | decide | exact lyo0 hb | exact lyo1 hb | exact lyo2 hb | exact lyo3 hb | exact lyo4 hb | exact lyo5 hb | exact lyo6 hb | exact lyo7 hb | exact lyo8 hb) (by first | rfl | exact lyB hb | exact lyY hb | exact lyA2 hb | exact lyA3 hb | exact lyA4 hb | exact lyA5 hb | exact lyA6 hb | exact lyA7 hb | exact lyA8 hb) (by omega) (by omega) e1.1 ?_
              refine ew_aload_n g qd_Y_isWayOf_67 rfl ?_
              refine ew_getR g qd_Y_isWayOf_68 qf_Y_51 (by first | decide | exact lyo0 hb | exact lyo1 hb | exact lyo2 hb | exact lyo3 hb | exact lyo4 hb | exact lyo5 hb | exact lyo6 hb | exact lyo7 hb | exact lyo8 hb) (by first | rfl | exact lyB hb | exact lyY hb | exact lyA2 hb | exact lyA3 hb | exact lyA4 hb | exact lyA5 hb | exact lyA6 hb | exact lyA7 hb | exact lyA8 hb) rfl ?_
              refine ew_iload g qd_Y_isWayOf_71 rfl ?_
              refine en_iald g qd_Y_isWayOf_73 (by first | decide | exact lyo0 hb | exact lyo1 hb | exact lyo2 hb | exact lyo3 hb | exact lyo4 hb | exact lyo5 hb | exact lyo6 hb | exact lyo7 hb | exact lyo8 hb) (by first | rfl | exact lyB hb | exact lyY hb | exact lyA2 hb | exact lyA3 hb | exact lyA4 hb | exact lyA5 hb | exact lyA6 hb | exact lyA7 hb | exact lyA8 hb) (by omega) (by omega) e2.1 ?_
              refine en_eq g qd_Y_isWayOf_74 (tgt := 79) (by decide) (by omega) (by omega) (fun h5 => ?_) (fun h5 => ?_)
              · refine ew_iinc g qd_Y_isWayOf_79 (by decide) rfl (ii_1 _) ?_
                refine ew_goto g qd_Y_isWayOf_82 (tgt := 49) (by decide) ?_
                refine ih (i + 1) (by omega) (fun i' hi' => ?_)
                by_cases ee : i' = i
                · rw [ee]; exact h5
                · exact hinv i' (by omega)
              · refine ew_iconst g qd_Y_isWayOf_77 ic_0 ?_
                refine ew_zret g qd_Y_isWayOf_78 hp (by first | exact bI_nar _ | decide +kernel) ?_
                have hne : ¬ q = (wl, e) := fun z => h5 (by rw [z])
                rw [decide_eq_false hne]
                exact ⟨rfl, rfl⟩
        refine ew_iload_n g qd_Y_isWayOf_41 rfl ?_
        refine ew_bipush g qd_Y_isWayOf_42 bp_41 ?_
        refine ew_imul g qd_Y_isWayOf_44 ?_
        refine en_top (pk_mul _ _) ?_
        refine ew_istore_n g qd_Y_isWayOf_45 (by decide) ?_
        refine ew_iconst g qd_Y_isWayOf_46 ic_0 ?_
        refine ew_istore g qd_Y_isWayOf_47 (by decide) ?_
        exact key wl.length 0 (by omega) (fun i' hi' => absurd hi' (Nat.not_lt_zero i'))
      · exact hno (fun z => h3 (by rw [z]))
/-- the steps of a way being kept -/
def kpS (sg : SG) (o f : Nat) (wl : List Nat) (n : Nat) : SG := fun q => if q = o then (fun p => if f ≤ p ∧ p < f + n then nI (wl.getD (p - f) 0) else sg o p) else sg q
theorem kpS_0 (sg : SG) (o f : Nat) (wl : List Nat) : kpS sg o f wl 0 = sg := by
  funext q p
  unfold kpS
  by_cases h : q = o
  · subst h
    simp only [if_true]
    rw [if_neg (by omega)]
  · simp [h]
theorem kpS_s (sg : SG) (o f : Nat) (wl : List Nat) (n : Nat) : sup (kpS sg o f wl n) o (f + n) (nI (wl.getD n 0)) = kpS sg o f wl (n + 1) := by
  funext q p
  unfold sup kpS upd
  by_cases h : q = o
  · subst h
    simp only [if_true]
    by_cases h1 : p = f + n
    · subst h1
      rw [if_pos rfl, if_pos (by omega), Nat.add_sub_cancel_left]
    · rw [if_neg h1]
      by_cases h2 : f ≤ p ∧ p < f + n
      · rw [if_pos h2, if_pos (by omega)]
      · rw [if_neg h2, if_neg (by omega)]
  · simp [h]
theorem kpS_n {sg : SG} {o f : Nat} {wl : List Nat} {n q : Nat} (h : q ≠ o) : kpS sg o f wl n q = sg q := if_neg h
theorem kpS_at {sg : SG} {o f : Nat} {wl : List Nat} {n i : Nat} (h : i < n) : kpS sg o f wl n o (f + i) = nI (wl.getD i 0) := by
  unfold kpS
  rw [if_pos rfl, if_pos (by omega), Nat.add_sub_cancel_left]
theorem kpS_lt {sg : SG} {o f : Nat} {wl : List Nat} {n p : Nat} (h : p < f) : kpS sg o f wl n o p = sg o p := by
  unfold kpS
  rw [if_pos rfl, if_neg (by omega)]
def keF (sg : SG) (b j e : Nat) (wl : List Nat) : SG := sup (sup (sup sg (b + 4) j (shp wl)) (b + 5) j (nI e)) (b + 3) j (nI wl.length)
theorem k_Y_keep (w : WC) (l : Launch) (sg : SG) {b j e : Nat} {wl : List Nat} (hb : b = 10 ∨ b = 19) (hj : j < 40) (hw : xWay sg wl) (he : sg 1 6 = nI e) : ew_M qS w l qy_Y_keep qw_Y_keep qr_Y_keep [.inr (b + 1), .inr 1, .inl (nI j)] sg (fun v sg' => v = none ∧ sg' = kpS (keF sg b j e wl) (b + 2) (j * 41) wl wl.length) := by
  obtain ⟨w1, w2, w3, w4⟩ := hw
  have n1 : 1 ≠ b + 2 ∧ 1 ≠ b + 3 ∧ 1 ≠ b + 4 ∧ 1 ≠ b + 5 ∧ 7 ≠ b + 2 ∧ 7 ≠ b + 3 ∧ 7 ≠ b + 4 ∧ 7 ≠ b + 5 := by omega
  obtain ⟨n12, n13, n14, n15, n72, n73, n74, n75⟩ := n1
  have f1 : keF sg b j e wl 1 = sg 1 := by unfold keF; rw [sup_n n13, sup_n n15, sup_n n14]
  have f7 : keF sg b j e wl 7 = sg 7 := by unfold keF; rw [sup_n n73, sup_n n75, sup_n n74]
  refine ew_entry (ws' := qwg) (own := qR_Y) (cc := qc_Y_keep) (nL := 5) (ret := none) qnk (by decide) rfl rfl (Nat.le_of_ble_eq_true rfl) ?_
  intro k g hp
  refine ew_aload_n g qd_Y_keep_0 rfl ?_
  refine ew_getR g qd_Y_keep_1 qf_Y_18 (by first | decide | exact lyo0 hb | exact lyo1 hb | exact lyo2 hb | exact lyo3 hb | exact lyo4 hb | exact lyo5 hb | exact lyo6 hb | exact lyo7 hb | exact lyo8 hb) (by first | rfl | exact lyB hb | exact lyY hb | exact lyA2 hb | exact lyA3 hb | exact lyA4 hb | exact lyA5 hb | exact lyA6 hb | exact lyA7 hb | exact lyA8 hb) rfl ?_
  refine ew_iload_n g qd_Y_keep_4 rfl ?_
  refine ew_aload_n g qd_Y_keep_5 rfl ?_
  refine ew_get g qd_Y_keep_6 qf_Y_40 (by first | decide | exact lyo0 hb | exact lyo1 hb | exact lyo2 hb | exact lyo3 hb | exact lyo4 hb | exact lyo5 hb | exact lyo6 hb | exact lyo7 hb | exact lyo8 hb) (by first | rfl | exact lyB hb | exact lyY hb | exact lyA2 hb | exact lyA3 hb | exact lyA4 hb | exact lyA5 hb | exact lyA6 hb | exact lyA7 hb | exact lyA8 hb) rfl ?_
  refine en_top w3 ?_
  refine en_iast g qd_Y_keep_9 (by first | decide | exact lyo0 hb | exact lyo1 hb | exact lyo2 hb | exact lyo3 hb | exact lyo4 hb | exact lyo5 hb | exact lyo6 hb | exact lyo7 hb | exact lyo8 hb) (by first | rfl | exact lyB hb | exact lyY hb | exact lyA2 hb | exact lyA3 hb | exact lyA4 hb | exact lyA5 hb | exact lyA6 hb | exact lyA7 hb | exact lyA8 hb) (by omega) (by omega) ?_
  refine ew_aload_n g qd_Y_keep_10 rfl ?_
  refine ew_getR g qd_Y_keep_11 qf_Y_21 (by first | decide | exact lyo0 hb | exact lyo1 hb | exact lyo2 hb | exact lyo3 hb | exact lyo4 hb | exact lyo5 hb | exact lyo6 hb | exact lyo7 hb | exact lyo8 hb) (by first | rfl | exact lyB hb | exact lyY hb | exact lyA2 hb | exact lyA3 hb | exact lyA4 hb | exact lyA5 hb | exact lyA6 hb | exact lyA7 hb | exact lyA8 hb) rfl ?_
  refine ew_iload_n g qd_Y_keep_14 rfl ?_
  refine ew_aload_n g qd_Y_keep_15 rfl ?_
  refine ew_get g qd_Y_keep_16 qf_Y_45 (by first | decide | exact lyo0 hb | exact lyo1 hb | exact lyo2 hb | exact lyo3 hb | exact lyo4 hb | exact lyo5 hb | exact lyo6 hb | exact lyo7 hb | exact lyo8 hb) (by first | rfl | exact lyB hb | exact lyY hb | exact lyA2 hb | exact lyA3 hb | exact lyA4 hb | exact lyA5 hb | exact lyA6 hb | exact lyA7 hb | exact lyA8 hb) rfl ?_
  refine en_top (show sup sg (b + 4) j (shp wl) 1 6 = nI e by rw [sup_n n14]; exact he) ?_
  refine en_iast g qd_Y_keep_19 (by first | decide | exact lyo0 hb | exact lyo1 hb | exact lyo2 hb | exact lyo3 hb | exact lyo4 hb | exact lyo5 hb | exact lyo6 hb | exact lyo7 hb | exact lyo8 hb) (by first | rfl | exact lyB hb | exact lyY hb | exact lyA2 hb | exact lyA3 hb | exact lyA4 hb | exact lyA5 hb | exact lyA6 hb | exact lyA7 hb | exact lyA8 hb) (by omega) (by omega) ?_
  refine ew_aload_n g qd_Y_keep_20 rfl ?_
  refine ew_getR g qd_Y_keep_21 qf_Y_15 (by first | decide | exact lyo0 hb | exact lyo1 hb | exact lyo2 hb | exact lyo3 hb | exact lyo4 hb | exact lyo5 hb | exact lyo6 hb | exact lyo7 hb | exact lyo8 hb) (by first | rfl | exact lyB hb | exact lyY hb | exact lyA2 hb | exact lyA3 hb | exact lyA4 hb | exact lyA5 hb | exact lyA6 hb | exact lyA7 hb | exact lyA8 hb) rfl ?_
  refine ew_iload_n g qd_Y_keep_24 rfl ?_
  refine ew_aload_n g qd_Y_keep_25 rfl ?_
  refine ew_get g qd_Y_keep_26 qf_Y_48 (by first | decide | exact lyo0 hb | exact lyo1 hb | exact lyo2 hb | exact lyo3 hb | exact lyo4 hb | exact lyo5 hb | exact lyo6 hb | exact lyo7 hb | exact lyo8 hb) (by first | rfl | exact lyB hb | exact lyY hb | exact lyA2 hb | exact lyA3 hb | exact lyA4 hb | exact lyA5 hb | exact lyA6 hb | exact lyA7 hb | exact lyA8 hb) rfl ?_
  refine en_top (show sup (sup sg (b + 4) j (shp wl)) (b + 5) j (nI e) 1 11 = nI wl.length by rw [sup_n n15, sup_n n14]; exact w2) ?_
  refine en_iast g qd_Y_keep_29 (by first | decide | exact lyo0 hb | exact lyo1 hb | exact lyo2 hb | exact lyo3 hb | exact lyo4 hb | exact lyo5 hb | exact lyo6 hb | exact lyo7 hb | exact lyo8 hb) (by first | rfl | exact lyB hb | exact lyY hb | exact lyA2 hb | exact lyA3 hb | exact lyA4 hb | exact lyA5 hb | exact lyA6 hb | exact lyA7 hb | exact lyA8 hb) (by omega) (by omega) ?_
  refine ew_iload_n g qd_Y_keep_30 rfl ?_
  refine ew_bipush g qd_Y_keep_31 bp_41 ?_
  refine ew_imul g qd_Y_keep_33 ?_
  refine en_top (pk_mul _ _) ?_
  refine ew_istore_n g qd_Y_keep_34 (by decide) ?_
  refine ew_iconst g qd_Y_keep_35 ic_0 ?_
  refine ew_istore g qd_Y_keep_36 (by decide) ?_
  have key : ∀ (d i : Nat), i + d = wl.length → ew_E qS w 5 k 38 [some (.inr (b + 1)), some (.inr 1), some (.inl (nI j)), some (.inl (nI (j * 41))), some (.inl (nI i))] [] (kpS (keF sg b j e wl) (b + 2) (j * 41) wl i) := by
    intro d
    induction d with
    | zero =>
      intro i hi
      refine ew_iload g qd_Y_keep_38 rfl ?_
      refine ew_aload_n g qd_Y_keep_40 rfl ?_
      refine ew_get g qd_Y_keep_41 qf_Y_48 (by first | decide | exact lyo0 hb | exact lyo1 hb | exact lyo2 hb | exact lyo3 hb | exact lyo4 hb | exact lyo5 hb | exact lyo6 hb | exact lyo7 hb | exact lyo8 hb) (by first | rfl | exact lyB hb | exact lyY hb | exact lyA2 hb | exact lyA3 hb | exact lyA4 hb | exact lyA5 hb | exact lyA6 hb | exact lyA7 hb | exact lyA8 hb) rfl ?_
      refine en_top (show kpS (keF sg b j e wl) (b + 2) (j * 41) wl i 1 11 = nI wl.length by rw [kpS_n n12, f1]; exact w2) ?_
      refine en_ge g qd_Y_keep_44 (tgt := 69) (by decide) (by omega) (by omega) (fun h => ?_) (fun h => ?_)
      · refine ew_vret g qd_Y_keep_69 hp ?_
        have ee : i = wl.length := by omega
        rw [ee]
        exact ⟨rfl, rfl⟩
      · omega
    | succ d ih =>
      intro i hi
      refine ew_iload g qd_Y_keep_38 rfl ?_
      refine ew_aload_n g qd_Y_keep_40 rfl ?_
      refine ew_get g qd_Y_keep_41 qf_Y_48 (by first | decide | exact lyo0 hb | exact lyo1 hb | exact lyo2 hb | exact lyo3 hb | exact lyo4 hb | exact lyo5 hb | exact lyo6 hb | exact lyo7 hb | exact lyo8 hb) (by first | rfl | exact lyB hb | exact lyY hb | exact lyA2 hb | exact lyA3 hb | exact lyA4 hb | exact lyA5 hb | exact lyA6 hb | exact lyA7 hb | exact lyA8 hb) rfl ?_
      refine en_top (show kpS (keF sg b j e wl) (b + 2) (j * 41) wl i 1 11 = nI wl.length by rw [kpS_n n12, f1]; exact w2) ?_
      refine en_ge g qd_Y_keep_44 (tgt := 69) (by decide) (by omega) (by omega) (fun h => ?_) (fun h => ?_)
      · omega
      · refine ew_aload_n g qd_Y_keep_47 rfl ?_
        refine ew_getR g qd_Y_keep_48 qf_Y_9 (by first | decide | exact lyo0 hb | exact lyo1 hb | exact lyo2 hb | exact lyo3 hb | exact lyo4 hb | exact lyo5 hb | exact lyo6 hb | exact lyo7 hb | exact lyo8 hb) (by first | rfl | exact lyB hb | exact lyY hb | exact lyA2 hb | exact lyA3 hb | exact lyA4 hb | exact lyA5 hb | exact lyA6 hb | exact lyA7 hb | exact lyA8 hb) rfl ?_
        refine ew_iload_n g qd_Y_keep_51 rfl ?_
        refine ew_iload g qd_Y_keep_52 rfl ?_
        refine ew_iadd g qd_Y_keep_54 ?_
        refine en_top (nI_add _ _) ?_
        refine ew_aload_n g qd_Y_keep_55 rfl ?_
        refine ew_getR g qd_Y_keep_56 qf_Y_51 (by first | decide | exact lyo0 hb | exact lyo1 hb | exact lyo2 hb | exact lyo3 hb | exact lyo4 hb | exact lyo5 hb | exact lyo6 hb | exact lyo7 hb | exact lyo8 hb) (by first | rfl | exact lyB hb | exact lyY hb | exact lyA2 hb | exact lyA3 hb | exact lyA4 hb | exact lyA5 hb | exact lyA6 hb | exact lyA7 hb | exact lyA8 hb) rfl ?_
        refine ew_iload g qd_Y_keep_59 rfl ?_
        refine en_iald g qd_Y_keep_61 (by first | decide | exact lyo0 hb | exact lyo1 hb | exact lyo2 hb | exact lyo3 hb | exact lyo4 hb | exact lyo5 hb | exact lyo6 hb | exact lyo7 hb | exact lyo8 hb) (by first | rfl | exact lyB hb | exact lyY hb | exact lyA2 hb | exact lyA3 hb | exact lyA4 hb | exact lyA5 hb | exact lyA6 hb | exact lyA7 hb | exact lyA8 hb) (by omega) (by omega) (show kpS (keF sg b j e wl) (b + 2) (j * 41) wl i 7 i = nI (wl.getD i 0) by rw [kpS_n n72, f7]; exact (w4 i h).1) ?_
        refine en_iast g qd_Y_keep_62 (by first | decide | exact lyo0 hb | exact lyo1 hb | exact lyo2 hb | exact lyo3 hb | exact lyo4 hb | exact lyo5 hb | exact lyo6 hb | exact lyo7 hb | exact lyo8 hb) (by first | rfl | exact lyB hb | exact lyY hb | exact lyA2 hb | exact lyA3 hb | exact lyA4 hb | exact lyA5 hb | exact lyA6 hb | exact lyA7 hb | exact lyA8 hb) (by omega) (by omega) ?_
        refine ew_iinc g qd_Y_keep_63 (by decide) rfl (ii_1 _) ?_
        refine ew_goto g qd_Y_keep_66 (tgt := 38) (by decide) ?_
        exact en_sg (kpS_s _ _ _ _ _) (ih (i + 1) (by omega))
  exact en_sg (kpS_0 _ _ _ _).symm (key wl.length 0 (by omega))
def yFr (b : Nat) (sg sg' : SG) : Prop := ∀ o, o < b + 1 ∨ b + 5 < o → sg' o = sg o
theorem yE_fr {sg sg' : SG} {b j : Nat} {q : List Nat × Nat} (h : yE sg b j q) (h2 : ∀ p, p < j * 41 + 41 → sg' (b + 2) p = sg (b + 2) p) (h3 : sg' (b + 3) j = sg (b + 3) j) (h4 : sg' (b + 4) j = sg (b + 4) j) (h5 : sg' (b + 5) j = sg (b + 5) j) : yE sg' b j q := by
  obtain ⟨q1, q2, q3, q4, q5, q6⟩ := h
  unfold yE
  rw [h3, h4, h5]
  refine ⟨q1, q2, q3, q4, q5, fun i hi => ?_⟩
  rw [h2 _ (by omega)]
  exact q6 i hi
theorem k_Y_numberOf (w : WC) (l : Launch) (sg : SG) {b e : Nat} {ks : WKL} {wl : List Nat} (hb : b = 10 ∨ b = 19) (hk : yW sg b ks) (hw : xWay sg wl) (he : sg 1 6 = nI e) (h5 : e ≤ 5) : ew_M qS w l qy_Y_numberOf qw_Y_numberOf qr_Y_numberOf [.inr (b + 1), .inr 1] sg (fun v sg' => (∃ j, ks[j]? = some (wl, e) ∧ v = some (.inl (nI j)) ∧ sg' = sg) ∨ ((wl, e) ∉ ks ∧ ks.length < 40 ∧ v = some (.inl (nI ks.length)) ∧ yW sg' b (ks ++ [(wl, e)]) ∧ yFr b sg sg') ∨ ((wl, e) ∉ ks ∧ ks.length = 40 ∧ v = some (.inl (-1)) ∧ sg' = sg)) := by
  obtain ⟨k1, k2, k3, k4⟩ := id hk
  refine ew_entry (ws' := qwg) (own := qR_Y) (cc := qc_Y_numberOf) (nL := 3) (ret := some .int) qnk (by decide) rfl rfl (Nat.le_of_ble_eq_true rfl) ?_
  intro k g hp
  have hend : (wl, e) ∉ ks → ∀ x, ew_E qS w 3 k 27 [some (.inr (b + 1)), some (.inr 1), x] [] sg := by
    intro hni x
    refine ew_aload_n g qd_Y_numberOf_27 rfl ?_
    refine ew_get g qd_Y_numberOf_28 qf_Y_24 (by first | decide | exact lyo0 hb | exact lyo1 hb | exact lyo2 hb | exact lyo3 hb | exact lyo4 hb | exact lyo5 hb | exact lyo6 hb | exact lyo7 hb | exact lyo8 hb) (by first | rfl | exact lyB hb | exact lyY hb | exact lyA2 hb | exact lyA3 hb | exact lyA4 hb | exact lyA5 hb | exact lyA6 hb | exact lyA7 hb | exact lyA8 hb) rfl ?_
    refine en_top k2 ?_
    refine ew_bipush g qd_Y_numberOf_31 bp_40 ?_
    refine en_lt g qd_Y_numberOf_33 (tgt := 38) (by decide) (by omega) (by omega) (fun h => ?_) (fun h => ?_)
    · refine ew_aload_n g qd_Y_numberOf_38 rfl ?_
      refine ew_aload_n g qd_Y_numberOf_39 rfl ?_
      refine ew_aload_n g qd_Y_numberOf_40 rfl ?_
      refine ew_get g qd_Y_numberOf_41 qf_Y_24 (by first | decide | exact lyo0 hb | exact lyo1 hb | exact lyo2 hb | exact lyo3 hb | exact lyo4 hb | exact lyo5 hb | exact lyo6 hb | exact lyo7 hb | exact lyo8 hb) (by first | rfl | exact lyB hb | exact lyY hb | exact lyA2 hb | exact lyA3 hb | exact lyA4 hb | exact lyA5 hb | exact lyA6 hb | exact lyA7 hb | exact lyA8 hb) rfl ?_
      refine en_top k2 ?_
      refine ew_callV g qd_Y_numberOf_44 (k_Y_keep w k.2.1 sg hb h hw he) qv_Y_32 (by first | decide | exact lyo0 hb | exact lyo1 hb | exact lyo2 hb | exact lyo3 hb | exact lyo4 hb | exact lyo5 hb | exact lyo6 hb | exact lyo7 hb | exact lyo8 hb) (by first | rfl | exact lyB hb | exact lyY hb | exact lyA2 hb | exact lyA3 hb | exact lyA4 hb | exact lyA5 hb | exact lyA6 hb | exact lyA7 hb | exact lyA8 hb) ⟨_, _, rfl⟩ rfl rfl (Nat.le_of_ble_eq_true rfl) ⟨rfl, rfl, by decide, by decide⟩ (fun v sg1 hv  => ?_)
      obtain ⟨rfl, hv⟩ := hv
      have fo : ∀ q, q < b + 2 ∨ b + 5 < q → sg1 q = sg q := by
        intro q hq
        rw [hv, kpS_n (by omega)]
        unfold keF
        rw [sup_n (by omega), sup_n (by omega), sup_n (by omega)]
      have fc : sg1 (b + 1) 4 = nI ks.length := by rw [fo _ (by omega)]; exact k2
      refine ew_aload_n g qd_Y_numberOf_47 rfl ?_
      refine ew_dup g qd_Y_numberOf_48 ?_
      refine ew_get g qd_Y_numberOf_49 qf_Y_24 (by first | decide | exact lyo0 hb | exact lyo1 hb | exact lyo2 hb | exact lyo3 hb | exact lyo4 hb | exact lyo5 hb | exact lyo6 hb | exact lyo7 hb | exact lyo8 hb) (by first | rfl | exact lyB hb | exact lyY hb | exact lyA2 hb | exact lyA3 hb | exact lyA4 hb | exact lyA5 hb | exact lyA6 hb | exact lyA7 hb | exact lyA8 hb) rfl ?_
      refine en_top fc ?_
      refine ew_iconst g qd_Y_numberOf_52 ic_1 ?_
      refine ew_iadd g qd_Y_numberOf_53 ?_
      refine en_top (nI_add _ _) ?_
      refine ew_put g qd_Y_numberOf_54 qf_Y_24 (qp_Y_count _) (by first | decide | exact lyo0 hb | exact lyo1 hb | exact lyo2 hb | exact lyo3 hb | exact lyo4 hb | exact lyo5 hb | exact lyo6 hb | exact lyo7 hb | exact lyo8 hb) (by first | rfl | exact lyB hb | exact lyY hb | exact lyA2 hb | exact lyA3 hb | exact lyA4 hb | exact lyA5 hb | exact lyA6 hb | exact lyA7 hb | exact lyA8 hb) rfl ?_
      refine ew_aload_n g qd_Y_numberOf_57 rfl ?_
      refine ew_get g qd_Y_numberOf_58 qf_Y_24 (by first | decide | exact lyo0 hb | exact lyo1 hb | exact lyo2 hb | exact lyo3 hb | exact lyo4 hb | exact lyo5 hb | exact lyo6 hb | exact lyo7 hb | exact lyo8 hb) (by first | rfl | exact lyB hb | exact lyY hb | exact lyA2 hb | exact lyA3 hb | exact lyA4 hb | exact lyA5 hb | exact lyA6 hb | exact lyA7 hb | exact lyA8 hb) rfl ?_
      refine en_top (show sup sg1 (b + 1) 4 (nI (ks.length + 1)) (b + 1) 4 = nI (ks.length + 1) by rw [sup_s, pk_us]) ?_
      refine ew_iconst g qd_Y_numberOf_61 ic_1 ?_
      refine ew_isub g qd_Y_numberOf_62 ?_
      refine en_top (pk_sub (by omega)) ?_
      refine ew_iret g qd_Y_numberOf_63 hp ?_
      refine Or.inr (Or.inl ⟨hni, h, rfl, ⟨?_, ?_, ?_, ?_⟩, ?_⟩)
      · simp; omega
      · rw [sup_s, pk_us]; simp
      · exact List.nodup_append.mpr ⟨k3, by simp, fun x hx y hy => by simp at hy; subst hy; exact fun z => hni (z ▸ hx)⟩
      · intro j q hq
        have hne : ∀ r, r ≠ b + 1 → sup sg1 (b + 1) 4 (nI (ks.length + 1)) r = sg1 r := fun r hr => sup_n hr
        by_cases hj : j < ks.length
        · rw [List.getElem?_append_left hj] at hq
          refine yE_fr (k4 j q hq) (fun p hp => ?_) ?_ ?_ ?_
          · rw [hne _ (by omega), hv, kpS_lt (by have : j * 41 + 41 ≤ ks.length * 41 := by omega
                                                 omega)]
            unfold keF
            rw [sup_n (by omega), sup_n (by omega), sup_n (by omega)]
          · rw [hne _ (by omega), hv, kpS_n (by omega)]
            unfold keF
            rw [sup_s, pk_un (by omega), sup_n (by omega), sup_n (by omega)]
          · rw [hne _ (by omega), hv, kpS_n (by omega)]
            unfold keF
            rw [sup_n (by omega), sup_n (by omega), sup_s, pk_un (by omega)]
          · rw [hne _ (by omega), hv, kpS_n (by omega)]
            unfold keF
            rw [sup_n (by omega), sup_s, pk_un (by omega), sup_n (by omega)]
        · have hjl : j = ks.length := by
            have := (List.getElem?_eq_some_iff.mp hq).1
            simp at this
            omega
          subst hjl
          rw [List.getElem?_append_right (Nat.le_refl _), Nat.sub_self] at hq
          cases hq
          obtain ⟨w1, w2, w3, w4⟩ := hw
          refine ⟨w1, ?_, ?_, ?_, h5, fun i hi => ⟨?_, (w4 i hi).2⟩⟩
          · rw [hne _ (by omega), hv, kpS_n (by omega)]
            unfold keF
            rw [sup_s, pk_us]
          · rw [hne _ (by omega), hv, kpS_n (by omega)]
            unfold keF
            rw [sup_n (by omega), sup_n (by omega), sup_s, pk_us]
          · rw [hne _ (by omega), hv, kpS_n (by omega)]
            unfold keF
            rw [sup_n (by omega), sup_s, pk_us]
          · rw [hne _ (by omega), hv]
            exact kpS_at hi
      · intro o ho
        rw [sup_n (by omega)]
        exact fo o (by omega)
    · refine ew_iconst g qd_Y_numberOf_36 ic_m1 ?_
      refine ew_iret g qd_Y_numberOf_37 hp ?_
      exact Or.inr (Or.inr ⟨hni, by omega, rfl, rfl⟩)
  have key : ∀ (d i : Nat), i + d = ks.length → (∀ j, j < i → ks[j]? ≠ some (wl, e)) → ew_E qS w 3 k 2 [some (.inr (b + 1)), some (.inr 1), some (.inl (nI i))] [] sg := by
    intro d
    induction d with
    | zero =>
      intro i hi hinv
      refine ew_iload_n g qd_Y_numberOf_2 rfl ?_
      refine ew_aload_n g qd_Y_numberOf_3 rfl ?_
      refine ew_get g qd_Y_numberOf_4 qf_Y_24 (by first | decide | exact lyo0 hb | exact lyo1 hb | exact lyo2 hb | exact lyo3 hb | exact lyo4 hb | exact lyo5 hb | exact lyo6 hb | exact lyo7 hb | exact lyo8 hb) (by first | rfl | exact lyB hb | exact lyY hb | exact lyA2 hb | exact lyA3 hb | exact lyA4 hb | exact lyA5 hb | exact lyA6 hb | exact lyA7 hb | exact lyA8 hb) rfl ?_
      refine en_top k2 ?_
      refine en_ge g qd_Y_numberOf_7 (tgt := 27) (by decide) (by omega) (by omega) (fun h => ?_) (fun h => ?_)
      · refine hend (fun hmem => ?_) _
        obtain ⟨j, hj⟩ := List.getElem?_of_mem hmem
        have := (List.getElem?_eq_some_iff.mp hj).1
        exact hinv j (by omega) hj
      · omega
    | succ d ih =>
      intro i hi hinv
      refine ew_iload_n g qd_Y_numberOf_2 rfl ?_
      refine ew_aload_n g qd_Y_numberOf_3 rfl ?_
      refine ew_get g qd_Y_numberOf_4 qf_Y_24 (by first | decide | exact lyo0 hb | exact lyo1 hb | exact lyo2 hb | exact lyo3 hb | exact lyo4 hb | exact lyo5 hb | exact lyo6 hb | exact lyo7 hb | exact lyo8 hb) (by first | rfl | exact lyB hb | exact lyY hb | exact lyA2 hb | exact lyA3 hb | exact lyA4 hb | exact lyA5 hb | exact lyA6 hb | exact lyA7 hb | exact lyA8 hb) rfl ?_
      refine en_top k2 ?_
      refine en_ge g qd_Y_numberOf_7 (tgt := 27) (by decide) (by omega) (by omega) (fun h => ?_) (fun h => ?_)
      · omega
      · have hq : ks[i]? = some ks[i] := List.getElem?_eq_getElem h
        refine ew_aload_n g qd_Y_numberOf_10 rfl ?_
        refine ew_aload_n g qd_Y_numberOf_11 rfl ?_
        refine ew_iload_n g qd_Y_numberOf_12 rfl ?_
        refine ew_callV g qd_Y_numberOf_13 (k_Y_isWayOf w k.2.1 sg hb (by omega) (k4 i _ hq) hw he h5) qv_Y_28 (by first | decide | exact lyo0 hb | exact lyo1 hb | exact lyo2 hb | exact lyo3 hb | exact lyo4 hb | exact lyo5 hb | exact lyo6 hb | exact lyo7 hb | exact lyo8 hb) (by first | rfl | exact lyB hb | exact lyY hb | exact lyA2 hb | exact lyA3 hb | exact lyA4 hb | exact lyA5 hb | exact lyA6 hb | exact lyA7 hb | exact lyA8 hb) ⟨_, _, rfl⟩ rfl rfl (Nat.le_of_ble_eq_true rfl) ⟨rfl, rfl, by decide, by decide⟩ (fun v sg1 hv  => ?_)
        obtain ⟨rfl, rfl⟩ := hv
        by_cases hdec : ks[i] = (wl, e)
        · refine en_top (show _ = nI 1 by rw [decide_eq_true hdec]; rfl) ?_
          refine en_if_eq g qd_Y_numberOf_16 (tgt := 21) (by decide) (by omega) (fun hz => ?_) (fun hz => ?_)
          · exact absurd hz (by decide)
          · refine ew_iload_n g qd_Y_numberOf_19 rfl ?_
            refine ew_iret g qd_Y_numberOf_20 hp ?_
            exact Or.inl ⟨i, by rw [hq, hdec], rfl, rfl⟩
        · refine en_top (show _ = nI 0 by rw [decide_eq_false hdec]; rfl) ?_
          refine en_if_eq g qd_Y_numberOf_16 (tgt := 21) (by decide) (by omega) (fun hz => ?_) (fun hz => ?_)
          · refine ew_iinc g qd_Y_numberOf_21 (by decide) rfl (ii_1 _) ?_
            refine ew_goto g qd_Y_numberOf_24 (tgt := 2) (by decide) ?_
            refine ih (i + 1) (by omega) (fun j hj => ?_)
            by_cases ee : j = i
            · rw [ee, hq]
              intro z
              exact hdec (Option.some.inj z)
            · exact hinv j (by omega)
          · exact absurd rfl hz
  refine ew_iconst g qd_Y_numberOf_0 ic_0 ?_
  refine ew_istore_n g qd_Y_numberOf_1 (by decide) ?_
  exact key ks.length 0 (by omega) (fun j hj => absurd hj (Nat.not_lt_zero j))
theorem k_Y_forget (w : WC) (l : Launch) (sg : SG) {b : Nat} (hb : b = 10 ∨ b = 19) : ew_M qS w l qy_Y_forget qw_Y_forget qr_Y_forget [.inr (b + 1)] sg (fun v sg' => v = none ∧ sg' = sup sg (b + 1) 4 (nI 0)) := by
  refine ew_entry (ws' := qwg) (own := qR_Y) (cc := qc_Y_forget) (nL := 1) (ret := none) qnk (by decide) rfl rfl (Nat.le_of_ble_eq_true rfl) ?_
  intro k g hp
  refine ew_aload_n g qd_Y_forget_0 rfl ?_
  refine ew_iconst g qd_Y_forget_1 ic_0 ?_
  refine ew_put g qd_Y_forget_2 qf_Y_24 (qp_Y_count _) (by first | decide | exact lyo0 hb | exact lyo1 hb | exact lyo2 hb | exact lyo3 hb | exact lyo4 hb | exact lyo5 hb | exact lyo6 hb | exact lyo7 hb | exact lyo8 hb) (by first | rfl | exact lyB hb | exact lyY hb | exact lyA2 hb | exact lyA3 hb | exact lyA4 hb | exact lyA5 hb | exact lyA6 hb | exact lyA7 hb | exact lyA8 hb) rfl ?_
  refine ew_vret g qd_Y_forget_5 hp ?_
  exact ⟨rfl, rfl⟩
theorem k_Y_stepOf (w : WC) (l : Launch) (sg : SG) {b j : Nat} {q : List Nat × Nat} (kk : Int32) (hb : b = 10 ∨ b = 19) (hj : j < 40) (hq : yE sg b j q) : ew_M qS w l qy_Y_stepOf qw_Y_stepOf qr_Y_stepOf [.inr (b + 1), .inl (nI j), .inl kk] sg (fun v sg' => v = some (.inl (match inR kk q.1.length with | some i => nI (q.1.getD i 0) | none => -1)) ∧ sg' = sg) := by
  obtain ⟨q1, q2, q3, q4, q5, q6⟩ := hq
  refine ew_entry (ws' := qwg) (own := qR_Y) (cc := qc_Y_stepOf) (nL := 3) (ret := some .int) qnk (by decide) rfl rfl (Nat.le_of_ble_eq_true rfl) ?_
  intro k g hp
  refine ew_iload_n g qd_Y_stepOf_0 rfl ?_
  refine ew_aload_n g qd_Y_stepOf_1 rfl ?_
  refine ew_getR g qd_Y_stepOf_2 qf_Y_15 (by first | decide | exact lyo0 hb | exact lyo1 hb | exact lyo2 hb | exact lyo3 hb | exact lyo4 hb | exact lyo5 hb | exact lyo6 hb | exact lyo7 hb | exact lyo8 hb) (by first | rfl | exact lyB hb | exact lyY hb | exact lyA2 hb | exact lyA3 hb | exact lyA4 hb | exact lyA5 hb | exact lyA6 hb | exact lyA7 hb | exact lyA8 hb) rfl ?_
  refine ew_iload_n g qd_Y_stepOf_5 rfl ?_
  refine en_iald g qd_Y_stepOf_6 (by first | decide | exact lyo0 hb | exact lyo1 hb | exact lyo2 hb | exact lyo3 hb | exact lyo4 hb | exact lyo5 hb | exact lyo6 hb | exact lyo7 hb | exact lyo8 hb) (by first | rfl | exact lyB hb | exact lyY hb | exact lyA2 hb | exact lyA3 hb | exact lyA4 hb | exact lyA5 hb | exact lyA6 hb | exact lyA7 hb | exact lyA8 hb) (by omega) (by omega) q2 ?_
  refine ew_callS g qd_Y_stepOf_7 (k_X_isBelow w k.2.1 sg _ _) qs_Y_36 rfl rfl (Nat.le_of_ble_eq_true rfl) ⟨rfl, rfl, by decide, by decide⟩ (fun v sg1 hv => ?_)
  obtain ⟨rfl, rfl⟩ := hv
  rcases inR_cases kk (n := q.1.length) (by omega) with ⟨hr, hn⟩ | ⟨i, hi, rfl, hr⟩
  · refine en_top (show _ = nI 0 by rw [decide_eq_false hn]; rfl) ?_
    refine en_if_eq g qd_Y_stepOf_10 (tgt := 27) (by decide) (by omega) (fun hz => ?_) (fun hz => ?_)
    · refine ew_iconst g qd_Y_stepOf_27 ic_m1 ?_
      refine ew_iret g qd_Y_stepOf_28 hp ?_
      rw [hr]
      exact ⟨rfl, rfl⟩
    · exact absurd rfl hz
  · refine en_top (show _ = nI 1 by rw [decide_eq_true ⟨nI_pos' (by omega), nI_lt hi (by omega)⟩]; rfl) ?_
    refine en_if_eq g qd_Y_stepOf_10 (tgt := 27) (by decide) (by omega) (fun hz => ?_) (fun hz => ?_)
    · exact absurd hz (by decide)
    · refine ew_aload_n g qd_Y_stepOf_13 rfl ?_
      refine ew_getR g qd_Y_stepOf_14 qf_Y_9 (by first | decide | exact lyo0 hb | exact lyo1 hb | exact lyo2 hb | exact lyo3 hb | exact lyo4 hb | exact lyo5 hb | exact lyo6 hb | exact lyo7 hb | exact lyo8 hb) (by first | rfl | exact lyB hb | exact lyY hb | exact lyA2 hb | exact lyA3 hb | exact lyA4 hb | exact lyA5 hb | exact lyA6 hb | exact lyA7 hb | exact lyA8 hb) rfl ?_
      refine ew_iload_n g qd_Y_stepOf_17 rfl ?_
      refine ew_bipush g qd_Y_stepOf_18 bp_41 ?_
      refine ew_imul g qd_Y_stepOf_20 ?_
      refine en_top (pk_mul _ _) ?_
      refine ew_iload_n g qd_Y_stepOf_21 rfl ?_
      refine ew_iadd g qd_Y_stepOf_22 ?_
      refine en_top (nI_add _ _) ?_
      refine en_iald g qd_Y_stepOf_23 (by first | decide | exact lyo0 hb | exact lyo1 hb | exact lyo2 hb | exact lyo3 hb | exact lyo4 hb | exact lyo5 hb | exact lyo6 hb | exact lyo7 hb | exact lyo8 hb) (by first | rfl | exact lyB hb | exact lyY hb | exact lyA2 hb | exact lyA3 hb | exact lyA4 hb | exact lyA5 hb | exact lyA6 hb | exact lyA7 hb | exact lyA8 hb) (by omega) (by omega) (q6 i hi).1 ?_
      refine ew_goto g qd_Y_stepOf_24 (tgt := 28) (by decide) ?_
      refine ew_iret g qd_Y_stepOf_28 hp ?_
      rw [hr]
      exact ⟨rfl, rfl⟩
end
section
/-! a batch: the transactions of all numbers out of one state -/
def cpS (sg : SG) (o f : Nat) (src : Nat → Int32) (n : Nat) : SG := fun q => if q = o then (fun p => if f ≤ p ∧ p < f + n then src (p - f) else sg o p) else sg q
theorem cpS_0 (sg : SG) (o f : Nat) (src : Nat → Int32) : cpS sg o f src 0 = sg := by
  funext q p
  unfold cpS
  by_cases h : q = o
  · subst h
    simp only [if_true]
    rw [if_neg (by omega)]
  · simp [h]
theorem cpS_s (sg : SG) (o f : Nat) (src : Nat → Int32) (n : Nat) : sup (cpS sg o f src n) o (f + n) (src n) = cpS sg o f src (n + 1) := by
  funext q p
  unfold sup cpS upd
  by_cases h : q = o
  · subst h
    simp only [if_true]
    by_cases h1 : p = f + n
    · subst h1
      rw [if_pos rfl, if_pos (by omega), Nat.add_sub_cancel_left]
    · rw [if_neg h1]
      by_cases h2 : f ≤ p ∧ p < f + n
      · rw [if_pos h2, if_pos (by omega)]
      · rw [if_neg h2, if_neg (by omega)]
  · simp [h]
theorem cpS_n {sg : SG} {o f : Nat} {src : Nat → Int32} {n q : Nat} (h : q ≠ o) : cpS sg o f src n q = sg q := if_neg h
theorem cpS_at {sg : SG} {o f : Nat} {src : Nat → Int32} {n i : Nat} (h : i < n) : cpS sg o f src n o (f + i) = src i := by
  unfold cpS
  rw [if_pos rfl, if_pos (by omega), Nat.add_sub_cancel_left]
theorem cpS_out {sg : SG} {o f : Nat} {src : Nat → Int32} {n p : Nat} (h : p < f ∨ f + n ≤ p) : cpS sg o f src n o p = sg o p := by
  unfold cpS
  rw [if_pos rfl, if_neg (by omega)]
def tK (r : PM) : List Nat × Nat := (pWa r, pHo r)
def bE (sg : SG) (b : Nat) (ks : WKL) (r : PM) (m : Nat) : Prop := (∃ j, ks[j]? = some (tK r) ∧ sg (b + 6) m = nI j) ∧ sg (b + 7) m = nI (pk5 (pCe r)) ∧ ∀ kd, kd < 5 → ∀ i, i < 32 → bt (sg (b + 8) (m * 5 + kd)) i = pFo r kd i
def bFr (b : Nat) (sg sg' : SG) : Prop := ∀ o, o ≠ 1 → o ≠ 6 → o ≠ 7 → o ≠ 8 → o < b + 1 ∨ b + 8 < o → sg' o = sg o
theorem bFr.rf (b : Nat) (sg : SG) : bFr b sg sg := fun _ _ _ _ _ _ => rfl
theorem bFr.tr {b : Nat} {x y z : SG} (h : bFr b x y) (h' : bFr b y z) : bFr b x z := fun o h1 h2 h3 h4 h5 => (h' o h1 h2 h3 h4 h5).trans (h o h1 h2 h3 h4 h5)
theorem yW_fr {sg sg' : SG} {b : Nat} {ks : WKL} (h : yW sg b ks) (hf : ∀ o, b + 1 ≤ o → o ≤ b + 5 → sg' o = sg o) : yW sg' b ks := by
  obtain ⟨k1, k2, k3, k4⟩ := h
  refine ⟨k1, by rw [hf _ (by omega) (by omega)]; exact k2, k3, fun j q hq => ?_⟩
  exact yE_fr (k4 j q hq) (fun p _ => by rw [hf _ (by omega) (by omega)]) (by rw [hf _ (by omega) (by omega)]) (by rw [hf _ (by omega) (by omega)]) (by rw [hf _ (by omega) (by omega)])
theorem bE_fr {sg sg' : SG} {b m : Nat} {ks ks' t : WKL} {r : PM} (h : bE sg b ks r m) (hk : ks' = ks ++ t) (h6 : sg' (b + 6) m = sg (b + 6) m) (h7 : sg' (b + 7) m = sg (b + 7) m) (h8 : ∀ kd, kd < 5 → sg' (b + 8) (m * 5 + kd) = sg (b + 8) (m * 5 + kd)) : bE sg' b ks' r m := by
  obtain ⟨⟨j, hj, e1⟩, e2, e3⟩ := h
  refine ⟨⟨j, ?_, by rw [h6]; exact e1⟩, by rw [h7]; exact e2, fun kd hk i hi => by rw [h8 kd hk]; exact e3 kd hk i hi⟩
  rw [hk, List.getElem?_append_left (List.getElem?_eq_some_iff.mp hj).1]
  exact hj
theorem k_B_fill (w : WC) (l : Launch) (sg : SG) {cd : CDE} {b lim : Nat} {ks : WKL} {c : Nat → Nat} {dead : Bool} (hb : b = 10 ∨ b = 19) (hcd : xCode sg cd) (hk : yW sg b ks) (hl : lim ≤ 40) (hc : c16 c) : ew_M qS w l qy_B_fill qw_B_fill qr_B_fill [.inr b, .inr 1, .inl (nI (pk5 c)), .inl (bI dead), .inl (nI lim)] sg (fun v sg' => (v = some (.inl (nI 1)) ∧ (∃ ks' t, yW sg' b ks' ∧ ks' = ks ++ t ∧ (∀ x, x ∈ ks' → x ∈ ks ∨ ∃ m, m < 64 ∧ x = tK (pTx cd lim m c dead)) ∧ ∀ m, m < 64 → bE sg' b ks' (pTx cd lim m c dead) m) ∧ bFr b sg sg') ∨ (v = some (.inl (nI 0)) ∧ (∃ big : WKL, big.Nodup ∧ big.length = 41 ∧ ∀ x, x ∈ big → x ∈ ks ∨ ∃ m, m < 64 ∧ x = tK (pTx cd lim m c dead)) ∧ bFr b sg sg')) := by
  refine ew_entry (ws' := qwg) (own := qR_B) (cc := qc_B_fill) (nL := 8) (ret := some .boolean) qnk (by decide) rfl rfl (Nat.le_of_ble_eq_true rfl) ?_
  intro k g hp
  have key : ∀ (d i : Nat) (sg1 : SG) (ks1 t : WKL) (x6 x7 : Option MV), i + d = 64 → yW sg1 b ks1 → ks1 = ks ++ t → (∀ x, x ∈ ks1 → x ∈ ks ∨ ∃ m, m < 64 ∧ x = tK (pTx cd lim m c dead)) → (∀ m, m < i → bE sg1 b ks1 (pTx cd lim m c dead) m) → bFr b sg sg1 → ew_E qS w 8 k 3 [some (.inr b), some (.inr 1), some (.inl (nI (pk5 c))), some (.inl (bI dead)), some (.inl (nI lim)), some (.inl (nI i)), x6, x7] [] sg1 := by
    intro d
    induction d with
    | zero =>
      intro i sg1 ks1 t x6 x7 hi hy ht hx hB hf
      refine ew_iload g qd_B_fill_3 rfl ?_
      refine ew_bipush g qd_B_fill_5 bp_64 ?_
      refine en_ge g qd_B_fill_7 (tgt := 98) (by decide) (by omega) (by omega) (fun h => ?_) (fun h => ?_)
      · refine ew_iconst g qd_B_fill_98 ic_1 ?_
        refine ew_zret g qd_B_fill_99 hp (by first | exact bI_nar _ | decide +kernel) ?_
        exact Or.inl ⟨rfl, ⟨ks1, t, hy, ht, hx, fun m hm => hB m (by omega)⟩, hf⟩
      · omega
    | succ d ih =>
      intro i sg1 ks1 t x6 x7 hi hy ht hx hB hf
      refine ew_iload g qd_B_fill_3 rfl ?_
      refine ew_bipush g qd_B_fill_5 bp_64 ?_
      refine en_ge g qd_B_fill_7 (tgt := 98) (by decide) (by omega) (by omega) (fun h => ?_) (fun h => ?_)
      · omega
      · have hcd1 : xCode sg1 cd := by
          unfold xCode at hcd ⊢
          rw [hf 2 (by decide) (by decide) (by decide) (by decide) (by omega), hf 3 (by decide) (by decide) (by decide) (by decide) (by omega), hf 4 (by decide) (by decide) (by decide) (by decide) (by omega), hf 5 (by decide) (by decide) (by decide) (by decide) (by omega)]
          exact hcd
        refine ew_aload_n g qd_B_fill_10 rfl ?_
        refine ew_iload g qd_B_fill_11 rfl ?_
        refine ew_iload_n g qd_B_fill_13 rfl ?_
        refine ew_iload_n g qd_B_fill_14 rfl ?_
        refine ew_iload g qd_B_fill_15 rfl ?_
        refine ew_callV g qd_B_fill_17 (k_K_transact w k.2.1 sg1 (dead := dead) hcd1 (num := i) (by omega) hl hc) qv_B_37 (by decide) rfl ⟨_, _, rfl⟩ rfl rfl (Nat.le_of_ble_eq_true rfl) ⟨rfl, rfl, by decide, by decide⟩ (fun v sg2 hv => ?_)
        obtain ⟨rfl, hm2, hw2, hf2, h52⟩ := hv
        generalize hR : pTx cd lim i c dead = r at hm2 hw2 h52
        have hy2 : yW sg2 b ks1 := yW_fr hy (fun o h1 h2 => hf2 o (by omega) (by omega) (by omega) (by omega))
        have hE2 := hm2.2.2.2.2.2.2.2.2.2.2
        have hfr2 : bFr b sg1 sg2 := fun o h1 h2 h3 h4 _ => hf2 o h1 h2 h3 h4
        refine ew_aload_n g qd_B_fill_20 rfl ?_
        refine ew_getR g qd_B_fill_21 qf_B_12 (by first | decide | exact lyo0 hb | exact lyo1 hb | exact lyo2 hb | exact lyo3 hb | exact lyo4 hb | exact lyo5 hb | exact lyo6 hb | exact lyo7 hb | exact lyo8 hb) (by first | rfl | exact lyB hb | exact lyY hb | exact lyA2 hb | exact lyA3 hb | exact lyA4 hb | exact lyA5 hb | exact lyA6 hb | exact lyA7 hb | exact lyA8 hb) rfl ?_
        refine ew_aload_n g qd_B_fill_24 rfl ?_
        refine ew_callV g qd_B_fill_25 (k_Y_numberOf w k.2.1 sg2 hb hy2 hw2 hE2 h52) qv_B_43 (by first | decide | exact lyo0 hb | exact lyo1 hb | exact lyo2 hb | exact lyo3 hb | exact lyo4 hb | exact lyo5 hb | exact lyo6 hb | exact lyo7 hb | exact lyo8 hb) (by first | rfl | exact lyB hb | exact lyY hb | exact lyA2 hb | exact lyA3 hb | exact lyA4 hb | exact lyA5 hb | exact lyA6 hb | exact lyA7 hb | exact lyA8 hb) ⟨_, _, rfl⟩ rfl rfl (Nat.le_of_ble_eq_true rfl) ⟨rfl, rfl, by decide, by decide⟩ (fun v sg3 hv  => ?_)
        -- what is common to the two good ends
        have hgo : ∀ (j : Nat) (ks3 : WKL) (t3 : WKL), v = some (.inl (nI j)) → j < 40 → yW sg3 b ks3 → ks3 = ks1 ++ t3 → (∀ x, x ∈ ks3 → x ∈ ks ∨ ∃ m, m < 64 ∧ x = tK (pTx cd lim m c dead)) → ks3[j]? = some (tK r) → yFr b sg2 sg3 → ew_E qS w 8 k 28 [some (.inr b), some (.inr 1), some (.inl (nI (pk5 c))), some (.inl (bI dead)), some (.inl (nI lim)), some (.inl (nI i)), x6, x7] [.inl (nI j)] sg3 := by
          intro j ks3 t3 hv hj hy3 ht3 hx3 hkj hfr3
          have hst3 : sg3 1 3 = nI (pk5 (pCe r)) := by rw [hfr3 1 (by omega)]; exact hm2.2.2.2.1
          have hfo3 : sg3 8 = sg2 8 := hfr3 8 (by omega)
          refine ew_istore g qd_B_fill_28 (by decide) ?_
          refine ew_iload g qd_B_fill_30 rfl ?_
          refine ew_iconst g qd_B_fill_32 ic_m1 ?_
          refine ew_icmp_ne g qd_B_fill_33 (tgt := 38) (by decide) (fun hz => ?_) (fun hz => ?_)
          · refine ew_aload_n g qd_B_fill_38 rfl ?_
            refine ew_getR g qd_B_fill_39 qf_B_18 (by first | decide | exact lyo0 hb | exact lyo1 hb | exact lyo2 hb | exact lyo3 hb | exact lyo4 hb | exact lyo5 hb | exact lyo6 hb | exact lyo7 hb | exact lyo8 hb) (by first | rfl | exact lyB hb | exact lyY hb | exact lyA2 hb | exact lyA3 hb | exact lyA4 hb | exact lyA5 hb | exact lyA6 hb | exact lyA7 hb | exact lyA8 hb) rfl ?_
            refine ew_iload g qd_B_fill_42 rfl ?_
            refine ew_iload g qd_B_fill_44 rfl ?_
            refine en_iast g qd_B_fill_46 (by first | decide | exact lyo0 hb | exact lyo1 hb | exact lyo2 hb | exact lyo3 hb | exact lyo4 hb | exact lyo5 hb | exact lyo6 hb | exact lyo7 hb | exact lyo8 hb) (by first | rfl | exact lyB hb | exact lyY hb | exact lyA2 hb | exact lyA3 hb | exact lyA4 hb | exact lyA5 hb | exact lyA6 hb | exact lyA7 hb | exact lyA8 hb) (by omega) (by omega) ?_
            refine ew_aload_n g qd_B_fill_47 rfl ?_
            refine ew_getR g qd_B_fill_48 qf_B_22 (by first | decide | exact lyo0 hb | exact lyo1 hb | exact lyo2 hb | exact lyo3 hb | exact lyo4 hb | exact lyo5 hb | exact lyo6 hb | exact lyo7 hb | exact lyo8 hb) (by first | rfl | exact lyB hb | exact lyY hb | exact lyA2 hb | exact lyA3 hb | exact lyA4 hb | exact lyA5 hb | exact lyA6 hb | exact lyA7 hb | exact lyA8 hb) rfl ?_
            refine ew_iload g qd_B_fill_51 rfl ?_
            refine ew_aload_n g qd_B_fill_53 rfl ?_
            refine ew_get g qd_B_fill_54 qf_B_47 (by first | decide | exact lyo0 hb | exact lyo1 hb | exact lyo2 hb | exact lyo3 hb | exact lyo4 hb | exact lyo5 hb | exact lyo6 hb | exact lyo7 hb | exact lyo8 hb) (by first | rfl | exact lyB hb | exact lyY hb | exact lyA2 hb | exact lyA3 hb | exact lyA4 hb | exact lyA5 hb | exact lyA6 hb | exact lyA7 hb | exact lyA8 hb) rfl ?_
            refine en_top (show sup sg3 (b + 6) i (nI j) 1 3 = nI (pk5 (pCe r)) by rw [sup_n (by omega)]; exact hst3) ?_
            refine en_iast g qd_B_fill_57 (by first | decide | exact lyo0 hb | exact lyo1 hb | exact lyo2 hb | exact lyo3 hb | exact lyo4 hb | exact lyo5 hb | exact lyo6 hb | exact lyo7 hb | exact lyo8 hb) (by first | rfl | exact lyB hb | exact lyY hb | exact lyA2 hb | exact lyA3 hb | exact lyA4 hb | exact lyA5 hb | exact lyA6 hb | exact lyA7 hb | exact lyA8 hb) (by omega) (by omega) ?_
            refine ew_iconst g qd_B_fill_58 ic_0 ?_
            refine ew_istore g qd_B_fill_59 (by decide) ?_
            generalize hs4 : sup (sup sg3 (b + 6) i (nI j)) (b + 7) i (nI (pk5 (pCe r))) = sg4
            have inner : ∀ (d' kd : Nat), kd + d' = 5 → ew_E qS w 8 k 61 [some (.inr b), some (.inr 1), some (.inl (nI (pk5 c))), some (.inl (bI dead)), some (.inl (nI lim)), some (.inl (nI i)), some (.inl (nI j)), some (.inl (nI kd))] [] (cpS sg4 (b + 8) (i * 5) (sg4 8) kd) := by
              intro d'
              induction d' with
              | zero =>
                intro kd hkd
                refine ew_iload g qd_B_fill_61 rfl ?_
                refine ew_iconst g qd_B_fill_63 ic_5 ?_
                refine en_ge g qd_B_fill_64 (tgt := 92) (by decide) (by omega) (by omega) (fun hh => ?_) (fun hh => ?_)
                · refine ew_iinc g qd_B_fill_92 (by decide) rfl (ii_1 _) ?_
                  refine ew_goto g qd_B_fill_95 (tgt := 3) (by decide) ?_
                  have e5 : kd = 5 := by omega
                  subst e5
                  have o6 : cpS sg4 (b + 8) (i * 5) (sg4 8) 5 (b + 6) = upd (sg3 (b + 6)) i (nI j) := by rw [cpS_n (by omega), ← hs4, sup_n (by omega), sup_s]
                  have o7 : cpS sg4 (b + 8) (i * 5) (sg4 8) 5 (b + 7) = upd (sg3 (b + 7)) i (nI (pk5 (pCe r))) := by rw [cpS_n (by omega), ← hs4, sup_s, sup_n (by omega)]
                  have oo : ∀ o, o ≠ b + 6 → o ≠ b + 7 → o ≠ b + 8 → cpS sg4 (b + 8) (i * 5) (sg4 8) 5 o = sg3 o := fun o q6 q7 q8 => by rw [cpS_n q8, ← hs4, sup_n q7, sup_n q6]
                  have o48 : sg4 (b + 8) = sg3 (b + 8) := by rw [← hs4, sup_n (by omega), sup_n (by omega)]
                  have o8 : sg4 8 = sg2 8 := by rw [← hs4, sup_n (by omega), sup_n (by omega), hfo3]
                  refine ih (i + 1) _ ks3 (t ++ t3) _ _ (by omega) (yW_fr hy3 (fun o h1 h2 => oo o (by omega) (by omega) (by omega))) (by rw [ht3, ht, List.append_assoc]) hx3 (fun m hm => ?_) (fun o q1 q2 q3 q4 q5 => ?_)
                  · by_cases em : m = i
                    · subst em
                      rw [hR]
                      refine ⟨⟨j, hkj, by rw [o6, pk_us]⟩, by rw [o7, pk_us], fun kd hkd i' hi' => ?_⟩
                      rw [cpS_at hkd, o8]
                      exact hm2.2.2.2.2.2.2.2.1 kd hkd i' hi'
                    · have hfr13 : ∀ o, b + 6 ≤ o → o ≤ b + 8 → sg3 o = sg1 o := fun o q1 q2 => by rw [hfr3 o (by omega)]; exact hf2 o (by omega) (by omega) (by omega) (by omega)
                      refine bE_fr (hB m (by omega)) ht3 ?_ ?_ (fun kd hkd => ?_)
                      · rw [o6, pk_un em, hfr13 _ (by omega) (by omega)]
                      · rw [o7, pk_un em, hfr13 _ (by omega) (by omega)]
                      · rw [cpS_out (by omega), o48, hfr13 _ (by omega) (by omega)]
                  · rw [oo o (by omega) (by omega) (by omega), hfr3 o (by omega)]
                    exact (hf.tr hfr2) o q1 q2 q3 q4 q5
                · omega
              | succ d' ih' =>
                intro kd hkd
                refine ew_iload g qd_B_fill_61 rfl ?_
                refine ew_iconst g qd_B_fill_63 ic_5 ?_
                refine en_ge g qd_B_fill_64 (tgt := 92) (by decide) (by omega) (by omega) (fun hh => ?_) (fun hh => ?_)
                · omega
                · refine ew_aload_n g qd_B_fill_67 rfl ?_
                  refine ew_getR g qd_B_fill_68 qf_B_25 (by first | decide | exact lyo0 hb | exact lyo1 hb | exact lyo2 hb | exact lyo3 hb | exact lyo4 hb | exact lyo5 hb | exact lyo6 hb | exact lyo7 hb | exact lyo8 hb) (by first | rfl | exact lyB hb | exact lyY hb | exact lyA2 hb | exact lyA3 hb | exact lyA4 hb | exact lyA5 hb | exact lyA6 hb | exact lyA7 hb | exact lyA8 hb) rfl ?_
                  refine ew_iload g qd_B_fill_71 rfl ?_
                  refine ew_iconst g qd_B_fill_73 ic_5 ?_
                  refine ew_imul g qd_B_fill_74 ?_
                  refine en_top (pk_mul _ _) ?_
                  refine ew_iload g qd_B_fill_75 rfl ?_
                  refine ew_iadd g qd_B_fill_77 ?_
                  refine en_top (nI_add _ _) ?_
                  refine ew_aload_n g qd_B_fill_78 rfl ?_
                  refine ew_getR g qd_B_fill_79 qf_B_51 (by first | decide | exact lyo0 hb | exact lyo1 hb | exact lyo2 hb | exact lyo3 hb | exact lyo4 hb | exact lyo5 hb | exact lyo6 hb | exact lyo7 hb | exact lyo8 hb) (by first | rfl | exact lyB hb | exact lyY hb | exact lyA2 hb | exact lyA3 hb | exact lyA4 hb | exact lyA5 hb | exact lyA6 hb | exact lyA7 hb | exact lyA8 hb) rfl ?_
                  refine ew_iload g qd_B_fill_82 rfl ?_
                  refine en_iald g qd_B_fill_84 (by first | decide | exact lyo0 hb | exact lyo1 hb | exact lyo2 hb | exact lyo3 hb | exact lyo4 hb | exact lyo5 hb | exact lyo6 hb | exact lyo7 hb | exact lyo8 hb) (by first | rfl | exact lyB hb | exact lyY hb | exact lyA2 hb | exact lyA3 hb | exact lyA4 hb | exact lyA5 hb | exact lyA6 hb | exact lyA7 hb | exact lyA8 hb) (by omega) (by omega) (show cpS sg4 (b + 8) (i * 5) (sg4 8) kd 8 kd = sg4 8 kd by rw [cpS_n (by omega)]) ?_
                  refine en_iast g qd_B_fill_85 (by first | decide | exact lyo0 hb | exact lyo1 hb | exact lyo2 hb | exact lyo3 hb | exact lyo4 hb | exact lyo5 hb | exact lyo6 hb | exact lyo7 hb | exact lyo8 hb) (by first | rfl | exact lyB hb | exact lyY hb | exact lyA2 hb | exact lyA3 hb | exact lyA4 hb | exact lyA5 hb | exact lyA6 hb | exact lyA7 hb | exact lyA8 hb) (by omega) (by omega) ?_
                  refine ew_iinc g qd_B_fill_86 (by decide) rfl (ii_1 _) ?_
                  refine ew_goto g qd_B_fill_89 (tgt := 61) (by decide) ?_
                  exact en_sg (cpS_s _ _ _ _ _) (ih' (kd + 1) (by omega))
            exact en_sg (cpS_0 _ _ _ _).symm (inner 5 0 (by omega))
          · exact absurd hz (nI_m1 (by omega))
        rcases hv with ⟨j, hj, hv, rfl⟩ | ⟨hni, hlt, hv, hy3, hfr3⟩ | ⟨hni, h40, hv, rfl⟩
        · have hjl := (List.getElem?_eq_some_iff.mp hj).1
          have hk40 := hy2.1
          subst hv
          exact hgo j ks1 [] rfl (by omega) hy2 (by simp) hx hj (fun _ _ => rfl)
        · subst hv
          refine hgo ks1.length (ks1 ++ [(pWa r, pHo r)]) [(pWa r, pHo r)] rfl hlt hy3 rfl (fun x hx' => ?_) ?_ hfr3
          · rcases List.mem_append.mp hx' with h1 | h1
            · exact hx x h1
            · right
              refine ⟨i, by omega, ?_⟩
              rw [List.mem_singleton.mp h1, hR]
              rfl
          · rw [List.getElem?_append_right (Nat.le_refl _), Nat.sub_self]; rfl
        · subst hv
          refine ew_istore g qd_B_fill_28 (by decide) ?_
          refine ew_iload g qd_B_fill_30 rfl ?_
          refine ew_iconst g qd_B_fill_32 ic_m1 ?_
          refine ew_icmp_ne g qd_B_fill_33 (tgt := 38) (by decide) (fun hz => ?_) (fun hz => ?_)
          · exact absurd rfl hz
          · refine ew_iconst g qd_B_fill_36 ic_0 ?_
            refine ew_zret g qd_B_fill_37 hp (by first | exact bI_nar _ | decide +kernel) ?_
            refine Or.inr ⟨rfl, ⟨ks1 ++ [(pWa r, pHo r)], ?_, by simp [h40], fun x hx' => ?_⟩, hf.tr hfr2⟩
            · exact List.nodup_append.mpr ⟨hy2.2.2.1, by simp, fun x hx y hy => by simp at hy; subst hy; exact fun z => hni (z ▸ hx)⟩
            · rcases List.mem_append.mp hx' with h1 | h1
              · exact hx x h1
              · right
                refine ⟨i, by omega, ?_⟩
                rw [List.mem_singleton.mp h1, hR]
                rfl
  refine ew_iconst g qd_B_fill_0 ic_0 ?_
  refine ew_istore g qd_B_fill_1 (by decide) ?_
  exact key 64 0 sg ks [] _ _ rfl hk (by simp) (fun x hx => Or.inl hx) (fun m hm => absurd hm (Nat.not_lt_zero m)) (bFr.rf b sg)
end
section
/-! What an exploration answers, as numbers: q = (code, balance, limit, transactions). -/
abbrev XP : Type := CDE × Nat × Nat × Nat
abbrev KEY : Type := (List Nat × Nat) × (List Nat × Nat)
def xc0 (b : Nat) : Nat → Nat := fun i => if i = 4 then b else 0
theorem xc0_16 {b : Nat} (h : b < 16) : c16 (xc0 b) := by
  intro i _
  unfold xc0
  split
  · exact h
  · decide
theorem xc0_pk (b : Nat) : pk5 (xc0 b) = 65536 * b := by simp [pk5, xc0]
def xF (q : XP) (a : Nat) : PM := pTx q.1 q.2.2.1 (a % 64) (xc0 q.2.1) false
def xL (q : XP) (m : Nat) : PM := if q.2.2.2 = 1 then xF q m else pTx q.1 q.2.2.1 (m % 64) (pCe (xF q (m / 64))) (decide (pHo (xF q (m / 64)) = 3))
def xKey (q : XP) (m : Nat) : KEY := (if q.2.2.2 = 1 then ([], 4) else tK (xF q (m / 64)), tK (xL q m))
def xCel (q : XP) (m : Nat) : Nat → Nat := pCe (xL q m)
def xFnd (q : XP) (m : Nat) (kind i : Nat) : Bool := (if q.2.2.2 = 1 then false else pFo (xF q (m / 64)) kind i) || pFo (xL q m) kind i
def xN (q : XP) : Nat := if q.2.2.2 = 1 then 64 else 4096
/-- of the numbers below n those with P -/
def cntB : Nat → (Nat → Bool) → Nat
  | 0, _ => 0
  | n + 1, P => cntB n P + (if P n = true then 1 else 0)
theorem cntB_le (n : Nat) (P : Nat → Bool) : cntB n P ≤ n := by
  induction n with
  | zero => exact Nat.le_refl _
  | succ n ih => unfold cntB; split <;> omega
theorem cntB_congr {n : Nat} {P Q : Nat → Bool} (h : ∀ j, j < n → P j = Q j) : cntB n P = cntB n Q := by
  induction n with
  | zero => rfl
  | succ n ih =>
    unfold cntB
    rw [ih (fun j hj => h j (by omega)), h n (by omega)]
def dAdd (D : Nat → Bool) (m : Nat) : Nat → Bool := fun j => D j || decide (j = m)
theorem dAdd_m (D : Nat → Bool) (m : Nat) : dAdd D m m = true := by simp [dAdd]
theorem dAdd_t {D : Nat → Bool} {m j : Nat} (h : D j = true) : dAdd D m j = true := by simp [dAdd, h]
theorem dAdd_or {D : Nat → Bool} {m j : Nat} (h : dAdd D m j = true) : D j = true ∨ j = m := by simpa [dAdd] using h
theorem cntB_add {n m : Nat} {D P : Nat → Bool} (hm : m < n) (hD : D m = false) : cntB n (fun j => dAdd D m j && P j) = cntB n (fun j => D j && P j) + (if P m = true then 1 else 0) := by
  induction n with
  | zero => omega
  | succ n ih =>
    unfold cntB
    by_cases h : m = n
    · subst h
      have e : cntB m (fun j => dAdd D m j && P j) = cntB m (fun j => D j && P j) := cntB_congr (fun j hj => by
        have : ¬ j = m := by omega
        simp [dAdd, this])
      rw [e]
      simp [dAdd, hD]
    · rw [ih (by omega)]
      have : ¬ n = m := fun z => h z.symm
      simp only [dAdd, this, decide_false, Bool.or_false]
      omega
theorem cntB_none {n : Nat} {P : Nat → Bool} (h : ∀ j, j < n → P j = false) : cntB n P = 0 := by
  induction n with
  | zero => rfl
  | succ n ih =>
    unfold cntB
    rw [ih (fun j hj => h j (by omega)), h n (by omega)]
    rfl
theorem nI_inc (a : Nat) : nI a + nI 1 = nI (a + 1) := nI_add a 1
/-! the rest of a batch -/
theorem k_B_isDestroyed (w : WC) (l : Launch) (sg : SG) {b m : Nat} {ks : WKL} {r : PM} (hb : b = 10 ∨ b = 19) (hk : yW sg b ks) (hm : m < 64) (hE : bE sg b ks r m) : ew_M qS w l qy_B_isDestroyed qw_B_isDestroyed qr_B_isDestroyed [.inr b, .inl (nI m)] sg (fun v sg' => v = some (.inl (bI (decide (pHo r = 3)))) ∧ sg' = sg) := by
  obtain ⟨⟨j, hj, e1⟩, -, -⟩ := hE
  have hjl := (List.getElem?_eq_some_iff.mp hj).1
  have hk40 := hk.1
  obtain ⟨-, -, -, q4, q5, -⟩ := hk.2.2.2 j _ hj
  have q4 : sg (b + 5) j = nI (pHo r) := q4
  have q5 : pHo r ≤ 5 := q5
  refine ew_entry (ws' := qwg) (own := qR_B) (cc := qc_B_isDestroyed) (nL := 2) (ret := some .boolean) qnk (by decide) rfl rfl (Nat.le_of_ble_eq_true rfl) ?_
  intro k g hp
  refine ew_aload_n g qd_B_isDestroyed_0 rfl ?_
  refine ew_getR g qd_B_isDestroyed_1 qf_B_12 (by first | decide | exact lyo0 hb | exact lyo1 hb | exact lyo2 hb | exact lyo3 hb | exact lyo4 hb | exact lyo5 hb | exact lyo6 hb | exact lyo7 hb | exact lyo8 hb) (by first | rfl | exact lyB hb | exact lyY hb | exact lyA2 hb | exact lyA3 hb | exact lyA4 hb | exact lyA5 hb | exact lyA6 hb | exact lyA7 hb | exact lyA8 hb) rfl ?_
  refine ew_getR g qd_B_isDestroyed_4 qf_B_52 (by first | decide | exact lyo0 hb | exact lyo1 hb | exact lyo2 hb | exact lyo3 hb | exact lyo4 hb | exact lyo5 hb | exact lyo6 hb | exact lyo7 hb | exact lyo8 hb) (by first | rfl | exact lyB hb | exact lyY hb | exact lyA2 hb | exact lyA3 hb | exact lyA4 hb | exact lyA5 hb | exact lyA6 hb | exact lyA7 hb | exact lyA8 hb) rfl ?_
  refine ew_aload_n g qd_B_isDestroyed_7 rfl ?_
  refine ew_getR g qd_B_isDestroyed_8 qf_B_18 (by first | decide | exact lyo0 hb | exact lyo1 hb | exact lyo2 hb | exact lyo3 hb | exact lyo4 hb | exact lyo5 hb | exact lyo6 hb | exact lyo7 hb | exact lyo8 hb) (by first | rfl | exact lyB hb | exact lyY hb | exact lyA2 hb | exact lyA3 hb | exact lyA4 hb | exact lyA5 hb | exact lyA6 hb | exact lyA7 hb | exact lyA8 hb) rfl ?_
  refine ew_iload_n g qd_B_isDestroyed_11 rfl ?_
  refine en_iald g qd_B_isDestroyed_12 (by first | decide | exact lyo0 hb | exact lyo1 hb | exact lyo2 hb | exact lyo3 hb | exact lyo4 hb | exact lyo5 hb | exact lyo6 hb | exact lyo7 hb | exact lyo8 hb) (by first | rfl | exact lyB hb | exact lyY hb | exact lyA2 hb | exact lyA3 hb | exact lyA4 hb | exact lyA5 hb | exact lyA6 hb | exact lyA7 hb | exact lyA8 hb) (by omega) (by omega) e1 ?_
  refine en_iald g qd_B_isDestroyed_13 (by first | decide | exact lyo0 hb | exact lyo1 hb | exact lyo2 hb | exact lyo3 hb | exact lyo4 hb | exact lyo5 hb | exact lyo6 hb | exact lyo7 hb | exact lyo8 hb) (by first | rfl | exact lyB hb | exact lyY hb | exact lyA2 hb | exact lyA3 hb | exact lyA4 hb | exact lyA5 hb | exact lyA6 hb | exact lyA7 hb | exact lyA8 hb) (by omega) (by omega) q4 ?_
  refine ew_iconst g qd_B_isDestroyed_14 ic_3 ?_
  refine en_ne g qd_B_isDestroyed_15 (tgt := 22) (by decide) (by omega) (by omega) (fun h => ?_) (fun h => ?_)
  · refine ew_iconst g qd_B_isDestroyed_22 ic_0 ?_
    refine ew_zret g qd_B_isDestroyed_23 hp (by first | exact bI_nar _ | decide +kernel) ?_
    rw [decide_eq_false h]
    exact ⟨rfl, rfl⟩
  · refine ew_iconst g qd_B_isDestroyed_18 ic_1 ?_
    refine ew_goto g qd_B_isDestroyed_19 (tgt := 23) (by decide) ?_
    refine ew_zret g qd_B_isDestroyed_23 hp (by first | exact bI_nar _ | decide +kernel) ?_
    rw [decide_eq_true h]
    exact ⟨rfl, rfl⟩
def alk (r r' : PM) : Prop := pk5 (pCe r) = pk5 (pCe r') ∧ (pHo r = 3 ↔ pHo r' = 3)
theorem k_B_areFollowedAlike (w : WC) (l : Launch) (sg : SG) {b m m' : Nat} {ks : WKL} {r r' : PM} (hb : b = 10 ∨ b = 19) (hk : yW sg b ks) (hm : m < 64) (hm' : m' < 64) (hE : bE sg b ks r m) (hE' : bE sg b ks r' m') (hc : c16 (pCe r)) (hc' : c16 (pCe r')) : ew_M qS w l qy_B_areFollowedAlike qw_B_areFollowedAlike qr_B_areFollowedAlike [.inr b, .inl (nI m), .inl (nI m')] sg (fun v sg' => ((alk r r' ∧ v = some (.inl (nI 1))) ∨ (¬ alk r r' ∧ v = some (.inl (nI 0)))) ∧ sg' = sg) := by
  have l1 := hc.lt
  have l2 := hc'.lt
  refine ew_entry (ws' := qwg) (own := qR_B) (cc := qc_B_areFollowedAlike) (nL := 3) (ret := some .boolean) qnk (by decide) rfl rfl (Nat.le_of_ble_eq_true rfl) ?_
  intro k g hp
  refine ew_aload_n g qd_B_areFollowedAlike_0 rfl ?_
  refine ew_getR g qd_B_areFollowedAlike_1 qf_B_22 (by first | decide | exact lyo0 hb | exact lyo1 hb | exact lyo2 hb | exact lyo3 hb | exact lyo4 hb | exact lyo5 hb | exact lyo6 hb | exact lyo7 hb | exact lyo8 hb) (by first | rfl | exact lyB hb | exact lyY hb | exact lyA2 hb | exact lyA3 hb | exact lyA4 hb | exact lyA5 hb | exact lyA6 hb | exact lyA7 hb | exact lyA8 hb) rfl ?_
  refine ew_iload_n g qd_B_areFollowedAlike_4 rfl ?_
  refine en_iald g qd_B_areFollowedAlike_5 (by first | decide | exact lyo0 hb | exact lyo1 hb | exact lyo2 hb | exact lyo3 hb | exact lyo4 hb | exact lyo5 hb | exact lyo6 hb | exact lyo7 hb | exact lyo8 hb) (by first | rfl | exact lyB hb | exact lyY hb | exact lyA2 hb | exact lyA3 hb | exact lyA4 hb | exact lyA5 hb | exact lyA6 hb | exact lyA7 hb | exact lyA8 hb) (by omega) (by omega) hE.2.1 ?_
  refine ew_aload_n g qd_B_areFollowedAlike_6 rfl ?_
  refine ew_getR g qd_B_areFollowedAlike_7 qf_B_22 (by first | decide | exact lyo0 hb | exact lyo1 hb | exact lyo2 hb | exact lyo3 hb | exact lyo4 hb | exact lyo5 hb | exact lyo6 hb | exact lyo7 hb | exact lyo8 hb) (by first | rfl | exact lyB hb | exact lyY hb | exact lyA2 hb | exact lyA3 hb | exact lyA4 hb | exact lyA5 hb | exact lyA6 hb | exact lyA7 hb | exact lyA8 hb) rfl ?_
  refine ew_iload_n g qd_B_areFollowedAlike_10 rfl ?_
  refine en_iald g qd_B_areFollowedAlike_11 (by first | decide | exact lyo0 hb | exact lyo1 hb | exact lyo2 hb | exact lyo3 hb | exact lyo4 hb | exact lyo5 hb | exact lyo6 hb | exact lyo7 hb | exact lyo8 hb) (by first | rfl | exact lyB hb | exact lyY hb | exact lyA2 hb | exact lyA3 hb | exact lyA4 hb | exact lyA5 hb | exact lyA6 hb | exact lyA7 hb | exact lyA8 hb) (by omega) (by omega) hE'.2.1 ?_
  refine en_ne g qd_B_areFollowedAlike_12 (tgt := 32) (by decide) (by omega) (by omega) (fun h => ?_) (fun h => ?_)
  · refine ew_iconst g qd_B_areFollowedAlike_32 ic_0 ?_
    refine ew_zret g qd_B_areFollowedAlike_33 hp (by first | exact bI_nar _ | decide +kernel) ?_
    exact ⟨Or.inr ⟨fun z => h z.1, rfl⟩, rfl⟩
  · refine ew_aload_n g qd_B_areFollowedAlike_15 rfl ?_
    refine ew_iload_n g qd_B_areFollowedAlike_16 rfl ?_
    refine ew_callV g qd_B_areFollowedAlike_17 (k_B_isDestroyed w k.2.1 sg hb hk hm hE) qv_B_55 (by first | decide | exact lyo0 hb | exact lyo1 hb | exact lyo2 hb | exact lyo3 hb | exact lyo4 hb | exact lyo5 hb | exact lyo6 hb | exact lyo7 hb | exact lyo8 hb) (by first | rfl | exact lyB hb | exact lyY hb | exact lyA2 hb | exact lyA3 hb | exact lyA4 hb | exact lyA5 hb | exact lyA6 hb | exact lyA7 hb | exact lyA8 hb) ⟨_, _, rfl⟩ rfl rfl (Nat.le_of_ble_eq_true rfl) ⟨rfl, rfl, by decide, by decide⟩ (fun v sg1 hv  => ?_)
    obtain ⟨rfl, rfl⟩ := hv
    refine ew_aload_n g qd_B_areFollowedAlike_20 rfl ?_
    refine ew_iload_n g qd_B_areFollowedAlike_21 rfl ?_
    refine ew_callV g qd_B_areFollowedAlike_22 (k_B_isDestroyed w k.2.1 sg1 hb hk hm' hE') qv_B_55 (by first | decide | exact lyo0 hb | exact lyo1 hb | exact lyo2 hb | exact lyo3 hb | exact lyo4 hb | exact lyo5 hb | exact lyo6 hb | exact lyo7 hb | exact lyo8 hb) (by first | rfl | exact lyB hb | exact lyY hb | exact lyA2 hb | exact lyA3 hb | exact lyA4 hb | exact lyA5 hb | exact lyA6 hb | exact lyA7 hb | exact lyA8 hb) ⟨_, _, rfl⟩ rfl rfl (Nat.le_of_ble_eq_true rfl) ⟨rfl, rfl, by decide, by decide⟩ (fun v sg2 hv  => ?_)
    obtain ⟨rfl, rfl⟩ := hv
    refine ew_icmp_ne g qd_B_areFollowedAlike_25 (tgt := 32) (by decide) (fun h2 => ?_) (fun h2 => ?_)
    · refine ew_iconst g qd_B_areFollowedAlike_32 ic_0 ?_
      refine ew_zret g qd_B_areFollowedAlike_33 hp (by first | exact bI_nar _ | decide +kernel) ?_
      refine ⟨Or.inr ⟨fun z => h2 ?_, rfl⟩, rfl⟩
      rw [decide_eq_decide.mpr z.2]
    · refine ew_iconst g qd_B_areFollowedAlike_28 ic_1 ?_
      refine ew_goto g qd_B_areFollowedAlike_29 (tgt := 33) (by decide) ?_
      refine ew_zret g qd_B_areFollowedAlike_33 hp (by first | exact bI_nar _ | decide +kernel) ?_
      refine ⟨Or.inl ⟨⟨h, ?_⟩, rfl⟩, rfl⟩
      have bi : ∀ x y : Bool, bI x = bI y → x = y := by decide +kernel
      exact decide_eq_decide.mp (bi _ _ h2)
theorem k_B_isFollowedLikeAnEarlierOne (w : WC) (l : Launch) (sg : SG) {b m : Nat} {ks : WKL} {R : Nat → PM} (hb : b = 10 ∨ b = 19) (hk : yW sg b ks) (hm : m < 64) (hE : ∀ j, j < 64 → bE sg b ks (R j) j) (hc : ∀ j, j < 64 → c16 (pCe (R j))) : ew_M qS w l qy_B_isFollowedLikeAnEarlierOne qw_B_isFollowedLikeAnEarlierOne qr_B_isFollowedLikeAnEarlierOne [.inr b, .inl (nI m)] sg (fun v sg' => (((∃ e, e < m ∧ alk (R e) (R m)) ∧ v = some (.inl (nI 1))) ∨ ((∀ e, e < m → ¬ alk (R e) (R m)) ∧ v = some (.inl (nI 0)))) ∧ sg' = sg) := by
  refine ew_entry (ws' := qwg) (own := qR_B) (cc := qc_B_isFollowedLikeAnEarlierOne) (nL := 3) (ret := some .boolean) qnk (by decide) rfl rfl (Nat.le_of_ble_eq_true rfl) ?_
  intro k g hp
  have key : ∀ (d i : Nat), i + d = m → (∀ e, e < i → ¬ alk (R e) (R m)) → ew_E qS w 3 k 2 [some (.inr b), some (.inl (nI m)), some (.inl (nI i))] [] sg := by
    intro d
    induction d with
    | zero =>
      intro i hi hinv
      refine ew_iload_n g qd_B_isFollowedLikeAnEarlierOne_2 rfl ?_
      refine ew_iload_n g qd_B_isFollowedLikeAnEarlierOne_3 rfl ?_
      refine en_ge g qd_B_isFollowedLikeAnEarlierOne_4 (tgt := 24) (by decide) (by omega) (by omega) (fun h => ?_) (fun h => ?_)
      · refine ew_iconst g qd_B_isFollowedLikeAnEarlierOne_24 ic_0 ?_
        refine ew_zret g qd_B_isFollowedLikeAnEarlierOne_25 hp (by first | exact bI_nar _ | decide +kernel) ?_
        exact ⟨Or.inr ⟨fun e he => hinv e (by omega), rfl⟩, rfl⟩
      · omega
    | succ d ih =>
      intro i hi hinv
      refine ew_iload_n g qd_B_isFollowedLikeAnEarlierOne_2 rfl ?_
      refine ew_iload_n g qd_B_isFollowedLikeAnEarlierOne_3 rfl ?_
      refine en_ge g qd_B_isFollowedLikeAnEarlierOne_4 (tgt := 24) (by decide) (by omega) (by omega) (fun h => ?_) (fun h => ?_)
      · omega
      · refine ew_aload_n g qd_B_isFollowedLikeAnEarlierOne_7 rfl ?_
        refine ew_iload_n g qd_B_isFollowedLikeAnEarlierOne_8 rfl ?_
        refine ew_iload_n g qd_B_isFollowedLikeAnEarlierOne_9 rfl ?_
        refine ew_callV g qd_B_isFollowedLikeAnEarlierOne_10 (k_B_areFollowedAlike w k.2.1 sg hb hk (by omega) hm (hE i (by omega)) (hE m hm) (hc i (by omega)) (hc m hm)) qv_B_59 (by first | decide | exact lyo0 hb | exact lyo1 hb | exact lyo2 hb | exact lyo3 hb | exact lyo4 hb | exact lyo5 hb | exact lyo6 hb | exact lyo7 hb | exact lyo8 hb) (by first | rfl | exact lyB hb | exact lyY hb | exact lyA2 hb | exact lyA3 hb | exact lyA4 hb | exact lyA5 hb | exact lyA6 hb | exact lyA7 hb | exact lyA8 hb) ⟨_, _, rfl⟩ rfl rfl (Nat.le_of_ble_eq_true rfl) ⟨rfl, rfl, by decide, by decide⟩ (fun v sg1 hv  => ?_)
        obtain ⟨hv, rfl⟩ := hv
        rcases hv with ⟨ha, rfl⟩ | ⟨ha, rfl⟩
        · refine en_if_eq g qd_B_isFollowedLikeAnEarlierOne_13 (tgt := 18) (by decide) (by omega) (fun hz => ?_) (fun hz => ?_)
          · exact absurd hz (by decide)
          · refine ew_iconst g qd_B_isFollowedLikeAnEarlierOne_16 ic_1 ?_
            refine ew_zret g qd_B_isFollowedLikeAnEarlierOne_17 hp (by first | exact bI_nar _ | decide +kernel) ?_
            exact ⟨Or.inl ⟨⟨i, h, ha⟩, rfl⟩, rfl⟩
        · refine en_if_eq g qd_B_isFollowedLikeAnEarlierOne_13 (tgt := 18) (by decide) (by omega) (fun hz => ?_) (fun hz => ?_)
          · refine ew_iinc g qd_B_isFollowedLikeAnEarlierOne_18 (by decide) rfl (ii_1 _) ?_
            refine ew_goto g qd_B_isFollowedLikeAnEarlierOne_21 (tgt := 2) (by decide) ?_
            refine ih (i + 1) (by omega) (fun e he => ?_)
            by_cases ee : e = i
            · rw [ee]; exact ha
            · exact hinv e (by omega)
          · exact absurd rfl hz
  refine ew_iconst g qd_B_isFollowedLikeAnEarlierOne_0 ic_0 ?_
  refine ew_istore_n g qd_B_isFollowedLikeAnEarlierOne_1 (by decide) ?_
  exact key m 0 (by omega) (fun e he => absurd he (Nat.not_lt_zero e))
theorem k_B_forget (w : WC) (l : Launch) (sg : SG) {b : Nat} (hb : b = 10 ∨ b = 19) : ew_M qS w l qy_B_forget qw_B_forget qr_B_forget [.inr b] sg (fun v sg' => v = none ∧ sg' = sfil (sfil (sup sg (b + 1) 4 (nI 0)) (b + 6) 64 (nI 0)) (b + 8) 320 (nI 0)) := by
  refine ew_entry (ws' := qwg) (own := qR_B) (cc := qc_B_forget) (nL := 1) (ret := none) qnk (by decide) rfl rfl (Nat.le_of_ble_eq_true rfl) ?_
  intro k g hp
  refine ew_aload_n g qd_B_forget_0 rfl ?_
  refine ew_getR g qd_B_forget_1 qf_B_12 (by first | decide | exact lyo0 hb | exact lyo1 hb | exact lyo2 hb | exact lyo3 hb | exact lyo4 hb | exact lyo5 hb | exact lyo6 hb | exact lyo7 hb | exact lyo8 hb) (by first | rfl | exact lyB hb | exact lyY hb | exact lyA2 hb | exact lyA3 hb | exact lyA4 hb | exact lyA5 hb | exact lyA6 hb | exact lyA7 hb | exact lyA8 hb) rfl ?_
  refine ew_callV g qd_B_forget_4 (k_Y_forget w k.2.1 sg hb) qv_B_28 (by first | decide | exact lyo0 hb | exact lyo1 hb | exact lyo2 hb | exact lyo3 hb | exact lyo4 hb | exact lyo5 hb | exact lyo6 hb | exact lyo7 hb | exact lyo8 hb) (by first | rfl | exact lyB hb | exact lyY hb | exact lyA2 hb | exact lyA3 hb | exact lyA4 hb | exact lyA5 hb | exact lyA6 hb | exact lyA7 hb | exact lyA8 hb) ⟨_, _, rfl⟩ rfl rfl (Nat.le_of_ble_eq_true rfl) ⟨rfl, rfl, by decide, by decide⟩ (fun v sg1 hv  => ?_)
  obtain ⟨rfl, rfl⟩ := hv
  refine ew_aload_n g qd_B_forget_7 rfl ?_
  refine ew_getR g qd_B_forget_8 qf_B_18 (by first | decide | exact lyo0 hb | exact lyo1 hb | exact lyo2 hb | exact lyo3 hb | exact lyo4 hb | exact lyo5 hb | exact lyo6 hb | exact lyo7 hb | exact lyo8 hb) (by first | rfl | exact lyB hb | exact lyY hb | exact lyA2 hb | exact lyA3 hb | exact lyA4 hb | exact lyA5 hb | exact lyA6 hb | exact lyA7 hb | exact lyA8 hb) rfl ?_
  refine ew_iconst g qd_B_forget_11 ic_0 ?_
  refine ew_callS g qd_B_forget_12 (k_A_fill w k.2.1 _ (nI 0) (lyo6 hb) (lyA6 hb) (by decide)) qs_B_31 rfl rfl (Nat.le_of_ble_eq_true rfl) ⟨rfl, rfl, by decide, by decide⟩ (fun v sg1 hv => ?_)
  obtain ⟨rfl, rfl⟩ := hv
  refine ew_aload_n g qd_B_forget_15 rfl ?_
  refine ew_getR g qd_B_forget_16 qf_B_25 (by first | decide | exact lyo0 hb | exact lyo1 hb | exact lyo2 hb | exact lyo3 hb | exact lyo4 hb | exact lyo5 hb | exact lyo6 hb | exact lyo7 hb | exact lyo8 hb) (by first | rfl | exact lyB hb | exact lyY hb | exact lyA2 hb | exact lyA3 hb | exact lyA4 hb | exact lyA5 hb | exact lyA6 hb | exact lyA7 hb | exact lyA8 hb) rfl ?_
  refine ew_iconst g qd_B_forget_19 ic_0 ?_
  refine ew_callS g qd_B_forget_20 (k_A_fill w k.2.1 _ (nI 0) (lyo8 hb) (lyA8 hb) (by decide)) qs_B_31 rfl rfl (Nat.le_of_ble_eq_true rfl) ⟨rfl, rfl, by decide, by decide⟩ (fun v sg1 hv => ?_)
  obtain ⟨rfl, rfl⟩ := hv
  refine ew_vret g qd_B_forget_23 hp ?_
  exact ⟨rfl, rfl⟩
end
section
/-! the tally -/
def noF (sg : SG) (r kd : Nat) (x : Int32) (m n : Nat) : SG := fun q =>
  if q = 39 then (fun p => if r * 5 * 32 + kd * 32 ≤ p ∧ p < r * 5 * 32 + kd * 32 + n ∧ bt x (p - (r * 5 * 32 + kd * 32)) = true then sg 39 p + nI 1 else sg 39 p)
  else if q = 38 then (fun p => if kd * 32 ≤ p ∧ p < kd * 32 + n ∧ bt x (p - kd * 32) = true ∧ (sg 38 p = -1 ∨ nI m < sg 38 p) then nI m else sg 38 p)
  else sg q
theorem noF_39 (sg : SG) (r kd : Nat) (x : Int32) (m n p : Nat) : noF sg r kd x m n 39 p = if r * 5 * 32 + kd * 32 ≤ p ∧ p < r * 5 * 32 + kd * 32 + n ∧ bt x (p - (r * 5 * 32 + kd * 32)) = true then sg 39 p + nI 1 else sg 39 p := rfl
theorem noF_38 (sg : SG) (r kd : Nat) (x : Int32) (m n p : Nat) : noF sg r kd x m n 38 p = if kd * 32 ≤ p ∧ p < kd * 32 + n ∧ bt x (p - kd * 32) = true ∧ (sg 38 p = -1 ∨ nI m < sg 38 p) then nI m else sg 38 p := rfl
theorem noF_n {sg : SG} {r kd : Nat} {x : Int32} {m n q : Nat} (h : q ≠ 39) (h' : q ≠ 38) : noF sg r kd x m n q = sg q := by unfold noF; rw [if_neg h, if_neg h']
theorem noF_0 (sg : SG) (r kd : Nat) (x : Int32) (m : Nat) : noF sg r kd x m 0 = sg := by
  funext q p
  by_cases h : q = 39
  · subst h; rw [noF_39, if_neg (by omega)]
  · by_cases h' : q = 38
    · subst h'; rw [noF_38, if_neg (by omega)]
    · rw [noF_n h h']
theorem noF_z {sg : SG} {r kd : Nat} {x : Int32} {m n : Nat} (h : ∀ t, n ≤ t → t < 32 → bt x t = false) (hn : n ≤ 32) : noF sg r kd x m n = noF sg r kd x m 32 := by
  funext q p
  by_cases h9 : q = 39
  · subst h9
    rw [noF_39, noF_39]
    by_cases c : r * 5 * 32 + kd * 32 ≤ p ∧ p < r * 5 * 32 + kd * 32 + 32 ∧ bt x (p - (r * 5 * 32 + kd * 32)) = true
    · rw [if_pos c]
      by_cases c2 : p < r * 5 * 32 + kd * 32 + n
      · rw [if_pos ⟨c.1, c2, c.2.2⟩]
      · have := h (p - (r * 5 * 32 + kd * 32)) (by omega) (by omega)
        rw [this] at c
        exact absurd c.2.2 (by decide)
    · rw [if_neg c, if_neg (fun z => c ⟨z.1, by omega, z.2.2⟩)]
  · by_cases h8 : q = 38
    · subst h8
      rw [noF_38, noF_38]
      by_cases c : kd * 32 ≤ p ∧ p < kd * 32 + 32 ∧ bt x (p - kd * 32) = true ∧ (sg 38 p = -1 ∨ nI m < sg 38 p)
      · rw [if_pos c]
        by_cases c2 : p < kd * 32 + n
        · rw [if_pos ⟨c.1, c2, c.2.2⟩]
        · have := h (p - kd * 32) (by omega) (by omega)
          rw [this] at c
          exact absurd c.2.2.1 (by decide)
      · rw [if_neg c, if_neg (fun z => c ⟨z.1, by omega, z.2.2⟩)]
    · rw [noF_n h9 h8, noF_n h9 h8]
theorem noF_no {sg : SG} {r kd : Nat} {x : Int32} {m n : Nat} (h : bt x n = false) : noF sg r kd x m n = noF sg r kd x m (n + 1) := by
  funext q p
  by_cases h9 : q = 39
  · subst h9
    rw [noF_39, noF_39]
    by_cases c : p = r * 5 * 32 + kd * 32 + n
    · subst c
      rw [Nat.add_sub_cancel_left, h, if_neg (by simp), if_neg (by simp)]
    · by_cases c2 : r * 5 * 32 + kd * 32 ≤ p ∧ p < r * 5 * 32 + kd * 32 + n ∧ bt x (p - (r * 5 * 32 + kd * 32)) = true
      · rw [if_pos c2, if_pos ⟨c2.1, by omega, c2.2.2⟩]
      · rw [if_neg c2, if_neg (fun z => c2 ⟨z.1, by omega, z.2.2⟩)]
  · by_cases h8 : q = 38
    · subst h8
      rw [noF_38, noF_38]
      by_cases c : p = kd * 32 + n
      · subst c
        rw [Nat.add_sub_cancel_left, h, if_neg (by simp), if_neg (by simp)]
      · by_cases c2 : kd * 32 ≤ p ∧ p < kd * 32 + n ∧ bt x (p - kd * 32) = true ∧ (sg 38 p = -1 ∨ nI m < sg 38 p)
        · rw [if_pos c2, if_pos ⟨c2.1, by omega, c2.2.2⟩]
        · rw [if_neg c2, if_neg (fun z => c2 ⟨z.1, by omega, z.2.2⟩)]
    · rw [noF_n h9 h8, noF_n h9 h8]
theorem noF_at {sg : SG} {r kd : Nat} {x : Int32} {m n : Nat} : noF sg r kd x m n 39 (r * 5 * 32 + (kd * 32 + n)) = sg 39 (r * 5 * 32 + (kd * 32 + n)) ∧ noF sg r kd x m n 38 (kd * 32 + n) = sg 38 (kd * 32 + n) := by
  rw [noF_39, noF_38, if_neg (by omega), if_neg (by omega)]
  exact ⟨rfl, rfl⟩
theorem noF_c {sg : SG} {r kd : Nat} {x : Int32} {m n : Nat} (h : bt x n = true) : sup (noF sg r kd x m n) 39 (r * 5 * 32 + (kd * 32 + n)) (sg 39 (r * 5 * 32 + (kd * 32 + n)) + nI 1) 39 = noF sg r kd x m (n + 1) 39 := by
  rw [sup_s]
  funext p
  rw [noF_39]
  unfold upd
  by_cases c : p = r * 5 * 32 + (kd * 32 + n)
  · subst c
    rw [if_pos rfl, if_pos ⟨by omega, by omega, by rw [show r * 5 * 32 + (kd * 32 + n) - (r * 5 * 32 + kd * 32) = n by omega]; exact h⟩]
  · rw [if_neg c, noF_39]
    by_cases c2 : r * 5 * 32 + kd * 32 ≤ p ∧ p < r * 5 * 32 + kd * 32 + n ∧ bt x (p - (r * 5 * 32 + kd * 32)) = true
    · rw [if_pos c2, if_pos ⟨c2.1, by omega, c2.2.2⟩]
    · rw [if_neg c2, if_neg (fun z => c2 ⟨z.1, by omega, z.2.2⟩)]
theorem noF_hit {sg : SG} {r kd : Nat} {x : Int32} {m n : Nat} (h : bt x n = true) (hl : sg 38 (kd * 32 + n) = -1 ∨ nI m < sg 38 (kd * 32 + n)) : sup (sup (noF sg r kd x m n) 39 (r * 5 * 32 + (kd * 32 + n)) (sg 39 (r * 5 * 32 + (kd * 32 + n)) + nI 1)) 38 (kd * 32 + n) (nI m) = noF sg r kd x m (n + 1) := by
  funext q
  by_cases h9 : q = 39
  · subst h9
    rw [sup_n (by decide), noF_c h]
  · by_cases h8 : q = 38
    · subst h8
      rw [sup_s, sup_n (by decide)]
      funext p
      rw [noF_38]
      unfold upd
      by_cases c : p = kd * 32 + n
      · subst c
        rw [if_pos rfl, if_pos ⟨by omega, by omega, by rw [Nat.add_sub_cancel_left]; exact h, hl⟩]
      · rw [if_neg c, noF_38]
        by_cases c2 : kd * 32 ≤ p ∧ p < kd * 32 + n ∧ bt x (p - kd * 32) = true ∧ (sg 38 p = -1 ∨ nI m < sg 38 p)
        · rw [if_pos c2, if_pos ⟨c2.1, by omega, c2.2.2⟩]
        · rw [if_neg c2, if_neg (fun z => c2 ⟨z.1, by omega, z.2.2⟩)]
    · rw [sup_n h8, sup_n h9, noF_n h9 h8, noF_n h9 h8]
theorem noF_keep {sg : SG} {r kd : Nat} {x : Int32} {m n : Nat} (h : bt x n = true) (hl : ¬ (sg 38 (kd * 32 + n) = -1 ∨ nI m < sg 38 (kd * 32 + n))) : sup (noF sg r kd x m n) 39 (r * 5 * 32 + (kd * 32 + n)) (sg 39 (r * 5 * 32 + (kd * 32 + n)) + nI 1) = noF sg r kd x m (n + 1) := by
  funext q
  by_cases h9 : q = 39
  · subst h9
    rw [noF_c h]
  · by_cases h8 : q = 38
    · subst h8
      rw [sup_n (by decide)]
      funext p
      rw [noF_38, noF_38]
      by_cases c : p = kd * 32 + n
      · subst c
        rw [if_neg (fun z => hl z.2.2.2), if_neg (fun z => hl z.2.2.2)]
      · by_cases c2 : kd * 32 ≤ p ∧ p < kd * 32 + n ∧ bt x (p - kd * 32) = true ∧ (sg 38 p = -1 ∨ nI m < sg 38 p)
        · rw [if_pos c2, if_pos ⟨c2.1, by omega, c2.2.2⟩]
        · rw [if_neg c2, if_neg (fun z => c2 ⟨z.1, by omega, z.2.2⟩)]
    · rw [sup_n h9, noF_n h9 h8, noF_n h9 h8]
theorem b_and1 (x : Int32) : x &&& nI 1 = 0 ↔ bt x 0 = false := by
  have h1 : ∀ j, j < 32 → bt (nI 1) j = decide (j = 0) := by decide +kernel
  constructor
  · intro h
    have : bt (x &&& nI 1) 0 = bt 0 0 := by rw [h]
    rw [b_and, h1 0 (by decide), b_0] at this
    simpa using this
  · intro h
    refine b_ext (fun i hi => ?_)
    rw [b_and, h1 i hi, b_0]
    by_cases e : i = 0
    · subst e; simp [h]
    · simp [e]
theorem k_T_note (w : WC) (l : Launch) (sg : SG) {r kd m : Nat} (x : Int32) (hr : r < 40) (hk : kd < 5) : ew_M qS w l qy_T_note qw_T_note qr_T_note [.inr 37, .inl (nI r), .inl (nI kd), .inl x, .inl (nI m)] sg (fun v sg' => v = none ∧ sg' = noF sg r kd x m 32) := by
  refine ew_entry (ws' := qwg) (own := qR_T) (cc := qc_T_note) (nL := 8) (ret := none) qnk (by decide) rfl rfl (Nat.le_of_ble_eq_true rfl) ?_
  intro k g hp
  have key : ∀ (d i : Nat) (rest : Int32) (x7 : Option MV), i + d = 32 → (∀ t, bt rest t = bt x (i + t)) → ew_E qS w 8 k 6 [some (.inr 37), some (.inl (nI r)), some (.inl (nI kd)), some (.inl x), some (.inl (nI m)), some (.inl rest), some (.inl (nI i)), x7] [] (noF sg r kd x m i) := by
    intro d
    induction d with
    | zero =>
      intro i rest x7 hi hb
      refine ew_iload g qd_T_note_6 rfl ?_
      refine ew_bipush g qd_T_note_8 bp_32 ?_
      refine en_ge g qd_T_note_10 (tgt := 96) (by decide) (by omega) (by omega) (fun h => ?_) (fun h => ?_)
      · refine ew_vret g qd_T_note_96 hp ?_
        have e : i = 32 := by omega
        rw [e]
        exact ⟨rfl, rfl⟩
      · omega
    | succ d ih =>
      intro i rest x7 hi hb
      refine ew_iload g qd_T_note_6 rfl ?_
      refine ew_bipush g qd_T_note_8 bp_32 ?_
      refine en_ge g qd_T_note_10 (tgt := 96) (by decide) (by omega) (by omega) (fun h => ?_) (fun h => ?_)
      · omega
      · refine ew_iload g qd_T_note_13 rfl ?_
        have hnx : ∀ t, bt ((rest.toUInt32 >>> ((nI 1).toUInt32 &&& Int32.toUInt32 31)).toInt32) t = bt x (i + 1 + t) := fun t => by rw [b_ushr 1 (by decide), hb, Nat.add_assoc]
        refine ew_if_eq g qd_T_note_15 (tgt := 96) (by decide) (fun hz => ?_) (fun hz => ?_)
        · refine ew_vret g qd_T_note_96 hp ?_
          refine ⟨rfl, noF_z (fun t h1 h2 => ?_) (by omega)⟩
          have := hb (t - i)
          rw [hz, b_0, show i + (t - i) = t by omega] at this
          exact this.symm
        · refine ew_iload g qd_T_note_18 rfl ?_
          refine ew_iconst g qd_T_note_20 ic_1 ?_
          refine ew_iand g qd_T_note_21 ?_
          have hb0 : bt rest 0 = bt x i := hb 0
          have h84 : ∀ (x7 : Option MV) (sg1 : SG), sg1 = noF sg r kd x m (i + 1) → ew_E qS w 8 k 84 [some (.inr 37), some (.inl (nI r)), some (.inl (nI kd)), some (.inl x), some (.inl (nI m)), some (.inl rest), some (.inl (nI i)), x7] [] sg1 := by
            intro x7 sg1 e
            subst e
            refine ew_iload g qd_T_note_84 rfl ?_
            refine ew_iconst g qd_T_note_86 ic_1 ?_
            refine ew_iushr g qd_T_note_87 rfl ?_
            refine ew_istore g qd_T_note_88 (by decide) ?_
            refine ew_iinc g qd_T_note_90 (by decide) rfl (ii_1 _) ?_
            refine ew_goto g qd_T_note_93 (tgt := 6) (by decide) ?_
            exact ih (i + 1) _ x7 (by omega) hnx
          refine ew_if_eq g qd_T_note_22 (tgt := 84) (by decide) (fun hbit => ?_) (fun hbit => ?_)
          · exact h84 x7 _ (noF_no (by rw [← hb0]; exact (b_and1 rest).mp hbit))
          · have hx1 : bt x i = true := by
              rw [← hb0]
              cases hq : bt rest 0 with
              | true => rfl
              | false => exact absurd ((b_and1 rest).mpr hq) hbit
            refine ew_iload_n g qd_T_note_25 rfl ?_
            refine ew_bipush g qd_T_note_26 bp_32 ?_
            refine ew_imul g qd_T_note_28 ?_
            refine en_top (pk_mul _ _) ?_
            refine ew_iload g qd_T_note_29 rfl ?_
            refine ew_iadd g qd_T_note_31 ?_
            refine en_top (nI_add _ _) ?_
            refine ew_istore g qd_T_note_32 (by decide) ?_
            refine ew_aload_n g qd_T_note_34 rfl ?_
            refine ew_getR g qd_T_note_35 qf_T_15 (by decide) rfl rfl ?_
            refine ew_iload_n g qd_T_note_38 rfl ?_
            refine ew_iconst g qd_T_note_39 ic_5 ?_
            refine ew_imul g qd_T_note_40 ?_
            refine en_top (pk_mul _ _) ?_
            refine ew_bipush g qd_T_note_41 bp_32 ?_
            refine ew_imul g qd_T_note_43 ?_
            refine en_top (pk_mul _ _) ?_
            refine ew_iload g qd_T_note_44 rfl ?_
            refine ew_iadd g qd_T_note_46 ?_
            refine en_top (nI_add _ _) ?_
            refine ew_dup2 g qd_T_note_47 ?_
            refine en_iald g qd_T_note_48 (by decide) rfl (by omega) (by omega) noF_at.1 ?_
            refine ew_iconst g qd_T_note_49 ic_1 ?_
            refine ew_iadd g qd_T_note_50 ?_
            refine en_iast g qd_T_note_51 (by decide) rfl (by omega) (by omega) ?_
            refine ew_aload_n g qd_T_note_52 rfl ?_
            refine ew_getR g qd_T_note_53 qf_T_9 (by decide) rfl rfl ?_
            refine ew_iload g qd_T_note_56 rfl ?_
            refine en_iald g qd_T_note_58 (by decide) rfl (by omega) (by omega) (show sup (noF sg r kd x m i) 39 (r * 5 * 32 + (kd * 32 + i)) _ 38 (kd * 32 + i) = sg 38 (kd * 32 + i) by rw [sup_n (by decide)]; exact noF_at.2) ?_
            refine ew_iconst g qd_T_note_59 ic_m1 ?_
            refine ew_icmp_eq g qd_T_note_60 (tgt := 75) (by decide) (fun hm1 => ?_) (fun hm1 => ?_)
            · refine ew_aload_n g qd_T_note_75 rfl ?_
              refine ew_getR g qd_T_note_76 qf_T_9 (by decide) rfl rfl ?_
              refine ew_iload g qd_T_note_79 rfl ?_
              refine ew_iload g qd_T_note_81 rfl ?_
              refine en_iast g qd_T_note_83 (by decide) rfl (by omega) (by omega) ?_
              exact h84 _ _ (noF_hit hx1 (Or.inl hm1))
            · refine ew_iload g qd_T_note_63 rfl ?_
              refine ew_aload_n g qd_T_note_65 rfl ?_
              refine ew_getR g qd_T_note_66 qf_T_9 (by decide) rfl rfl ?_
              refine ew_iload g qd_T_note_69 rfl ?_
              refine en_iald g qd_T_note_71 (by decide) rfl (by omega) (by omega) (show sup (noF sg r kd x m i) 39 (r * 5 * 32 + (kd * 32 + i)) _ 38 (kd * 32 + i) = sg 38 (kd * 32 + i) by rw [sup_n (by decide)]; exact noF_at.2) ?_
              refine ew_icmp_ge g qd_T_note_72 (tgt := 84) (by decide) (fun hge => ?_) (fun hge => ?_)
              · exact h84 _ _ (noF_keep hx1 (fun z => by rcases z with z | z; exact hm1 z; exact Int32.not_lt.mpr hge z))
              · refine ew_aload_n g qd_T_note_75 rfl ?_
                refine ew_getR g qd_T_note_76 qf_T_9 (by decide) rfl rfl ?_
                refine ew_iload g qd_T_note_79 rfl ?_
                refine ew_iload g qd_T_note_81 rfl ?_
                refine en_iast g qd_T_note_83 (by decide) rfl (by omega) (by omega) ?_
                exact h84 _ _ (noF_hit hx1 (Or.inr (Int32.not_le.mp hge)))
  refine ew_iload_n g qd_T_note_0 rfl ?_
  refine ew_istore g qd_T_note_1 (by decide) ?_
  refine ew_iconst g qd_T_note_3 ic_0 ?_
  refine ew_istore g qd_T_note_4 (by decide) ?_
  exact en_sg (noF_0 sg r kd x m).symm (key 32 0 x _ rfl (fun t => by rw [Nat.zero_add]))
theorem k_T_leastOf (w : WC) (l : Launch) (sg : SG) {kd i : Nat} (hk : kd < 5) (hi : i < 32) : ew_M qS w l qy_T_leastOf qw_T_leastOf qr_T_leastOf [.inr 37, .inl (nI kd), .inl (nI i)] sg (fun v sg' => v = some (.inl (sg 38 (kd * 32 + i))) ∧ sg' = sg) := by
  refine ew_entry (ws' := qwg) (own := qR_T) (cc := qc_T_leastOf) (nL := 3) (ret := some .int) qnk (by decide) rfl rfl (Nat.le_of_ble_eq_true rfl) ?_
  intro k g hp
  refine ew_aload_n g qd_T_leastOf_0 rfl ?_
  refine ew_getR g qd_T_leastOf_1 qf_T_9 (by decide) rfl rfl ?_
  refine ew_iload_n g qd_T_leastOf_4 rfl ?_
  refine ew_bipush g qd_T_leastOf_5 bp_32 ?_
  refine ew_imul g qd_T_leastOf_7 ?_
  refine en_top (pk_mul _ _) ?_
  refine ew_iload_n g qd_T_leastOf_8 rfl ?_
  refine ew_iadd g qd_T_leastOf_9 ?_
  refine en_top (nI_add _ _) ?_
  refine en_iald g qd_T_leastOf_10 (by decide) rfl (by omega) (by omega) rfl ?_
  refine ew_iret g qd_T_leastOf_11 hp ?_
  exact ⟨rfl, rfl⟩
theorem k_T_countOf (w : WC) (l : Launch) (sg : SG) {r kd i : Nat} (hr : r < 40) (hk : kd < 5) (hi : i < 32) : ew_M qS w l qy_T_countOf qw_T_countOf qr_T_countOf [.inr 37, .inl (nI r), .inl (nI kd), .inl (nI i)] sg (fun v sg' => v = some (.inl (sg 39 (r * 5 * 32 + (kd * 32 + i)))) ∧ sg' = sg) := by
  have e : (r * 5 + kd) * 32 + i = r * 5 * 32 + (kd * 32 + i) := by omega
  refine ew_entry (ws' := qwg) (own := qR_T) (cc := qc_T_countOf) (nL := 4) (ret := some .int) qnk (by decide) rfl rfl (Nat.le_of_ble_eq_true rfl) ?_
  intro k g hp
  refine ew_aload_n g qd_T_countOf_0 rfl ?_
  refine ew_getR g qd_T_countOf_1 qf_T_15 (by decide) rfl rfl ?_
  refine ew_iload_n g qd_T_countOf_4 rfl ?_
  refine ew_iconst g qd_T_countOf_5 ic_5 ?_
  refine ew_imul g qd_T_countOf_6 ?_
  refine en_top (pk_mul _ _) ?_
  refine ew_iload_n g qd_T_countOf_7 rfl ?_
  refine ew_iadd g qd_T_countOf_8 ?_
  refine en_top (nI_add _ _) ?_
  refine ew_bipush g qd_T_countOf_9 bp_32 ?_
  refine ew_imul g qd_T_countOf_11 ?_
  refine en_top (pk_mul _ _) ?_
  refine ew_iload_n g qd_T_countOf_12 rfl ?_
  refine ew_iadd g qd_T_countOf_13 ?_
  refine en_top (nI_add _ _) ?_
  refine en_iald g qd_T_countOf_14 (by decide) rfl (by omega) (by omega) rfl ?_
  refine ew_iret g qd_T_countOf_15 hp ?_
  rw [e]
  exact ⟨rfl, rfl⟩
theorem k_T_forget (w : WC) (l : Launch) (sg : SG) : ew_M qS w l qy_T_forget qw_T_forget qr_T_forget [.inr 37] sg (fun v sg' => v = none ∧ sg' = sfil (sfil sg 38 160 (-1)) 39 6400 (nI 0)) := by
  refine ew_entry (ws' := qwg) (own := qR_T) (cc := qc_T_forget) (nL := 1) (ret := none) qnk (by decide) rfl rfl (Nat.le_of_ble_eq_true rfl) ?_
  intro k g hp
  refine ew_aload_n g qd_T_forget_0 rfl ?_
  refine ew_getR g qd_T_forget_1 qf_T_9 (by decide) rfl rfl ?_
  refine ew_iconst g qd_T_forget_4 ic_m1 ?_
  refine ew_callS g qd_T_forget_5 (k_A_fill w k.2.1 _ (-1) (o := 38) (n := 160) (by decide) rfl (by decide)) qs_T_18 rfl rfl (Nat.le_of_ble_eq_true rfl) ⟨rfl, rfl, by decide, by decide⟩ (fun v sg1 hv => ?_)
  obtain ⟨rfl, rfl⟩ := hv
  refine ew_aload_n g qd_T_forget_8 rfl ?_
  refine ew_getR g qd_T_forget_9 qf_T_15 (by decide) rfl rfl ?_
  refine ew_iconst g qd_T_forget_12 ic_0 ?_
  refine ew_callS g qd_T_forget_13 (k_A_fill w k.2.1 _ (nI 0) (o := 39) (n := 6400) (by decide) rfl (by decide)) qs_T_18 rfl rfl (Nat.le_of_ble_eq_true rfl) ⟨rfl, rfl, by decide, by decide⟩ (fun v sg1 hv => ?_)
  obtain ⟨rfl, rfl⟩ := hv
  refine ew_vret g qd_T_forget_16 hp ?_
  exact ⟨rfl, rfl⟩
theorem k_P_forget (w : WC) (l : Launch) (sg : SG) : ew_M qS w l qy_P_forget qw_P_forget qr_P_forget [.inr 28] sg (fun v sg' => v = none ∧ sg' = sfil (sup sg 28 8 (nI 0)) 29 1600 (-1)) := by
  refine ew_entry (ws' := qwg) (own := qR_P) (cc := qc_P_forget) (nL := 1) (ret := none) qnk (by decide) rfl rfl (Nat.le_of_ble_eq_true rfl) ?_
  intro k g hp
  refine ew_aload_n g qd_P_forget_0 rfl ?_
  refine ew_iconst g qd_P_forget_1 ic_0 ?_
  refine ew_put g qd_P_forget_2 qf_P_36 (qp_P_count _) (by decide) rfl rfl ?_
  refine ew_aload_n g qd_P_forget_5 rfl ?_
  refine ew_getR g qd_P_forget_6 qf_P_9 (by decide) rfl rfl ?_
  refine ew_iconst g qd_P_forget_9 ic_m1 ?_
  refine ew_callS g qd_P_forget_10 (k_A_fill w k.2.1 _ (-1) (o := 29) (n := 1600) (by decide) rfl (by decide)) qs_P_40 rfl rfl (Nat.le_of_ble_eq_true rfl) ⟨rfl, rfl, by decide, by decide⟩ (fun v sg1 hv => ?_)
  obtain ⟨rfl, rfl⟩ := hv
  refine ew_vret g qd_P_forget_13 hp ?_
  exact ⟨rfl, rfl⟩
theorem k_P_rowOf (w : WC) (l : Launch) (sg : SG) {n : Nat} (x : Int32) (hc : sg 28 8 = nI n) (hn : n ≤ 40) : ew_M qS w l qy_P_rowOf qw_P_rowOf qr_P_rowOf [.inr 28, .inl x] sg (fun v sg' => v = some (.inl (match inR x n with | some j => sg 36 j | none => -1)) ∧ sg' = sg) := by
  refine ew_entry (ws' := qwg) (own := qR_P) (cc := qc_P_rowOf) (nL := 2) (ret := some .int) qnk (by decide) rfl rfl (Nat.le_of_ble_eq_true rfl) ?_
  intro k g hp
  refine ew_iload_n g qd_P_rowOf_0 rfl ?_
  refine ew_aload_n g qd_P_rowOf_1 rfl ?_
  refine ew_get g qd_P_rowOf_2 qf_P_36 (by decide) rfl rfl ?_
  refine en_top hc ?_
  refine ew_callS g qd_P_rowOf_5 (k_X_isBelow w k.2.1 sg _ _) qs_P_46 rfl rfl (Nat.le_of_ble_eq_true rfl) ⟨rfl, rfl, by decide, by decide⟩ (fun v sg1 hv => ?_)
  obtain ⟨rfl, rfl⟩ := hv
  rcases inR_cases x (n := n) (by omega) with ⟨hr, hn⟩ | ⟨i, hi, rfl, hr⟩
  · refine en_top (show _ = nI 0 by rw [decide_eq_false hn]; rfl) ?_
    refine en_if_eq g qd_P_rowOf_8 (tgt := 20) (by decide) (by omega) (fun hz => ?_) (fun hz => ?_)
    · refine ew_iconst g qd_P_rowOf_20 ic_m1 ?_
      refine ew_iret g qd_P_rowOf_21 hp ?_
      rw [hr]
      exact ⟨rfl, rfl⟩
    · exact absurd rfl hz
  · refine en_top (show _ = nI 1 by rw [decide_eq_true ⟨nI_pos' (by omega), nI_lt hi (by omega)⟩]; rfl) ?_
    refine en_if_eq g qd_P_rowOf_8 (tgt := 20) (by decide) (by omega) (fun hz => ?_) (fun hz => ?_)
    · exact absurd hz (by decide)
    · refine ew_aload_n g qd_P_rowOf_11 rfl ?_
      refine ew_getR g qd_P_rowOf_12 qf_P_33 (by decide) rfl rfl ?_
      refine ew_iload_n g qd_P_rowOf_15 rfl ?_
      refine en_iald g qd_P_rowOf_16 (by decide) rfl (by omega) (by omega) rfl ?_
      refine ew_goto g qd_P_rowOf_17 (tgt := 21) (by decide) ?_
      refine ew_iret g qd_P_rowOf_21 hp ?_
      rw [hr]
      exact ⟨rfl, rfl⟩
end
section
/-! the paths -/
def poF (sg : SG) (a b m : Nat) (st : Int32) (c : Nat) : SG := sup (sup (sup (sup (sup (sup (sup (sup sg 28 8 (nI (c + 1))) 29 (a * 40 + b) (nI c)) 30 c (nI a)) 31 c (nI b)) 32 c (nI 1)) 33 c (nI m)) 34 c st) 35 c (nI 0)
def pmB (sg : SG) (r : Nat) (st : Int32) : SG := sup (sup sg 32 r (sg 32 r + nI 1)) 35 r (sg 35 r ||| (sg 34 r ^^^ st))
def pmF (sg : SG) (r m : Nat) (st : Int32) (wt : Nat) : SG := if m < wt then sup (sup (pmB sg r st) 33 r (nI m)) 34 r st else pmB sg r st
theorem k_P_open (w : WC) (l : Launch) (sg : SG) {a b m c : Nat} (st : Int32) (hc : sg 28 8 = nI c) (hc4 : c ≤ 40) (ha : a < 40) (hb : b < 40) : ew_M qS w l qy_P_open qw_P_open qr_P_open [.inr 28, .inl (nI a), .inl (nI b), .inl (nI m), .inl st] sg (fun v sg' => (c < 40 ∧ v = some (.inl (nI c)) ∧ sg' = poF sg a b m st c) ∨ (c = 40 ∧ v = some (.inl (-1)) ∧ sg' = sg)) := by
  refine ew_entry (ws' := qwg) (own := qR_P) (cc := qc_P_open) (nL := 6) (ret := some .int) qnk (by decide) rfl rfl (Nat.le_of_ble_eq_true rfl) ?_
  intro k g hp
  refine ew_aload_n g qd_P_open_0 rfl ?_
  refine ew_get g qd_P_open_1 qf_P_36 (by decide) rfl rfl ?_
  refine en_top hc ?_
  refine ew_bipush g qd_P_open_4 bp_40 ?_
  refine en_lt g qd_P_open_6 (tgt := 11) (by decide) (by omega) (by omega) (fun h => ?_) (fun h => ?_)
  · refine ew_aload_n g qd_P_open_11 rfl ?_
    refine ew_get g qd_P_open_12 qf_P_36 (by decide) rfl rfl ?_
    refine en_top hc ?_
    refine ew_istore g qd_P_open_15 (by decide) ?_
    refine ew_aload_n g qd_P_open_17 rfl ?_
    refine ew_dup g qd_P_open_18 ?_
    refine ew_get g qd_P_open_19 qf_P_36 (by decide) rfl rfl ?_
    refine en_top hc ?_
    refine ew_iconst g qd_P_open_22 ic_1 ?_
    refine ew_iadd g qd_P_open_23 ?_
    refine en_top (nI_add _ _) ?_
    refine ew_put g qd_P_open_24 qf_P_36 (qp_P_count _) (by decide) rfl rfl ?_
    refine ew_aload_n g qd_P_open_27 rfl ?_
    refine ew_getR g qd_P_open_28 qf_P_9 (by decide) rfl rfl ?_
    refine ew_iload_n g qd_P_open_31 rfl ?_
    refine ew_bipush g qd_P_open_32 bp_40 ?_
    refine ew_imul g qd_P_open_34 ?_
    refine en_top (pk_mul _ _) ?_
    refine ew_iload_n g qd_P_open_35 rfl ?_
    refine ew_iadd g qd_P_open_36 ?_
    refine en_top (nI_add _ _) ?_
    refine ew_iload g qd_P_open_37 rfl ?_
    refine en_iast g qd_P_open_39 (by decide) rfl (by omega) (by omega) ?_
    refine ew_aload_n g qd_P_open_40 rfl ?_
    refine ew_getR g qd_P_open_41 qf_P_15 (by decide) rfl rfl ?_
    refine ew_iload g qd_P_open_44 rfl ?_
    refine ew_iload_n g qd_P_open_46 rfl ?_
    refine en_iast g qd_P_open_47 (by decide) rfl (by omega) (by omega) ?_
    refine ew_aload_n g qd_P_open_48 rfl ?_
    refine ew_getR g qd_P_open_49 qf_P_18 (by decide) rfl rfl ?_
    refine ew_iload g qd_P_open_52 rfl ?_
    refine ew_iload_n g qd_P_open_54 rfl ?_
    refine en_iast g qd_P_open_55 (by decide) rfl (by omega) (by omega) ?_
    refine ew_aload_n g qd_P_open_56 rfl ?_
    refine ew_getR g qd_P_open_57 qf_P_21 (by decide) rfl rfl ?_
    refine ew_iload g qd_P_open_60 rfl ?_
    refine ew_iconst g qd_P_open_62 ic_1 ?_
    refine en_iast g qd_P_open_63 (by decide) rfl (by omega) (by omega) ?_
    refine ew_aload_n g qd_P_open_64 rfl ?_
    refine ew_getR g qd_P_open_65 qf_P_24 (by decide) rfl rfl ?_
    refine ew_iload g qd_P_open_68 rfl ?_
    refine ew_iload_n g qd_P_open_70 rfl ?_
    refine en_iast g qd_P_open_71 (by decide) rfl (by omega) (by omega) ?_
    refine ew_aload_n g qd_P_open_72 rfl ?_
    refine ew_getR g qd_P_open_73 qf_P_27 (by decide) rfl rfl ?_
    refine ew_iload g qd_P_open_76 rfl ?_
    refine ew_iload g qd_P_open_78 rfl ?_
    refine en_iast g qd_P_open_80 (by decide) rfl (by omega) (by omega) ?_
    refine ew_aload_n g qd_P_open_81 rfl ?_
    refine ew_getR g qd_P_open_82 qf_P_30 (by decide) rfl rfl ?_
    refine ew_iload g qd_P_open_85 rfl ?_
    refine ew_iconst g qd_P_open_87 ic_0 ?_
    refine en_iast g qd_P_open_88 (by decide) rfl (by omega) (by omega) ?_
    refine ew_iload g qd_P_open_89 rfl ?_
    refine ew_iret g qd_P_open_91 hp ?_
    exact Or.inl ⟨h, rfl, rfl⟩
  · refine ew_iconst g qd_P_open_9 ic_m1 ?_
    refine ew_iret g qd_P_open_10 hp ?_
    exact Or.inr ⟨by omega, rfl, rfl⟩
theorem k_P_meet (w : WC) (l : Launch) (sg : SG) {a b m c : Nat} (st : Int32) (hc : sg 28 8 = nI c) (hc4 : c ≤ 40) (ha : a < 40) (hb : b < 40) (hm : m < 2 ^ 31) (h : sg 29 (a * 40 + b) = -1 ∨ ∃ r wt, r < 40 ∧ wt < 2 ^ 31 ∧ sg 29 (a * 40 + b) = nI r ∧ sg 33 r = nI wt) : ew_M qS w l qy_P_meet qw_P_meet qr_P_meet [.inr 28, .inl (nI a), .inl (nI b), .inl (nI m), .inl st] sg (fun v sg' => (sg 29 (a * 40 + b) = -1 ∧ ((c < 40 ∧ v = some (.inl (nI c)) ∧ sg' = poF sg a b m st c) ∨ (c = 40 ∧ v = some (.inl (-1)) ∧ sg' = sg))) ∨ ∃ r wt, r < 40 ∧ wt < 2 ^ 31 ∧ sg 29 (a * 40 + b) = nI r ∧ sg 33 r = nI wt ∧ v = some (.inl (nI r)) ∧ sg' = pmF sg r m st wt) := by
  refine ew_entry (ws' := qwg) (own := qR_P) (cc := qc_P_meet) (nL := 6) (ret := some .int) qnk (by decide) rfl rfl (Nat.le_of_ble_eq_true rfl) ?_
  intro k g hp
  rcases h with h | ⟨r, wt, hr, hwt, h, h33⟩
  · refine ew_aload_n g qd_P_meet_0 rfl ?_
    refine ew_getR g qd_P_meet_1 qf_P_9 (by decide) rfl rfl ?_
    refine ew_iload_n g qd_P_meet_4 rfl ?_
    refine ew_bipush g qd_P_meet_5 bp_40 ?_
    refine ew_imul g qd_P_meet_7 ?_
    refine en_top (pk_mul _ _) ?_
    refine ew_iload_n g qd_P_meet_8 rfl ?_
    refine ew_iadd g qd_P_meet_9 ?_
    refine en_top (nI_add _ _) ?_
    refine en_iald g qd_P_meet_10 (by decide) rfl (by omega) (by omega) h ?_
    refine ew_istore g qd_P_meet_11 (by decide) ?_
    refine ew_iload g qd_P_meet_13 rfl ?_
    refine ew_iconst g qd_P_meet_15 ic_m1 ?_
    refine ew_icmp_ne g qd_P_meet_16 (tgt := 29) (by decide) (fun hz => ?_) (fun hz => ?_)
    · exact absurd rfl hz
    · refine ew_aload_n g qd_P_meet_19 rfl ?_
      refine ew_iload_n g qd_P_meet_20 rfl ?_
      refine ew_iload_n g qd_P_meet_21 rfl ?_
      refine ew_iload_n g qd_P_meet_22 rfl ?_
      refine ew_iload g qd_P_meet_23 rfl ?_
      refine ew_callV g qd_P_meet_25 (k_P_open w k.2.1 sg st hc hc4 ha hb) qv_P_50 (by decide) rfl ⟨_, _, rfl⟩ rfl rfl (Nat.le_of_ble_eq_true rfl) ⟨rfl, rfl, by decide, by decide⟩ (fun v sg1 hv => ?_)
      rcases hv with ⟨q1, rfl, rfl⟩ | ⟨q1, rfl, rfl⟩
      · refine ew_iret g qd_P_meet_28 hp ?_
        exact Or.inl ⟨h, Or.inl ⟨q1, rfl, rfl⟩⟩
      · refine ew_iret g qd_P_meet_28 hp ?_
        exact Or.inl ⟨h, Or.inr ⟨q1, rfl, rfl⟩⟩
  · refine ew_aload_n g qd_P_meet_0 rfl ?_
    refine ew_getR g qd_P_meet_1 qf_P_9 (by decide) rfl rfl ?_
    refine ew_iload_n g qd_P_meet_4 rfl ?_
    refine ew_bipush g qd_P_meet_5 bp_40 ?_
    refine ew_imul g qd_P_meet_7 ?_
    refine en_top (pk_mul _ _) ?_
    refine ew_iload_n g qd_P_meet_8 rfl ?_
    refine ew_iadd g qd_P_meet_9 ?_
    refine en_top (nI_add _ _) ?_
    refine en_iald g qd_P_meet_10 (by decide) rfl (by omega) (by omega) h ?_
    refine ew_istore g qd_P_meet_11 (by decide) ?_
    refine ew_iload g qd_P_meet_13 rfl ?_
    refine ew_iconst g qd_P_meet_15 ic_m1 ?_
    refine ew_icmp_ne g qd_P_meet_16 (tgt := 29) (by decide) (fun hz => ?_) (fun hz => ?_)
    · refine ew_aload_n g qd_P_meet_29 rfl ?_
      refine ew_getR g qd_P_meet_30 qf_P_21 (by decide) rfl rfl ?_
      refine ew_iload g qd_P_meet_33 rfl ?_
      refine ew_dup2 g qd_P_meet_35 ?_
      refine en_iald g qd_P_meet_36 (by decide) rfl (by omega) (by omega) rfl ?_
      refine ew_iconst g qd_P_meet_37 ic_1 ?_
      refine ew_iadd g qd_P_meet_38 ?_
      refine en_iast g qd_P_meet_39 (by decide) rfl (by omega) (by omega) ?_
      refine ew_aload_n g qd_P_meet_40 rfl ?_
      refine ew_getR g qd_P_meet_41 qf_P_30 (by decide) rfl rfl ?_
      refine ew_iload g qd_P_meet_44 rfl ?_
      refine ew_dup2 g qd_P_meet_46 ?_
      refine en_iald g qd_P_meet_47 (by decide) rfl (by omega) (by omega) rfl ?_
      refine ew_aload_n g qd_P_meet_48 rfl ?_
      refine ew_getR g qd_P_meet_49 qf_P_27 (by decide) rfl rfl ?_
      refine ew_iload g qd_P_meet_52 rfl ?_
      refine en_iald g qd_P_meet_54 (by decide) rfl (by omega) (by omega) rfl ?_
      refine ew_iload g qd_P_meet_55 rfl ?_
      refine ew_ixor g qd_P_meet_57 ?_
      refine ew_ior g qd_P_meet_58 ?_
      refine en_iast g qd_P_meet_59 (by decide) rfl (by omega) (by omega) ?_
      refine ew_iload_n g qd_P_meet_60 rfl ?_
      refine ew_aload_n g qd_P_meet_61 rfl ?_
      refine ew_getR g qd_P_meet_62 qf_P_24 (by decide) rfl rfl ?_
      refine ew_iload g qd_P_meet_65 rfl ?_
      refine en_iald g qd_P_meet_67 (by decide) rfl (by omega) (by omega) (show _ = nI wt from h33) ?_
      refine en_sg (show _ = pmB sg r st from rfl) ?_
      refine en_ge g qd_P_meet_68 (tgt := 88) (by decide) (by omega) (by omega) (fun hge => ?_) (fun hge => ?_)
      · refine ew_iload g qd_P_meet_88 rfl ?_
        refine ew_iret g qd_P_meet_90 hp ?_
        refine Or.inr ⟨r, wt, hr, hwt, h, h33, rfl, ?_⟩
        unfold pmF
        rw [if_neg (by omega)]
      · refine ew_aload_n g qd_P_meet_71 rfl ?_
        refine ew_getR g qd_P_meet_72 qf_P_24 (by decide) rfl rfl ?_
        refine ew_iload g qd_P_meet_75 rfl ?_
        refine ew_iload_n g qd_P_meet_77 rfl ?_
        refine en_iast g qd_P_meet_78 (by decide) rfl (by omega) (by omega) ?_
        refine ew_aload_n g qd_P_meet_79 rfl ?_
        refine ew_getR g qd_P_meet_80 qf_P_27 (by decide) rfl rfl ?_
        refine ew_iload g qd_P_meet_83 rfl ?_
        refine ew_iload g qd_P_meet_85 rfl ?_
        refine en_iast g qd_P_meet_87 (by decide) rfl (by omega) (by omega) ?_
        refine ew_iload g qd_P_meet_88 rfl ?_
        refine ew_iret g qd_P_meet_90 hp ?_
        refine Or.inr ⟨r, wt, hr, hwt, h, h33, rfl, ?_⟩
        unfold pmF
        rw [if_pos hge]
    · exact absurd hz (nI_m1 (by omega))
def rbw (sg : SG) (ka kb : WKL) (rows : List KEY) (a b : Nat) : Prop := (∃ r q1 q2, ka[a]? = some q1 ∧ kb[b]? = some q2 ∧ rows[r]? = some (q1, q2) ∧ sg 29 (a * 40 + b) = nI r) ∨ ((∀ q1 q2, ka[a]? = some q1 → kb[b]? = some q2 → (q1, q2) ∉ rows) ∧ sg 29 (a * 40 + b) = -1)
def pRow (sg : SG) (ka kb : WKL) (D : Nat → Bool) (ky : Nat → KEY) (cel : Nat → Nat → Nat) (r : Nat) (q : KEY) : Prop := (∃ a, ka[a]? = some q.1 ∧ sg 30 r = nI a) ∧ (∃ b, kb[b]? = some q.2 ∧ sg 31 r = nI b) ∧ sg 32 r = nI (cntB 4096 (fun m => D m && decide (ky m = q))) ∧ ∃ wt, wt < 4096 ∧ D wt = true ∧ ky wt = q ∧ (∀ m, m < 4096 → D m = true → ky m = q → wt ≤ m) ∧ sg 33 r = nI wt ∧ sg 34 r = nI (pk5 (cel wt)) ∧ ∃ df, df < 1048576 ∧ sg 35 r = nI df ∧ ∀ i, i < 5 → (df / 2 ^ (4 * i) % 16 = 0 ↔ ∀ m, m < 4096 → D m = true → ky m = q → cel m i = cel wt i)
def pRel (sg : SG) (ka kb : WKL) (rows : List KEY) (D : Nat → Bool) (ky : Nat → KEY) (cel : Nat → Nat → Nat) : Prop := rows.length ≤ 40 ∧ sg 28 8 = nI rows.length ∧ rows.Nodup ∧ (∀ m, m < 4096 → D m = true → ky m ∈ rows) ∧ (∀ a b, a < 40 → b < 40 → rbw sg ka kb rows a b) ∧ ∀ (r : Nat) (q : KEY), rows[r]? = some q → pRow sg ka kb D ky cel r q
theorem nod_at {α : Type} {l : List α} (h : l.Nodup) {i j : Nat} {x : α} (hi : l[i]? = some x) (hj : l[j]? = some x) : i = j := by
  have h1 := (List.getElem?_eq_some_iff.mp hi)
  have h2 := (List.getElem?_eq_some_iff.mp hj)
  obtain ⟨l1, e1⟩ := h1
  obtain ⟨l2, e2⟩ := h2
  have hp := List.pairwise_iff_getElem.mp h
  rcases Nat.lt_trichotomy i j with z | z | z
  · exact absurd (e1.trans e2.symm) (hp i j l1 l2 z)
  · exact z
  · exact absurd (e2.trans e1.symm) (hp j i l2 l1 z)
theorem nib_or : ∀ x, x < 16 → ∀ y, y < 16 → (x ||| y = 0 ↔ x = 0 ∧ y = 0) := by decide +kernel
theorem nib_xor : ∀ x, x < 16 → ∀ y, y < 16 → (x ^^^ y = 0 ↔ x = y) := by decide +kernel
theorem nib_df {df i : Nat} {c c' : Nat → Nat} (hc : c16 c) (hc' : c16 c') (hi : i < 5) : (df ||| (pk5 c ^^^ pk5 c')) / 2 ^ (4 * i) % 16 = 0 ↔ df / 2 ^ (4 * i) % 16 = 0 ∧ c i = c' i := by
  have e16 : (16 : Nat) = 2 ^ 4 := rfl
  rw [Nat.or_div_two_pow, Nat.xor_div_two_pow, e16, Nat.or_mod_two_pow, Nat.xor_mod_two_pow, ← e16, pk5_nib hc hi, pk5_nib hc' hi]
  rw [nib_or _ (Nat.mod_lt _ (by decide)) _ (w_xor16 (hc i hi) (hc' i hi)), nib_xor _ (hc i hi) _ (hc' i hi)]
theorem pRow_keep {sg sg' : SG} {ka kb : WKL} {D : Nat → Bool} {ky : Nat → KEY} {cel : Nat → Nat → Nat} {r m : Nat} {q : KEY} (h : pRow sg ka kb D ky cel r q) (hm : m < 4096) (hD : D m = false) (hne : ky m ≠ q) (h0 : sg' 30 r = sg 30 r) (h1 : sg' 31 r = sg 31 r) (h2 : sg' 32 r = sg 32 r) (h3 : sg' 33 r = sg 33 r) (h4 : sg' 34 r = sg 34 r) (h5 : sg' 35 r = sg 35 r) : pRow sg' ka kb (dAdd D m) ky cel r q := by
  obtain ⟨p1, p2, p3, wt, w1, w2, w3, w4, w5, w6, df, d1, d2, d3⟩ := h
  have hor : ∀ j, dAdd D m j = true → ky j = q → D j = true := fun j hj hq => by
    rcases dAdd_or hj with z | z
    · exact z
    · exact absurd (z ▸ hq) hne
  unfold pRow
  rw [h0, h1, h2, h3, h4, h5]
  refine ⟨p1, p2, ?_, wt, w1, dAdd_t w2, w3, fun j hj hd hq => w4 j hj (hor j hd hq) hq, w5, w6, df, d1, d2, fun i hi => ?_⟩
  · rw [cntB_add hm hD, if_neg (by simp [hne]), Nat.add_zero]
    exact p3
  · rw [d3 i hi]
    exact ⟨fun z j hj hd hq => z j hj (hor j hd hq) hq, fun z j hj hd hq => z j hj (dAdd_t hd) hq⟩
theorem pRel_open {sg : SG} {ka kb : WKL} {rows : List KEY} {D : Nat → Bool} {ky : Nat → KEY} {cel : Nat → Nat → Nat} {a b m : Nat} (h : pRel sg ka kb rows D ky cel) (hm : m < 4096) (hD : D m = false) (ha : ka[a]? = some (ky m).1) (hb : kb[b]? = some (ky m).2) (ha4 : a < 40) (hb4 : b < 40) (hna : ka.Nodup) (hnb : kb.Nodup) (hni : ky m ∉ rows) (hl : rows.length < 40) : pRel (poF sg a b m (nI (pk5 (cel m))) rows.length) ka kb (rows ++ [ky m]) (dAdd D m) ky cel := by
  obtain ⟨r1, r2, r3, r4, r5, r6⟩ := h
  have o28 : poF sg a b m (nI (pk5 (cel m))) rows.length 28 = upd (sg 28) 8 (nI (rows.length + 1)) := by
    unfold poF
    simp only [sup_n (show (28 : Nat) ≠ 35 by decide), sup_n (show (28 : Nat) ≠ 34 by decide), sup_n (show (28 : Nat) ≠ 33 by decide), sup_n (show (28 : Nat) ≠ 32 by decide), sup_n (show (28 : Nat) ≠ 31 by decide), sup_n (show (28 : Nat) ≠ 30 by decide), sup_n (show (28 : Nat) ≠ 29 by decide), sup_s]
  have o29 : poF sg a b m (nI (pk5 (cel m))) rows.length 29 = upd (sg 29) (a * 40 + b) (nI rows.length) := by
    unfold poF
    simp only [sup_n (show (29 : Nat) ≠ 35 by decide), sup_n (show (29 : Nat) ≠ 34 by decide), sup_n (show (29 : Nat) ≠ 33 by decide), sup_n (show (29 : Nat) ≠ 32 by decide), sup_n (show (29 : Nat) ≠ 31 by decide), sup_n (show (29 : Nat) ≠ 30 by decide), sup_n (show (29 : Nat) ≠ 28 by decide), sup_s]
  have o30 : poF sg a b m (nI (pk5 (cel m))) rows.length 30 = upd (sg 30) rows.length (nI a) := by
    unfold poF
    simp only [sup_n (show (30 : Nat) ≠ 28 by decide), sup_n (show (30 : Nat) ≠ 29 by decide), sup_n (show (30 : Nat) ≠ 31 by decide), sup_n (show (30 : Nat) ≠ 32 by decide), sup_n (show (30 : Nat) ≠ 33 by decide), sup_n (show (30 : Nat) ≠ 34 by decide), sup_n (show (30 : Nat) ≠ 35 by decide), sup_s]
  have o31 : poF sg a b m (nI (pk5 (cel m))) rows.length 31 = upd (sg 31) rows.length (nI b) := by
    unfold poF
    simp only [sup_n (show (31 : Nat) ≠ 28 by decide), sup_n (show (31 : Nat) ≠ 29 by decide), sup_n (show (31 : Nat) ≠ 30 by decide), sup_n (show (31 : Nat) ≠ 32 by decide), sup_n (show (31 : Nat) ≠ 33 by decide), sup_n (show (31 : Nat) ≠ 34 by decide), sup_n (show (31 : Nat) ≠ 35 by decide), sup_s]
  have o32 : poF sg a b m (nI (pk5 (cel m))) rows.length 32 = upd (sg 32) rows.length (nI 1) := by
    unfold poF
    simp only [sup_n (show (32 : Nat) ≠ 28 by decide), sup_n (show (32 : Nat) ≠ 29 by decide), sup_n (show (32 : Nat) ≠ 30 by decide), sup_n (show (32 : Nat) ≠ 31 by decide), sup_n (show (32 : Nat) ≠ 33 by decide), sup_n (show (32 : Nat) ≠ 34 by decide), sup_n (show (32 : Nat) ≠ 35 by decide), sup_s]
  have o33 : poF sg a b m (nI (pk5 (cel m))) rows.length 33 = upd (sg 33) rows.length (nI m) := by
    unfold poF
    simp only [sup_n (show (33 : Nat) ≠ 28 by decide), sup_n (show (33 : Nat) ≠ 29 by decide), sup_n (show (33 : Nat) ≠ 30 by decide), sup_n (show (33 : Nat) ≠ 31 by decide), sup_n (show (33 : Nat) ≠ 32 by decide), sup_n (show (33 : Nat) ≠ 34 by decide), sup_n (show (33 : Nat) ≠ 35 by decide), sup_s]
  have o34 : poF sg a b m (nI (pk5 (cel m))) rows.length 34 = upd (sg 34) rows.length (nI (pk5 (cel m))) := by
    unfold poF
    simp only [sup_n (show (34 : Nat) ≠ 28 by decide), sup_n (show (34 : Nat) ≠ 29 by decide), sup_n (show (34 : Nat) ≠ 30 by decide), sup_n (show (34 : Nat) ≠ 31 by decide), sup_n (show (34 : Nat) ≠ 32 by decide), sup_n (show (34 : Nat) ≠ 33 by decide), sup_n (show (34 : Nat) ≠ 35 by decide), sup_s]
  have o35 : poF sg a b m (nI (pk5 (cel m))) rows.length 35 = upd (sg 35) rows.length (nI 0) := by
    unfold poF
    simp only [sup_n (show (35 : Nat) ≠ 28 by decide), sup_n (show (35 : Nat) ≠ 29 by decide), sup_n (show (35 : Nat) ≠ 30 by decide), sup_n (show (35 : Nat) ≠ 31 by decide), sup_n (show (35 : Nat) ≠ 32 by decide), sup_n (show (35 : Nat) ≠ 33 by decide), sup_n (show (35 : Nat) ≠ 34 by decide), sup_s]
  have hq : ∀ (r : Nat) (q : KEY), rows[r]? = some q → r < rows.length ∧ ky m ≠ q := fun r q hr => ⟨(List.getElem?_eq_some_iff.mp hr).1, fun z => hni (z ▸ List.mem_of_getElem? hr)⟩
  refine ⟨by simp; omega, by rw [o28, pk_us]; simp, List.nodup_append.mpr ⟨r3, by simp, fun x hx y hy => by simp at hy; subst hy; exact fun z => hni (z ▸ hx)⟩, fun j hj hd => ?_, fun a' b' ha' hb' => ?_, fun r q hr => ?_⟩
  · rcases dAdd_or hd with z | z
    · exact List.mem_append_left _ (r4 j hj z)
    · subst z; exact List.mem_append_right _ (List.mem_singleton.mpr rfl)
  · unfold rbw
    rw [o29]
    by_cases e : a' = a ∧ b' = b
    · obtain ⟨rfl, rfl⟩ := e
      left
      refine ⟨rows.length, (ky m).1, (ky m).2, ha, hb, ?_, pk_us⟩
      rw [List.getElem?_append_right (Nat.le_refl _), Nat.sub_self]
      rfl
    · rw [pk_un (by omega)]
      rcases r5 a' b' ha' hb' with ⟨r, q1, q2, z1, z2, z3, z4⟩ | ⟨z1, z2⟩
      · left
        refine ⟨r, q1, q2, z1, z2, ?_, z4⟩
        rw [List.getElem?_append_left (List.getElem?_eq_some_iff.mp z3).1]
        exact z3
      · right
        refine ⟨fun q1 q2 y1 y2 => ?_, z2⟩
        intro hmem
        rcases List.mem_append.mp hmem with y | y
        · exact z1 q1 q2 y1 y2 y
        · have y := List.mem_singleton.mp y
          rw [← y] at ha hb
          exact e ⟨nod_at hna y1 ha, nod_at hnb y2 hb⟩
  · by_cases hr' : r < rows.length
    · rw [List.getElem?_append_left hr'] at hr
      have hne : r ≠ rows.length := by omega
      exact pRow_keep (r6 r q hr) hm hD (hq r q hr).2 (by rw [o30, pk_un hne]) (by rw [o31, pk_un hne]) (by rw [o32, pk_un hne]) (by rw [o33, pk_un hne]) (by rw [o34, pk_un hne]) (by rw [o35, pk_un hne])
    · have hrl : r = rows.length := by
        have := (List.getElem?_eq_some_iff.mp hr).1
        simp at this
        omega
      subst hrl
      rw [List.getElem?_append_right (Nat.le_refl _), Nat.sub_self] at hr
      have hr : some (ky m) = some q := hr
      cases hr
      have hno : ∀ j, j < 4096 → D j = true → ky j ≠ ky m := fun j hj hd z => hni (z ▸ r4 j hj hd)
      have hon : ∀ j, j < 4096 → dAdd D m j = true → ky j = ky m → j = m := fun j hj hd z => by
        rcases dAdd_or hd with y | y
        · exact absurd z (hno j hj y)
        · exact y
      unfold pRow
      rw [o30, o31, o32, o33, o34, o35, pk_us, pk_us, pk_us, pk_us, pk_us, pk_us]
      refine ⟨⟨a, ha, rfl⟩, ⟨b, hb, rfl⟩, ?_, m, hm, dAdd_m D m, rfl, fun j hj hd z => by rw [hon j hj hd z]; exact Nat.le_refl _, rfl, rfl, 0, by decide, rfl, fun i hi => ?_⟩
      · rw [cntB_add hm hD, cntB_none (fun j hj => ?_)]
        · simp
        · cases hd : D j with
          | false => rfl
          | true => simp [hno j hj hd]
      · constructor
        · intro _ j hj hd z
          rw [hon j hj hd z]
        · intro _
          rw [Nat.zero_div]
theorem pRel_meet {sg : SG} {ka kb : WKL} {rows : List KEY} {D : Nat → Bool} {ky : Nat → KEY} {cel : Nat → Nat → Nat} {r m wt : Nat} (h : pRel sg ka kb rows D ky cel) (hm : m < 4096) (hD : D m = false) (hc : ∀ j, j < 4096 → c16 (cel j)) (hr : rows[r]? = some (ky m)) (hwt : sg 33 r = nI wt) (hw31 : wt < 2 ^ 31) : pRel (pmF sg r m (nI (pk5 (cel m))) wt) ka kb rows (dAdd D m) ky cel := by
  obtain ⟨r1, r2, r3, r4, r5, r6⟩ := h
  obtain ⟨p1, p2, p3, wt0, w1, w2, w3, w4, w5, w6, df, d1, d2, d3⟩ := r6 r _ hr
  have ewt : wt0 = wt := (nI_eq (by omega) hw31).mp (w5.symm.trans hwt)
  subst ewt
  have oo : ∀ o, o ≠ 32 → o ≠ 33 → o ≠ 34 → o ≠ 35 → pmF sg r m (nI (pk5 (cel m))) wt0 o = sg o := fun o h2 h3 h4 h5 => by
    unfold pmF pmB
    split
    · rw [sup_n h4, sup_n h3, sup_n h5, sup_n h2]
    · rw [sup_n h5, sup_n h2]
  have o32 : pmF sg r m (nI (pk5 (cel m))) wt0 32 = upd (sg 32) r (sg 32 r + nI 1) := by
    unfold pmF pmB
    split
    · rw [sup_n (by decide), sup_n (by decide), sup_n (by decide), sup_s]
    · rw [sup_n (by decide), sup_s]
  have o35 : pmF sg r m (nI (pk5 (cel m))) wt0 35 = upd (sg 35) r (sg 35 r ||| (sg 34 r ^^^ nI (pk5 (cel m)))) := by
    unfold pmF pmB
    split
    · rw [sup_n (by decide), sup_n (by decide), sup_s, sup_n (by decide)]
    · rw [sup_s, sup_n (by decide)]
  have o33 : pmF sg r m (nI (pk5 (cel m))) wt0 33 = if m < wt0 then upd (sg 33) r (nI m) else sg 33 := by
    unfold pmF pmB
    split
    · rw [sup_n (by decide), sup_s, sup_n (by decide), sup_n (by decide)]
    · rw [sup_n (by decide), sup_n (by decide)]
  have o34 : pmF sg r m (nI (pk5 (cel m))) wt0 34 = if m < wt0 then upd (sg 34) r (nI (pk5 (cel m))) else sg 34 := by
    unfold pmF pmB
    split
    · rw [sup_s, sup_n (by decide), sup_n (by decide), sup_n (by decide)]
    · rw [sup_n (by decide), sup_n (by decide)]
  refine ⟨r1, by rw [oo 28 (by decide) (by decide) (by decide) (by decide)]; exact r2, r3, fun j hj hd => ?_, fun a b ha hb => ?_, fun r' q hr' => ?_⟩
  · rcases dAdd_or hd with z | z
    · exact r4 j hj z
    · subst z; exact List.mem_of_getElem? hr
  · unfold rbw
    rw [oo 29 (by decide) (by decide) (by decide) (by decide)]
    exact r5 a b ha hb
  · by_cases er : r' = r
    · subst er
      rw [hr] at hr'
      cases hr'
      unfold pRow
      rw [oo 30 (by decide) (by decide) (by decide) (by decide), oo 31 (by decide) (by decide) (by decide) (by decide), o32, o35, pk_us, pk_us, p3, nI_inc, d2, w6, nx_xor, nx_or]
      have hcnt : cntB 4096 (fun j => dAdd D m j && decide (ky j = ky m)) = cntB 4096 (fun j => D j && decide (ky j = ky m)) + 1 := by
        rw [cntB_add hm hD]
        simp
      have hdf : df ||| (pk5 (cel wt0) ^^^ pk5 (cel m)) < 2 ^ 20 := Nat.or_lt_two_pow d1 (Nat.xor_lt_two_pow (hc wt0 w1).lt (hc m hm).lt)
      refine ⟨p1, p2, by rw [hcnt], ?_⟩
      by_cases hlt : m < wt0
      · refine ⟨m, hm, dAdd_m D m, rfl, fun j hj hd z => ?_, by rw [o33, if_pos hlt, pk_us], by rw [o34, if_pos hlt, pk_us], _, hdf, rfl, fun i hi => ?_⟩
        · rcases dAdd_or hd with y | y
          · have := w4 j hj y z; omega
          · omega
        · rw [nib_df (hc wt0 w1) (hc m hm) hi, d3 i hi]
          constructor
          · rintro ⟨z1, z2⟩ j hj hd hk
            rcases dAdd_or hd with y | y
            · rw [z1 j hj y hk, z2]
            · rw [y]
          · intro z
            have z0 := z wt0 w1 (dAdd_t w2) w3
            exact ⟨fun j hj hd hk => by rw [z j hj (dAdd_t hd) hk, z0], z0⟩
      · refine ⟨wt0, w1, dAdd_t w2, w3, fun j hj hd z => ?_, by rw [o33, if_neg hlt]; exact w5, by rw [o34, if_neg hlt]; exact w6, _, hdf, rfl, fun i hi => ?_⟩
        · rcases dAdd_or hd with y | y
          · exact w4 j hj y z
          · omega
        · rw [nib_df (hc wt0 w1) (hc m hm) hi, d3 i hi]
          constructor
          · rintro ⟨z1, z2⟩ j hj hd hk
            rcases dAdd_or hd with y | y
            · exact z1 j hj y hk
            · rw [y, z2]
          · intro z
            exact ⟨fun j hj hd hk => z j hj (dAdd_t hd) hk, (z m hm (dAdd_m D m) rfl).symm⟩
    · have hne : ky m ≠ q := fun z => er (nod_at r3 (z ▸ hr') hr)
      refine pRow_keep (r6 r' q hr') hm hD hne (by rw [oo 30 (by decide) (by decide) (by decide) (by decide)]) (by rw [oo 31 (by decide) (by decide) (by decide) (by decide)]) (by rw [o32, pk_un er]) ?_ ?_ (by rw [o35, pk_un er])
      · rw [o33]
        split
        · rw [pk_un er]
        · rfl
      · rw [o34]
        split
        · rw [pk_un er]
        · rfl
end
section
/-! the tally's relation; countFollowers -/
def tLe (sg : SG) (D : Nat → Bool) (fb : Nat → Nat → Nat → Bool) (kd i : Nat) : Prop := (sg 38 (kd * 32 + i) = -1 ∧ ∀ m, m < 4096 → D m = true → fb m kd i = false) ∨ ∃ lm, lm < 4096 ∧ D lm = true ∧ fb lm kd i = true ∧ (∀ m, m < 4096 → D m = true → fb m kd i = true → lm ≤ m) ∧ sg 38 (kd * 32 + i) = nI lm
def tK1 (sg : SG) (rows : List KEY) (D : Nat → Bool) (ky : Nat → KEY) (fb : Nat → Nat → Nat → Bool) (kd : Nat) : Prop := ∀ i, i < 32 → tLe sg D fb kd i ∧ ∀ r, r < 40 → sg 39 (r * 5 * 32 + (kd * 32 + i)) = nI (cntB 4096 (fun m => D m && (decide (rows[r]? = some (ky m)) && fb m kd i)))
theorem tK1_fr {sg sg' : SG} {rows : List KEY} {D : Nat → Bool} {ky : Nat → KEY} {fb : Nat → Nat → Nat → Bool} {kd : Nat} (h : tK1 sg rows D ky fb kd) (h8 : sg' 38 = sg 38) (h9 : sg' 39 = sg 39) : tK1 sg' rows D ky fb kd := by
  unfold tK1 tLe at h ⊢
  rw [h8, h9]
  exact h
theorem tK1_rows {sg : SG} {rows : List KEY} {D : Nat → Bool} {ky : Nat → KEY} {fb : Nat → Nat → Nat → Bool} {kd : Nat} {q : KEY} (h : tK1 sg rows D ky fb kd) (hq : ∀ j, j < 4096 → D j = true → ky j ≠ q) : tK1 sg (rows ++ [q]) D ky fb kd := by
  intro i hi
  obtain ⟨h1, h2⟩ := h i hi
  refine ⟨h1, fun r hr => ?_⟩
  rw [h2 r hr]
  refine congrArg nI (cntB_congr (fun j hj => ?_))
  cases hd : D j with
  | false => rfl
  | true =>
    have hne := hq j hj hd
    have e : (rows[r]? = some (ky j)) ↔ ((rows ++ [q])[r]? = some (ky j)) := by
      by_cases hl : r < rows.length
      · rw [List.getElem?_append_left hl]
      · rw [List.getElem?_append_right (by omega), List.getElem?_eq_none (by omega)]
        constructor
        · intro z; cases z
        · intro z
          have := List.mem_of_getElem? z
          exact absurd (List.mem_singleton.mp this) hne
    simp only [e]
theorem tK1_other {sg : SG} {rows : List KEY} {D : Nat → Bool} {ky : Nat → KEY} {fb : Nat → Nat → Nat → Bool} {kd kd' r m : Nat} {x : Int32} (h : tK1 sg rows D ky fb kd') (hne : kd' ≠ kd) (hk : kd < 5) (hk' : kd' < 5) : tK1 (noF sg r kd x m 32) rows D ky fb kd' := by
  intro i hi
  obtain ⟨h1, h2⟩ := h i hi
  have e8 : noF sg r kd x m 32 38 (kd' * 32 + i) = sg 38 (kd' * 32 + i) := by rw [noF_38, if_neg (by omega)]
  refine ⟨?_, fun r' hr' => ?_⟩
  · unfold tLe at h1 ⊢
    rw [e8]
    exact h1
  · rw [noF_39, if_neg (by omega)]
    exact h2 r' hr'
theorem tK1_note {sg : SG} {rows : List KEY} {D : Nat → Bool} {ky : Nat → KEY} {fb : Nat → Nat → Nat → Bool} {kd r m : Nat} {x : Int32} (h : tK1 sg rows D ky fb kd) (hm : m < 4096) (hD : D m = false) (hr : rows[r]? = some (ky m)) (hn : rows.Nodup) (hk : kd < 5) (hx : ∀ i, i < 32 → bt x i = fb m kd i) : tK1 (noF sg r kd x m 32) rows (dAdd D m) ky fb kd := by
  intro i hi
  obtain ⟨h1, h2⟩ := h i hi
  refine ⟨?_, fun r' hr' => ?_⟩
  · have e8 : noF sg r kd x m 32 38 (kd * 32 + i) = if fb m kd i = true ∧ (sg 38 (kd * 32 + i) = -1 ∨ nI m < sg 38 (kd * 32 + i)) then nI m else sg 38 (kd * 32 + i) := by
      rw [noF_38, Nat.add_sub_cancel_left, hx i hi]
      by_cases c : fb m kd i = true ∧ (sg 38 (kd * 32 + i) = -1 ∨ nI m < sg 38 (kd * 32 + i))
      · rw [if_pos c, if_pos ⟨by omega, by omega, c⟩]
      · rw [if_neg c, if_neg (fun z => c z.2.2)]
    unfold tLe
    rw [e8]
    cases hf : fb m kd i with
    | false =>
      rw [if_neg (by simp)]
      rcases h1 with ⟨z1, z2⟩ | ⟨lm, y1, y2, y3, y4, y5⟩
      · left
        refine ⟨z1, fun j hj hd => ?_⟩
        rcases dAdd_or hd with q | q
        · exact z2 j hj q
        · rw [q]; exact hf
      · right
        refine ⟨lm, y1, dAdd_t y2, y3, fun j hj hd q => ?_, y5⟩
        rcases dAdd_or hd with p | p
        · exact y4 j hj p q
        · rw [p, hf] at q; cases q
    | true =>
      right
      rcases h1 with ⟨z1, z2⟩ | ⟨lm, y1, y2, y3, y4, y5⟩
      · rw [if_pos ⟨rfl, Or.inl z1⟩]
        refine ⟨m, hm, dAdd_m D m, hf, fun j hj hd q => ?_, rfl⟩
        rcases dAdd_or hd with p | p
        · rw [z2 j hj p] at q; cases q
        · omega
      · rw [y5]
        by_cases hlt : m < lm
        · rw [if_pos ⟨rfl, Or.inr (nI_lt hlt (by omega))⟩]
          refine ⟨m, hm, dAdd_m D m, hf, fun j hj hd q => ?_, rfl⟩
          rcases dAdd_or hd with p | p
          · have := y4 j hj p q; omega
          · omega
        · rw [if_neg (fun z => by rcases z.2 with p | p; exact nI_m1 (by omega) p; exact nI_nlt (by omega) (by omega) p)]
          refine ⟨lm, y1, dAdd_t y2, y3, fun j hj hd q => ?_, rfl⟩
          rcases dAdd_or hd with p | p
          · exact y4 j hj p q
          · omega
  · rw [cntB_add hm hD, noF_39]
    by_cases er : r' = r
    · subst er
      have e1 : r' * 5 * 32 + (kd * 32 + i) - (r' * 5 * 32 + kd * 32) = i := by omega
      rw [e1, hx i hi, decide_eq_true hr]
      cases hf : fb m kd i with
      | true =>
        rw [if_pos ⟨by omega, by omega, rfl⟩, h2 r' hr', nI_inc, if_pos (by rfl)]
      | false =>
        rw [if_neg (by simp), h2 r' hr', if_neg (by simp), Nat.add_zero]
    · rw [if_neg (by omega), h2 r' hr', decide_eq_false (fun z => er (nod_at hn z hr)), if_neg (by simp), Nat.add_zero]
theorem pRel_fr {sg sg' : SG} {ka kb : WKL} {rows : List KEY} {D : Nat → Bool} {ky : Nat → KEY} {cel : Nat → Nat → Nat} (h : pRel sg ka kb rows D ky cel) (hf : ∀ o, 28 ≤ o → o ≤ 35 → sg' o = sg o) : pRel sg' ka kb rows D ky cel := by
  unfold pRel rbw pRow at h ⊢
  rw [hf 28 (by decide) (by decide), hf 29 (by decide) (by decide), hf 30 (by decide) (by decide), hf 31 (by decide) (by decide), hf 32 (by decide) (by decide), hf 33 (by decide) (by decide), hf 34 (by decide) (by decide), hf 35 (by decide) (by decide)]
  exact h
def dRng (D : Nat → Bool) (f n : Nat) : Nat → Bool := fun j => D j || (decide (f ≤ j) && decide (j < f + n))
theorem dRng_0 (D : Nat → Bool) (f : Nat) : dRng D f 0 = D := by
  funext j
  unfold dRng
  by_cases h : f ≤ j
  · have : ¬ j < f := by omega
    simp [this]
  · simp [h]
theorem dRng_s (D : Nat → Bool) (f n : Nat) : dAdd (dRng D f n) (f + n) = dRng D f (n + 1) := by
  funext j
  unfold dAdd dRng
  by_cases h : j = f + n
  · subst h; simp
  · by_cases h1 : f ≤ j
    · by_cases h2 : j < f + n
      · have : j < f + (n + 1) := by omega
        simp [h1, h2, this, h]
      · have : ¬ j < f + (n + 1) := by omega
        simp [h1, h2, this, h]
    · simp [h1, h]
theorem pRel_big {sg : SG} {ka kb : WKL} {rows : List KEY} {D : Nat → Bool} {ky : Nat → KEY} {cel : Nat → Nat → Nat} (h : pRel sg ka kb rows D ky cel) : ∀ x, x ∈ rows → ∃ j, j < 4096 ∧ D j = true ∧ ky j = x := by
  intro x hx
  obtain ⟨r, hr⟩ := List.getElem?_of_mem hx
  obtain ⟨-, -, -, wt, w1, w2, w3, -⟩ := h.2.2.2.2.2 r x hr
  exact ⟨wt, w1, w2, w3⟩
def eFr (sg sg' : SG) : Prop := ∀ o, o < 28 ∨ 39 < o ∨ o = 36 ∨ o = 37 → sg' o = sg o
theorem eFr.rf (sg : SG) : eFr sg sg := fun _ _ => rfl
theorem eFr.tr {a b c : SG} (h : eFr a b) (h' : eFr b c) : eFr a c := fun o q => (h' o q).trans (h o q)
theorem poF_fr {sg : SG} {a b m : Nat} {st : Int32} {c o : Nat} (h : o < 28 ∨ 35 < o) : poF sg a b m st c o = sg o := by
  unfold poF
  rw [sup_n (by omega), sup_n (by omega), sup_n (by omega), sup_n (by omega), sup_n (by omega), sup_n (by omega), sup_n (by omega), sup_n (by omega)]
theorem pmF_fr {sg : SG} {r m : Nat} {st : Int32} {wt o : Nat} (h : o < 28 ∨ 35 < o) : pmF sg r m st wt o = sg o := by
  unfold pmF pmB
  split
  · rw [sup_n (by omega), sup_n (by omega), sup_n (by omega), sup_n (by omega)]
  · rw [sup_n (by omega), sup_n (by omega)]
theorem k_E_countFollowers (w : WC) (l : Launch) (sg : SG) {f a0 : Nat} {fk : List Nat × Nat} {ff : Nat → Nat → Bool} {ka kb : WKL} {rows : List KEY} {D : Nat → Bool} {ky : Nat → KEY} {cel : Nat → Nat → Nat} {fb : Nat → Nat → Nat → Bool} {R : Nat → PM} (hf : f < 64) (h16 : sg 16 f = nI a0) (ha0 : ka[a0]? = some fk) (ha40 : a0 < 40) (hna : ka.Nodup) (h18 : ∀ kd, kd < 5 → ∀ i, i < 32 → bt (sg 18 (f * 5 + kd)) i = ff kd i) (hkb : yW sg 19 kb) (hB : ∀ j, j < 64 → bE sg 19 kb (R j) j) (hP : pRel sg ka kb rows D ky cel) (hT : ∀ kd, kd < 5 → tK1 sg rows D ky fb kd) (hc : ∀ j, j < 4096 → c16 (cel j)) (hky : ∀ j, j < 64 → ky (f * 64 + j) = (fk, tK (R j))) (hcel : ∀ j, j < 64 → cel (f * 64 + j) = pCe (R j)) (hfb : ∀ j, j < 64 → ∀ kd i, fb (f * 64 + j) kd i = (ff kd i || pFo (R j) kd i)) (hD : ∀ j, j < 64 → D (f * 64 + j) = false) : ew_M qS w l qy_E_countFollowers qw_E_countFollowers qr_E_countFollowers [.inr 9, .inl (nI f)] sg (fun v sg' => ((v = some (.inl (nI 1)) ∧ ∃ rows', pRel sg' ka kb rows' (dRng D (f * 64) 64) ky cel ∧ ∀ kd, kd < 5 → tK1 sg' rows' (dRng D (f * 64) 64) ky fb kd) ∨ (v = some (.inl (nI 0)) ∧ ∃ big : List KEY, big.Nodup ∧ big.length = 41 ∧ ∀ x, x ∈ big → ∃ j, j < 4096 ∧ dRng D (f * 64) 64 j = true ∧ ky j = x)) ∧ eFr sg sg') := by
  refine ew_entry (ws' := qwg) (own := qR_E) (cc := qc_E_countFollowers) (nL := 7) (ret := some .boolean) qnk (by decide) rfl rfl (Nat.le_of_ble_eq_true rfl) ?_
  intro k g hp
  have key : ∀ (d i : Nat) (sg1 : SG) (rows1 : List KEY) (x3 x4 x5 x6 : Option MV), i + d = 64 → pRel sg1 ka kb rows1 (dRng D (f * 64) i) ky cel → (∀ kd, kd < 5 → tK1 sg1 rows1 (dRng D (f * 64) i) ky fb kd) → eFr sg sg1 → ew_E qS w 7 k 2 [some (.inr 9), some (.inl (nI f)), some (.inl (nI i)), x3, x4, x5, x6] [] sg1 := by
    intro d
    induction d with
    | zero =>
      intro i sg1 rows1 x3 x4 x5 x6 hi hP1 hT1 hfr
      refine ew_iload_n g qd_E_countFollowers_2 rfl ?_
      refine ew_bipush g qd_E_countFollowers_3 bp_64 ?_
      refine en_ge g qd_E_countFollowers_5 (tgt := 126) (by decide) (by omega) (by omega) (fun h => ?_) (fun h => ?_)
      · refine ew_iconst g qd_E_countFollowers_126 ic_1 ?_
        refine ew_zret g qd_E_countFollowers_127 hp (by first | exact bI_nar _ | decide +kernel) ?_
        have e : i = 64 := by omega
        subst e
        exact ⟨Or.inl ⟨rfl, rows1, hP1, hT1⟩, hfr⟩
      · omega
    | succ d ih =>
      intro i sg1 rows1 x3 x4 x5 x6 hi hP1 hT1 hfr
      refine ew_iload_n g qd_E_countFollowers_2 rfl ?_
      refine ew_bipush g qd_E_countFollowers_3 bp_64 ?_
      refine en_ge g qd_E_countFollowers_5 (tgt := 126) (by decide) (by omega) (by omega) (fun h => ?_) (fun h => ?_)
      · omega
      · obtain ⟨⟨j0, hj0, e6⟩, e7, e8⟩ := hB i h
        have hj40 := hkb.1
        have hj0l := (List.getElem?_eq_some_iff.mp hj0).1
        have hD1 : dRng D (f * 64) i (f * 64 + i) = false := by
          unfold dRng
          rw [hD i h]
          simp
        have hm4 : f * 64 + i < 4096 := by omega
        have hr40 := hP1.1
        have hka : ka[a0]? = some (ky (f * 64 + i)).1 := by rw [hky i h]; exact ha0
        have hkb' : kb[j0]? = some (ky (f * 64 + i)).2 := by rw [hky i h]; exact hj0
        have hmeet : sg1 29 (a0 * 40 + j0) = -1 ∨ ∃ r wt, r < 40 ∧ wt < 2 ^ 31 ∧ sg1 29 (a0 * 40 + j0) = nI r ∧ sg1 33 r = nI wt := by
          rcases hP1.2.2.2.2.1 a0 j0 ha40 (by omega) with ⟨r, q1, q2, z1, z2, z3, z4⟩ | ⟨z1, z2⟩
          · right
            obtain ⟨-, -, -, wt, w1, -, -, -, w5, -⟩ := hP1.2.2.2.2.2 r _ z3
            exact ⟨r, wt, by have := (List.getElem?_eq_some_iff.mp z3).1; omega, by omega, z4, w5⟩
          · exact Or.inl z2
        refine ew_iload_n g qd_E_countFollowers_8 rfl ?_
        refine ew_bipush g qd_E_countFollowers_9 bp_64 ?_
        refine ew_imul g qd_E_countFollowers_11 ?_
        refine en_top (pk_mul _ _) ?_
        refine ew_iload_n g qd_E_countFollowers_12 rfl ?_
        refine ew_iadd g qd_E_countFollowers_13 ?_
        refine en_top (nI_add _ _) ?_
        refine ew_istore_n g qd_E_countFollowers_14 (by decide) ?_
        refine ew_aload_n g qd_E_countFollowers_15 rfl ?_
        refine ew_getR g qd_E_countFollowers_16 qf_E_24 (by decide) rfl rfl ?_
        refine ew_aload_n g qd_E_countFollowers_19 rfl ?_
        refine ew_getR g qd_E_countFollowers_20 qf_E_12 (by decide) rfl rfl ?_
        refine ew_getR g qd_E_countFollowers_23 qf_E_86 (by decide) rfl rfl ?_
        refine ew_iload_n g qd_E_countFollowers_26 rfl ?_
        refine en_iald g qd_E_countFollowers_27 (by decide) rfl (by omega) (by omega) (show sg1 16 f = nI a0 by rw [hfr 16 (by omega)]; exact h16) ?_
        refine ew_aload_n g qd_E_countFollowers_28 rfl ?_
        refine ew_getR g qd_E_countFollowers_29 qf_E_18 (by decide) rfl rfl ?_
        refine ew_getR g qd_E_countFollowers_32 qf_E_86 (by decide) rfl rfl ?_
        refine ew_iload_n g qd_E_countFollowers_35 rfl ?_
        refine en_iald g qd_E_countFollowers_36 (by decide) rfl (by omega) (by omega) (show sg1 25 i = nI j0 by rw [hfr 25 (by omega)]; exact e6) ?_
        refine ew_iload_n g qd_E_countFollowers_37 rfl ?_
        refine ew_aload_n g qd_E_countFollowers_38 rfl ?_
        refine ew_getR g qd_E_countFollowers_39 qf_E_18 (by decide) rfl rfl ?_
        refine ew_getR g qd_E_countFollowers_42 qf_E_55 (by decide) rfl rfl ?_
        refine ew_iload_n g qd_E_countFollowers_45 rfl ?_
        refine en_iald g qd_E_countFollowers_46 (by decide) rfl (by omega) (by omega) (show sg1 26 i = nI (pk5 (cel (f * 64 + i))) by rw [hfr 26 (by omega), hcel i h]; exact e7) ?_
        refine ew_callV g qd_E_countFollowers_47 (k_P_meet w k.2.1 sg1 (nI (pk5 (cel (f * 64 + i)))) hP1.2.1 hr40 ha40 (show j0 < 40 by omega) (show f * 64 + i < 2 ^ 31 by omega) hmeet) qv_E_89 (by decide) rfl ⟨_, _, rfl⟩ rfl rfl (Nat.le_of_ble_eq_true rfl) ⟨rfl, rfl, by decide, by decide⟩ (fun v sg2 hv => ?_)
        have hgo : ∀ (r : Nat) (rows2 : List KEY), v = some (.inl (nI r)) → r < 40 → pRel sg2 ka kb rows2 (dAdd (dRng D (f * 64) i) (f * 64 + i)) ky cel → (∀ kd, kd < 5 → tK1 sg2 rows2 (dRng D (f * 64) i) ky fb kd) → rows2[r]? = some (ky (f * 64 + i)) → eFr sg sg2 → ew_E qS w 7 k 50 [some (.inr 9), some (.inl (nI f)), some (.inl (nI i)), some (.inl (nI (f * 64 + i))), x4, x5, x6] [.inl (nI r)] sg2 := by
          intro r rows2 hv hr hP2 hT2 hrr hfr2
          refine ew_istore g qd_E_countFollowers_50 (by decide) ?_
          refine ew_iload g qd_E_countFollowers_52 rfl ?_
          refine ew_iconst g qd_E_countFollowers_54 ic_m1 ?_
          refine ew_icmp_ne g qd_E_countFollowers_55 (tgt := 60) (by decide) (fun hz => ?_) (fun hz => ?_)
          · have inner : ∀ (d' kd : Nat) (sg3 : SG) (y6 : Option MV), kd + d' = 5 → pRel sg3 ka kb rows2 (dAdd (dRng D (f * 64) i) (f * 64 + i)) ky cel → (∀ kd', kd' < kd → tK1 sg3 rows2 (dAdd (dRng D (f * 64) i) (f * 64 + i)) ky fb kd') → (∀ kd', kd ≤ kd' → kd' < 5 → tK1 sg3 rows2 (dRng D (f * 64) i) ky fb kd') → eFr sg sg3 → ew_E qS w 7 k 63 [some (.inr 9), some (.inl (nI f)), some (.inl (nI i)), some (.inl (nI (f * 64 + i))), some (.inl (nI r)), some (.inl (nI kd)), y6] [] sg3 := by
              intro d'
              induction d' with
              | zero =>
                intro kd sg3 y6 hkd hP3 hTa hTb hfr3
                refine ew_iload g qd_E_countFollowers_63 rfl ?_
                refine ew_iconst g qd_E_countFollowers_65 ic_5 ?_
                refine en_ge g qd_E_countFollowers_66 (tgt := 120) (by decide) (by omega) (by omega) (fun hh => ?_) (fun hh => ?_)
                · refine ew_iinc g qd_E_countFollowers_120 (by decide) rfl (ii_1 _) ?_
                  refine ew_goto g qd_E_countFollowers_123 (tgt := 2) (by decide) ?_
                  rw [dRng_s] at hP3 hTa
                  exact ih (i + 1) sg3 rows2 _ _ _ _ (by omega) hP3 (fun kd' hk' => hTa kd' (by omega)) hfr3
                · omega
              | succ d' ih' =>
                intro kd sg3 y6 hkd hP3 hTa hTb hfr3
                refine ew_iload g qd_E_countFollowers_63 rfl ?_
                refine ew_iconst g qd_E_countFollowers_65 ic_5 ?_
                refine en_ge g qd_E_countFollowers_66 (tgt := 120) (by decide) (by omega) (by omega) (fun hh => ?_) (fun hh => ?_)
                · omega
                · refine ew_aload_n g qd_E_countFollowers_69 rfl ?_
                  refine ew_getR g qd_E_countFollowers_70 qf_E_12 (by decide) rfl rfl ?_
                  refine ew_getR g qd_E_countFollowers_73 qf_E_93 (by decide) rfl rfl ?_
                  refine ew_iload_n g qd_E_countFollowers_76 rfl ?_
                  refine ew_iconst g qd_E_countFollowers_77 ic_5 ?_
                  refine ew_imul g qd_E_countFollowers_78 ?_
                  refine en_top (pk_mul _ _) ?_
                  refine ew_iload g qd_E_countFollowers_79 rfl ?_
                  refine ew_iadd g qd_E_countFollowers_81 ?_
                  refine en_top (nI_add _ _) ?_
                  refine en_iald g qd_E_countFollowers_82 (by decide) rfl (by omega) (by omega) (show sg3 18 (f * 5 + kd) = sg 18 (f * 5 + kd) by rw [hfr3 18 (by omega)]) ?_
                  refine ew_aload_n g qd_E_countFollowers_83 rfl ?_
                  refine ew_getR g qd_E_countFollowers_84 qf_E_18 (by decide) rfl rfl ?_
                  refine ew_getR g qd_E_countFollowers_87 qf_E_93 (by decide) rfl rfl ?_
                  refine ew_iload_n g qd_E_countFollowers_90 rfl ?_
                  refine ew_iconst g qd_E_countFollowers_91 ic_5 ?_
                  refine ew_imul g qd_E_countFollowers_92 ?_
                  refine en_top (pk_mul _ _) ?_
                  refine ew_iload g qd_E_countFollowers_93 rfl ?_
                  refine ew_iadd g qd_E_countFollowers_95 ?_
                  refine en_top (nI_add _ _) ?_
                  refine en_iald g qd_E_countFollowers_96 (by decide) rfl (by omega) (by omega) (show sg3 27 (i * 5 + kd) = sg 27 (i * 5 + kd) by rw [hfr3 27 (by omega)]) ?_
                  refine ew_ior g qd_E_countFollowers_97 ?_
                  refine ew_istore g qd_E_countFollowers_98 (by decide) ?_
                  refine ew_aload_n g qd_E_countFollowers_100 rfl ?_
                  refine ew_getR g qd_E_countFollowers_101 qf_E_31 (by decide) rfl rfl ?_
                  refine ew_iload g qd_E_countFollowers_104 rfl ?_
                  refine ew_iload g qd_E_countFollowers_106 rfl ?_
                  refine ew_iload g qd_E_countFollowers_108 rfl ?_
                  refine ew_iload_n g qd_E_countFollowers_110 rfl ?_
                  refine ew_callV g qd_E_countFollowers_111 (k_T_note w k.2.1 sg3 (m := f * 64 + i) (sg 18 (f * 5 + kd) ||| sg 27 (i * 5 + kd)) hr hh) qv_E_96 (by decide) rfl ⟨_, _, rfl⟩ rfl rfl (Nat.le_of_ble_eq_true rfl) ⟨rfl, rfl, by decide, by decide⟩ (fun v sg4 hv => ?_)
                  obtain ⟨rfl, rfl⟩ := hv
                  have hbits : ∀ t, t < 32 → bt (sg 18 (f * 5 + kd) ||| sg 27 (i * 5 + kd)) t = fb (f * 64 + i) kd t := fun t ht => by
                    rw [b_or, h18 kd hh t ht, hfb i h kd t]
                    rw [show bt (sg 27 (i * 5 + kd)) t = pFo (R i) kd t from e8 kd hh t ht]
                  refine ew_iinc g qd_E_countFollowers_114 (by decide) rfl (ii_1 _) ?_
                  refine ew_goto g qd_E_countFollowers_117 (tgt := 63) (by decide) ?_
                  refine ih' (kd + 1) _ _ (by omega) (pRel_fr hP3 (fun o q1 q2 => noF_n (by omega) (by omega))) (fun kd' hk' => ?_) (fun kd' hk1 hk2 => ?_) (fun o q => ?_)
                  · by_cases ek : kd' = kd
                    · subst ek
                      exact tK1_note (hTb kd' (Nat.le_refl _) hh) hm4 hD1 hrr hP3.2.2.1 hh hbits
                    · exact tK1_other (hTa kd' (by omega)) ek hh (by omega)
                  · exact tK1_other (hTb kd' (by omega) hk2) (by omega) hh hk2
                  · rw [noF_n (by omega) (by omega)]
                    exact hfr3 o q
            refine ew_iconst g qd_E_countFollowers_60 ic_0 ?_
            refine ew_istore g qd_E_countFollowers_61 (by decide) ?_
            exact inner 5 0 sg2 _ rfl hP2 (fun kd' hk' => absurd hk' (Nat.not_lt_zero kd')) (fun kd' _ hk' => hT2 kd' hk') hfr2
          · exact absurd hz (nI_m1 (by omega))
        rcases hv with ⟨h29, hv⟩ | ⟨r, wt, hr, hwt, h29, h33, rfl, rfl⟩
        · have hni : ky (f * 64 + i) ∉ rows1 := by
            rcases hP1.2.2.2.2.1 a0 j0 ha40 (by omega) with ⟨r, q1, q2, z1, z2, z3, z4⟩ | ⟨z1, z2⟩
            · rw [h29] at z4
              exact absurd z4.symm (nI_m1 (by have := (List.getElem?_eq_some_iff.mp z3).1; omega))
            · exact z1 _ _ hka hkb'
          rcases hv with ⟨hl4, rfl, rfl⟩ | ⟨hl4, rfl, rfl⟩
          · refine hgo rows1.length (rows1 ++ [ky (f * 64 + i)]) rfl hl4 (pRel_open hP1 hm4 hD1 hka hkb' ha40 (by omega) hna hkb.2.2.1 hni hl4) (fun kd hk => ?_) ?_ (fun o q => ?_)
            · exact tK1_fr (tK1_rows (hT1 kd hk) (fun j hj hd z => hni (z ▸ hP1.2.2.2.1 j hj hd))) (poF_fr (by omega)) (poF_fr (by omega))
            · rw [List.getElem?_append_right (Nat.le_refl _), Nat.sub_self]; rfl
            · rw [poF_fr (by omega)]
              exact hfr o q
          · refine ew_istore g qd_E_countFollowers_50 (by decide) ?_
            refine ew_iload g qd_E_countFollowers_52 rfl ?_
            refine ew_iconst g qd_E_countFollowers_54 ic_m1 ?_
            refine ew_icmp_ne g qd_E_countFollowers_55 (tgt := 60) (by decide) (fun hz => ?_) (fun hz => ?_)
            · exact absurd rfl hz
            · refine ew_iconst g qd_E_countFollowers_58 ic_0 ?_
              refine ew_zret g qd_E_countFollowers_59 hp (by first | exact bI_nar _ | decide +kernel) ?_
              refine ⟨Or.inr ⟨rfl, rows1 ++ [ky (f * 64 + i)], List.nodup_append.mpr ⟨hP1.2.2.1, by simp, fun x hx y hy => by simp at hy; subst hy; exact fun z => hni (z ▸ hx)⟩, by simp [hl4], fun x hx => ?_⟩, hfr⟩
              have hsub : ∀ j, dRng D (f * 64) i j = true → dRng D (f * 64) 64 j = true := fun j hj => by
                unfold dRng at hj ⊢
                simp only [Bool.or_eq_true, Bool.and_eq_true, decide_eq_true_eq] at hj ⊢
                rcases hj with z | z
                · exact Or.inl z
                · exact Or.inr ⟨z.1, by omega⟩
              rcases List.mem_append.mp hx with z | z
              · obtain ⟨j, q1, q2, q3⟩ := pRel_big hP1 x z
                exact ⟨j, q1, hsub j q2, q3⟩
              · refine ⟨f * 64 + i, hm4, ?_, (List.mem_singleton.mp z).symm⟩
                unfold dRng
                simp
                omega
        · have hrr : rows1[r]? = some (ky (f * 64 + i)) := by
            rcases hP1.2.2.2.2.1 a0 j0 ha40 (by omega) with ⟨r', q1, q2, z1, z2, z3, z4⟩ | ⟨z1, z2⟩
            · have er : r' = r := (nI_eq (by have := (List.getElem?_eq_some_iff.mp z3).1; omega) (by omega)).mp (z4.symm.trans h29)
              rw [← er, z3]
              rw [hka] at z1
              rw [hkb'] at z2
              cases z1
              cases z2
              rfl
            · rw [h29] at z2
              exact absurd z2 (nI_m1 (by omega))
          refine hgo r rows1 rfl hr (pRel_meet hP1 hm4 hD1 hc hrr h33 hwt) (fun kd hk => tK1_fr (hT1 kd hk) (pmF_fr (by omega)) (pmF_fr (by omega))) hrr (fun o q => ?_)
          rw [pmF_fr (by omega)]
          exact hfr o q
  refine ew_iconst g qd_E_countFollowers_0 ic_0 ?_
  refine ew_istore_n g qd_E_countFollowers_1 (by decide) ?_
  exact key 64 0 sg rows _ _ _ _ rfl (by rw [dRng_0]; exact hP) (by rw [dRng_0]; exact hT) (eFr.rf sg)
end
section
/-! bounds of whole transactions; what a forgotten exploration holds -/
def pZ (c : Nat → Nat) : Prop := ∀ i, 5 ≤ i → c i = 0
theorem pZ_nup {c : Nat → Nat} {k x : Nat} (h : pZ c) (hk : k < 5) : pZ (nup c k x) := by
  intro i hi
  unfold nup
  rw [if_neg (by omega)]
  exact h i hi
theorem pPer_z {cd : CDE} {inp cal : Nat} {s : PM} {o a : Nat} (h : pZ (pCe s)) : pZ (pCe (pPer cd inp cal s o a)) := by
  unfold pPer
  split
  · exact h
  · unfold pDo
    split
    · show pZ (pCe (pSnd _ _ _))
      unfold pSnd
      split
      · exact pZ_nup h (by decide)
      · exact h
    · unfold pAct
      split
      · exact h
      · split
        · exact pZ_nup h (by omega)
        · split
          · exact h
          · split
            · split <;> exact h
            · split
              · exact h
              · split
                · exact h
                · split <;> exact h
theorem pRun_ok {cd : CDE} {inp cal : Nat} (hcd : cdOK cd) (hi : inp < 16) (hc : cal < 4) : ∀ (n : Nat) (s : PM), pOK s → pZ (pCe s) → pHo s ≤ 5 → pOK (pRun cd inp cal n s) ∧ pZ (pCe (pRun cd inp cal n s)) ∧ pHo (pRun cd inp cal n s) ≤ 5 := by
  intro n
  induction n with
  | zero => intro s h1 h2 h3; exact ⟨h1, h2, h3⟩
  | succ n ih =>
    intro s h1 h2 h3
    unfold pRun
    split
    · exact ⟨h1, h2, h3⟩
    · split
      · exact ⟨h1, h2, by show (0 : Nat) ≤ 5; decide⟩
      · rename_i hat
        exact ih _ (pStep_ok hcd hi hc (by omega) h1) (pPer_z (s := pWay s (pWa s ++ [pAt s])) h2) (pPer_wa (cd := cd) (inp := inp) (cal := cal) (s := pWay s (pWa s ++ [pAt s])) (o := cd.2.1 (pAt s)) (a := cd.2.2 (pAt s)) h3).2
theorem pTx_ok {cd : CDE} {lim num : Nat} {c : Nat → Nat} {dead : Bool} (hcd : cdOK cd) (hl : lim ≤ 40) (hn : num < 64) (hc : c16 c) (hz : pZ c) : c16 (pCe (pTx cd lim num c dead)) ∧ pZ (pCe (pTx cd lim num c dead)) ∧ pHo (pTx cd lim num c dead) ≤ 5 := by
  have hb : pOK (pBeg (if dead = true then 0 else lim) c (if dead = true then 4 else 5)) := ⟨Nat.zero_le 6, fun i hi => absurd hi (Nat.not_lt_zero i), hc, by show (if dead = true then 0 else lim) ≤ 40; split <;> omega, Nat.zero_le _⟩
  obtain ⟨h1, h2, h3⟩ := pRun_ok (inp := num / 4) (cal := num % 4) hcd (by omega) (by omega) 41 _ hb hz (by show (if dead = true then 4 else 5) ≤ 5; split <;> decide)
  have e : pTx cd lim num c dead = (if pHo (pRun cd (num / 4) (num % 4) 41 (pBeg (if dead = true then 0 else lim) c (if dead = true then 4 else 5))) = 1 ∨ pHo (pRun cd (num / 4) (num % 4) 41 (pBeg (if dead = true then 0 else lim) c (if dead = true then 4 else 5))) = 2 then pCel (pRun cd (num / 4) (num % 4) 41 (pBeg (if dead = true then 0 else lim) c (if dead = true then 4 else 5))) c else pRun cd (num / 4) (num % 4) 41 (pBeg (if dead = true then 0 else lim) c (if dead = true then 4 else 5))) := rfl
  rw [e]
  generalize pRun cd (num / 4) (num % 4) 41 (pBeg (if dead = true then 0 else lim) c (if dead = true then 4 else 5)) = S at h1 h2 h3 ⊢
  split
  · exact ⟨hc, hz, h3⟩
  · exact ⟨h1.2.2.1, h2, h3⟩
theorem xc0_z (b : Nat) : pZ (xc0 b) := by
  intro i hi
  unfold xc0
  rw [if_neg (by omega)]
def qOK (q : XP) : Prop := cdOK q.1 ∧ q.2.1 < 16 ∧ q.2.2.1 ≤ 40 ∧ (q.2.2.2 = 1 ∨ q.2.2.2 = 2)
theorem xF_ok {q : XP} (h : qOK q) (a : Nat) : c16 (pCe (xF q a)) ∧ pZ (pCe (xF q a)) ∧ pHo (xF q a) ≤ 5 := pTx_ok h.1 h.2.2.1 (Nat.mod_lt _ (by decide)) (xc0_16 h.2.1) (xc0_z _)
theorem xL_ok {q : XP} (h : qOK q) (m : Nat) : c16 (pCe (xL q m)) ∧ pHo (xL q m) ≤ 5 := by
  unfold xL
  split
  · exact ⟨(xF_ok h m).1, (xF_ok h m).2.2⟩
  · have := pTx_ok (dead := decide (pHo (xF q (m / 64)) = 3)) h.1 h.2.2.1 (Nat.mod_lt m (by decide : 0 < 64)) (xF_ok h (m / 64)).1 (xF_ok h (m / 64)).2.1
    exact ⟨this.1, this.2.2⟩
theorem alk_eq {q : XP} (h : qOK q) {a b : Nat} (hk : alk (xF q a) (xF q b)) : pCe (xF q a) = pCe (xF q b) ∧ decide (pHo (xF q a) = 3) = decide (pHo (xF q b) = 3) := by
  obtain ⟨a1, a2, -⟩ := xF_ok h a
  obtain ⟨b1, b2, -⟩ := xF_ok h b
  refine ⟨?_, decide_eq_decide.mpr hk.2⟩
  have e := (pk5_inj a1 b1).mp hk.1
  funext i
  by_cases hi : i < 5
  · exact e i hi
  · rw [a2 i (by omega), b2 i (by omega)]
theorem alk_rf (r : PM) : alk r r := ⟨rfl, Iff.rfl⟩
theorem alk_sy {a b : PM} (h : alk a b) : alk b a := ⟨h.1.symm, h.2.symm⟩
theorem alk_tr {a b c : PM} (h : alk a b) (h' : alk b c) : alk a c := ⟨h.1.trans h'.1, h.2.trans h'.2⟩
def fgB (b : Nat) (sg : SG) : SG := sfil (sfil (sup sg (b + 1) 4 (nI 0)) (b + 6) 64 (nI 0)) (b + 8) 320 (nI 0)
def fgE (sg : SG) : SG := sfil (sfil (sfil (sup (fgB 19 (fgB 10 (sup sg 9 4 (nI 0)))) 28 8 (nI 0)) 29 1600 (-1)) 38 160 (-1)) 39 6400 (nI 0)
theorem k_E_forget (w : WC) (l : Launch) (sg : SG) : ew_M qS w l qy_E_forget qw_E_forget qr_E_forget [.inr 9] sg (fun v sg' => v = none ∧ sg' = fgE sg) := by
  refine ew_entry (ws' := qwg) (own := qR_E) (cc := qc_E_forget) (nL := 1) (ret := none) qnk (by decide) rfl rfl (Nat.le_of_ble_eq_true rfl) ?_
  intro k g hp
  refine ew_aload_n g qd_E_forget_0 rfl ?_
  refine ew_iconst g qd_E_forget_1 ic_0 ?_
  refine ew_put g qd_E_forget_2 qf_E_35 (qp_E_transactions _) (by decide) rfl rfl ?_
  refine ew_aload_n g qd_E_forget_5 rfl ?_
  refine ew_getR g qd_E_forget_6 qf_E_12 (by decide) rfl rfl ?_
  refine ew_callV g qd_E_forget_9 (k_B_forget w k.2.1 _ (b := 10) (Or.inl rfl)) qv_E_39 (by decide) rfl ⟨_, _, rfl⟩ rfl rfl (Nat.le_of_ble_eq_true rfl) ⟨rfl, rfl, by decide, by decide⟩ (fun v sg1 hv => ?_)
  obtain ⟨rfl, rfl⟩ := hv
  refine ew_aload_n g qd_E_forget_12 rfl ?_
  refine ew_getR g qd_E_forget_13 qf_E_18 (by decide) rfl rfl ?_
  refine ew_callV g qd_E_forget_16 (k_B_forget w k.2.1 _ (b := 19) (Or.inr rfl)) qv_E_39 (by decide) rfl ⟨_, _, rfl⟩ rfl rfl (Nat.le_of_ble_eq_true rfl) ⟨rfl, rfl, by decide, by decide⟩ (fun v sg1 hv => ?_)
  obtain ⟨rfl, rfl⟩ := hv
  refine ew_aload_n g qd_E_forget_19 rfl ?_
  refine ew_getR g qd_E_forget_20 qf_E_24 (by decide) rfl rfl ?_
  refine ew_callV g qd_E_forget_23 (k_P_forget w k.2.1 _) qv_E_42 (by decide) rfl ⟨_, _, rfl⟩ rfl rfl (Nat.le_of_ble_eq_true rfl) ⟨rfl, rfl, by decide, by decide⟩ (fun v sg1 hv => ?_)
  obtain ⟨rfl, rfl⟩ := hv
  refine ew_aload_n g qd_E_forget_26 rfl ?_
  refine ew_getR g qd_E_forget_27 qf_E_31 (by decide) rfl rfl ?_
  refine ew_callV g qd_E_forget_30 (k_T_forget w k.2.1 _) qv_E_43 (by decide) rfl ⟨_, _, rfl⟩ rfl rfl (Nat.le_of_ble_eq_true rfl) ⟨rfl, rfl, by decide, by decide⟩ (fun v sg1 hv => ?_)
  obtain ⟨rfl, rfl⟩ := hv
  refine ew_vret g qd_E_forget_33 hp ?_
  exact ⟨rfl, rfl⟩
theorem fgE_n {sg : SG} {o : Nat} (h : o < 9 ∨ 39 < o) : fgE sg o = sg o := by
  unfold fgE fgB
  rw [sfil_n (by omega), sfil_n (by omega), sfil_n (by omega), sup_n (by omega), sfil_n (by omega), sfil_n (by omega), sup_n (by omega), sfil_n (by omega), sfil_n (by omega), sup_n (by omega), sup_n (by omega)]
theorem fgE_9 (sg : SG) : fgE sg 9 4 = nI 0 := by
  unfold fgE fgB
  rw [sfil_n (by decide), sfil_n (by decide), sfil_n (by decide), sup_n (by decide), sfil_n (by decide), sfil_n (by decide), sup_n (by decide), sfil_n (by decide), sfil_n (by decide), sup_n (by decide), sup_s, pk_us]
theorem fgE_11 (sg : SG) : fgE sg 11 4 = nI 0 := by
  unfold fgE fgB
  rw [sfil_n (by decide), sfil_n (by decide), sfil_n (by decide), sup_n (by decide), sfil_n (by decide), sfil_n (by decide), sup_n (by decide), sfil_n (by decide), sfil_n (by decide), sup_s, pk_us]
theorem fgE_20 (sg : SG) : fgE sg 20 4 = nI 0 := by
  unfold fgE fgB
  rw [sfil_n (by decide), sfil_n (by decide), sfil_n (by decide), sup_n (by decide), sfil_n (by decide), sfil_n (by decide), sup_s, pk_us]
theorem fgE_28 (sg : SG) : fgE sg 28 8 = nI 0 := by
  unfold fgE fgB
  rw [sfil_n (by decide), sfil_n (by decide), sfil_n (by decide), sup_s, pk_us]
theorem fgE_16 (sg : SG) {p : Nat} (h : p < 64) : fgE sg 16 p = nI 0 := by
  unfold fgE fgB
  rw [sfil_n (by decide), sfil_n (by decide), sfil_n (by decide), sup_n (by decide), sfil_n (by decide), sfil_n (by decide), sup_n (by decide), sfil_n (by decide)]
  exact sfil_at h
theorem fgE_18 (sg : SG) {p : Nat} (h : p < 320) : fgE sg 18 p = nI 0 := by
  unfold fgE fgB
  rw [sfil_n (by decide), sfil_n (by decide), sfil_n (by decide), sup_n (by decide), sfil_n (by decide), sfil_n (by decide), sup_n (by decide)]
  exact sfil_at h
theorem fgE_29 (sg : SG) {p : Nat} (h : p < 1600) : fgE sg 29 p = -1 := by
  unfold fgE fgB
  rw [sfil_n (by decide), sfil_n (by decide)]
  exact sfil_at h
theorem fgE_38 (sg : SG) {p : Nat} (h : p < 160) : fgE sg 38 p = -1 := by
  unfold fgE fgB
  rw [sfil_n (by decide)]
  exact sfil_at h
theorem fgE_39 (sg : SG) {p : Nat} (h : p < 6400) : fgE sg 39 p = nI 0 := by
  unfold fgE fgB
  exact sfil_at h
theorem fg_rel {sg : SG} (ka kb : WKL) (ky : Nat → KEY) (cel : Nat → Nat → Nat) (h8 : sg 28 8 = nI 0) (h9 : ∀ p, p < 1600 → sg 29 p = -1) : pRel sg ka kb [] (fun _ => false) ky cel := by
  refine ⟨by decide, h8, List.nodup_nil, fun m _ h => (by cases h), fun a b ha hb => Or.inr ⟨fun _ _ _ _ h => (by cases h), h9 _ (by omega)⟩, fun r q h => (by cases h)⟩
theorem fg_tly {sg : SG} (ky : Nat → KEY) (fb : Nat → Nat → Nat → Bool) (h8 : ∀ p, p < 160 → sg 38 p = -1) (h9 : ∀ p, p < 6400 → sg 39 p = nI 0) {kd : Nat} (hk : kd < 5) : tK1 sg [] (fun _ => false) ky fb kd := by
  intro i hi
  refine ⟨Or.inl ⟨h8 _ (by omega), fun m _ h => (by cases h)⟩, fun r hr => ?_⟩
  rw [h9 _ (by omega), cntB_none (P := fun m => (fun _ => false) m && (decide (([] : List KEY)[r]? = some (ky m)) && fb m kd i)) (fun j _ => rfl)]
theorem fg_yW {sg : SG} {b : Nat} (h : sg (b + 1) 4 = nI 0) : yW sg b [] := ⟨by decide, h, List.nodup_nil, fun j q hq => by cases hq⟩
/-- all is counted -/
def svOK (sg : SG) (q : XP) : Prop := ∃ ka kb rows, pRel sg ka kb rows (fun j => decide (j < xN q)) (xKey q) (xCel q) ∧ (∀ kd, kd < 5 → tK1 sg rows (fun j => decide (j < xN q)) (xKey q) (xFnd q) kd) ∧ yW sg 19 kb ∧ (q.2.2.2 = 2 → yW sg 10 ka) ∧ sg 9 4 = nI q.2.2.2
/-- there are too many ways -/
def svBad (q : XP) : Prop := ∃ ms : List Nat, ms.length = 41 ∧ (∀ m, m ∈ ms → m < xN q) ∧ (ms.map (xKey q)).Nodup
theorem pick_list {α : Type} {P : Nat → Prop} {g : Nat → α} : ∀ (big : List α), (∀ x, x ∈ big → ∃ m, P m ∧ g m = x) → ∃ ms : List Nat, ms.map g = big ∧ ∀ m, m ∈ ms → P m := by
  intro big
  induction big with
  | nil => intro _; exact ⟨[], rfl, fun m h => by cases h⟩
  | cons x big ih =>
    intro h
    obtain ⟨ms, e, hp⟩ := ih (fun y hy => h y (List.mem_cons_of_mem _ hy))
    obtain ⟨m, p1, p2⟩ := h x List.mem_cons_self
    exact ⟨m :: ms, by rw [List.map_cons, e, p2], fun j hj => by
      rcases List.mem_cons.mp hj with rfl | z
      · exact p1
      · exact hp j z⟩
theorem nod_map {α β : Type} {f : α → β} {l : List α} (h : (l.map f).Nodup) : ∀ {γ : Type} (g : α → γ) (k : γ → β), (∀ a, k (g a) = f a) → (l.map g).Nodup := by
  intro γ g k hk
  have e : (l.map g).map k = l.map f := by rw [List.map_map]; exact List.map_congr_left (fun a _ => hk a)
  rw [← e] at h
  have hp := List.pairwise_map.mp h
  exact List.Pairwise.imp (fun {a b} hab z => hab (by rw [z])) hp
theorem svBad_of {q : XP} {α : Type} (g : Nat → α) (k : KEY → α) (hk : ∀ m, k (xKey q m) = g m) {big : List α} (hn : big.Nodup) (hl : big.length = 41) (h : ∀ x, x ∈ big → ∃ m, m < xN q ∧ g m = x) : svBad q := by
  obtain ⟨ms, e, hp⟩ := pick_list (P := fun m => m < xN q) (g := g) big h
  refine ⟨ms, by rw [← hl, ← e, List.length_map], hp, ?_⟩
  rw [← e] at hn
  exact nod_map hn (xKey q) k hk
theorem k_E_surveySingles (w : WC) (l : Launch) (sg : SG) {q : XP} (hq : qOK q) (hn1 : q.2.2.2 = 1) (hcd : xCode sg q.1) : ew_M qS w l qy_E_surveySingles qw_E_surveySingles qr_E_surveySingles [.inr 9, .inr 1, .inl (nI (pk5 (xc0 q.2.1))), .inl (nI q.2.2.1)] (fgE sg) (fun v sg' => ((v = some (.inl (nI 1)) ∧ svOK sg' q) ∨ (v = some (.inl (nI 0)) ∧ svBad q)) ∧ ∀ o, o = 0 ∨ (2 ≤ o ∧ o < 6) ∨ 39 < o → sg' o = sg o) := by
  have hxN : xN q = 64 := by unfold xN; rw [if_pos hn1]
  have hxL : ∀ j, xL q j = xF q j := fun j => by unfold xL; rw [if_pos hn1]
  have hcd1 : xCode (sup (fgE sg) 9 4 (nI 1)) q.1 := by
    unfold xCode at hcd ⊢
    rw [sup_n (by decide), sup_n (by decide), sup_n (by decide), sup_n (by decide), fgE_n (by omega), fgE_n (by omega), fgE_n (by omega), fgE_n (by omega)]
    exact hcd
  have hy1 : yW (sup (fgE sg) 9 4 (nI 1)) 19 [] := fg_yW (by rw [sup_n (by decide)]; exact fgE_20 sg)
  refine ew_entry (ws' := qwg) (own := qR_E) (cc := qc_E_surveySingles) (nL := 4) (ret := some .boolean) qnk (by decide) rfl rfl (Nat.le_of_ble_eq_true rfl) ?_
  intro k g hp
  have hno : ∀ (sg1 : SG), svBad q → (∀ o, o = 0 ∨ (2 ≤ o ∧ o < 6) ∨ 39 < o → sg1 o = sg o) → ew_E qS w 4 k 31 [some (.inr 9), some (.inr 1), some (.inl (nI (pk5 (xc0 q.2.1)))), some (.inl (nI q.2.2.1))] [] sg1 := by
    intro sg1 hb hf
    refine ew_iconst g qd_E_surveySingles_31 ic_0 ?_
    refine ew_zret g qd_E_surveySingles_32 hp (by first | exact bI_nar _ | decide +kernel) ?_
    exact ⟨Or.inr ⟨rfl, hb⟩, hf⟩
  refine ew_aload_n g qd_E_surveySingles_0 rfl ?_
  refine ew_iconst g qd_E_surveySingles_1 ic_1 ?_
  refine ew_put g qd_E_surveySingles_2 qf_E_35 (qp_E_transactions _) (by decide) rfl rfl ?_
  refine ew_aload_n g qd_E_surveySingles_5 rfl ?_
  refine ew_getR g qd_E_surveySingles_6 qf_E_18 (by decide) rfl rfl ?_
  refine ew_aload_n g qd_E_surveySingles_9 rfl ?_
  refine ew_iload_n g qd_E_surveySingles_10 rfl ?_
  refine ew_iconst g qd_E_surveySingles_11 ic_0 ?_
  refine en_top bI_f.symm ?_
  refine ew_iload_n g qd_E_surveySingles_12 rfl ?_
  refine ew_callV g qd_E_surveySingles_13 (k_B_fill w k.2.1 _ (b := 19) (dead := false) (Or.inr rfl) hcd1 hy1 hq.2.2.1 (xc0_16 hq.2.1)) qv_E_44 (by decide) rfl ⟨_, _, rfl⟩ rfl rfl (Nat.le_of_ble_eq_true rfl) ⟨rfl, rfl, by decide, by decide⟩ (fun v sg1 hv => ?_)
  have hfo : ∀ {sg1 : SG}, bFr 19 (sup (fgE sg) 9 4 (nI 1)) sg1 → ∀ o, o = 0 ∨ (2 ≤ o ∧ o < 6) ∨ 39 < o → sg1 o = sg o := fun {sg1} hfr o ho => by
    rw [hfr o (by omega) (by omega) (by omega) (by omega) (by omega), sup_n (by omega), fgE_n (by omega)]
  have hmod : ∀ m, m < 64 → pTx q.1 q.2.2.1 m (xc0 q.2.1) false = xF q m := fun m hm => by unfold xF; rw [Nat.mod_eq_of_lt hm]
  rcases hv with ⟨rfl, ⟨kb, t, hkb, -, -, hB⟩, hfr⟩ | ⟨rfl, ⟨big, b1, b2, b3⟩, hfr⟩
  · refine en_if_eq g qd_E_surveySingles_16 (tgt := 31) (by decide) (by omega) (fun hz => ?_) (fun hz => ?_)
    · exact absurd hz (by decide)
    · have hg : ∀ o, o ≠ 1 → o ≠ 6 → o ≠ 7 → o ≠ 8 → o ≠ 9 → o < 20 ∨ 27 < o → sg1 o = fgE sg o := fun o h1 h2 h3 h4 h5 h6 => by
        rw [hfr o h1 h2 h3 h4 (by omega), sup_n h5]
      refine ew_aload_n g qd_E_surveySingles_19 rfl ?_
      refine ew_iconst g qd_E_surveySingles_20 ic_0 ?_
      refine ew_callV g qd_E_surveySingles_21 (k_E_countFollowers w k.2.1 sg1 (f := 0) (a0 := 0) (fk := ([], 4)) (ff := fun _ _ => false) (ka := [([], 4)]) (kb := kb) (rows := []) (D := fun _ => false) (ky := xKey q) (cel := xCel q) (fb := xFnd q) (R := xF q) (by decide) (by rw [hg 16 (by decide) (by decide) (by decide) (by decide) (by decide) (by decide)]; exact fgE_16 sg (by decide)) rfl (by decide) (by simp) (fun kd hk i hi => by rw [hg 18 (by decide) (by decide) (by decide) (by decide) (by decide) (by decide), fgE_18 sg (by omega), b_zero]) hkb (fun j hj => by rw [← hmod j hj]; exact hB j hj) (fg_rel _ _ _ _ (by rw [hg 28 (by decide) (by decide) (by decide) (by decide) (by decide) (by decide)]; exact fgE_28 sg) (fun p hp => by rw [hg 29 (by decide) (by decide) (by decide) (by decide) (by decide) (by decide)]; exact fgE_29 sg hp)) (fun kd hk => fg_tly _ _ (fun p hp => by rw [hg 38 (by decide) (by decide) (by decide) (by decide) (by decide) (by decide)]; exact fgE_38 sg hp) (fun p hp => by rw [hg 39 (by decide) (by decide) (by decide) (by decide) (by decide) (by decide)]; exact fgE_39 sg hp) hk) (fun j hj => (xL_ok hq j).1) (fun j hj => by unfold xKey; rw [if_pos hn1, hxL, Nat.zero_mul, Nat.zero_add]) (fun j hj => by unfold xCel; rw [hxL, Nat.zero_mul, Nat.zero_add]) (fun j hj kd i => by unfold xFnd; rw [if_pos hn1, hxL, Nat.zero_mul, Nat.zero_add]) (fun j hj => rfl)) qv_E_48 (by decide) rfl ⟨_, _, rfl⟩ rfl rfl (Nat.le_of_ble_eq_true rfl) ⟨rfl, rfl, by decide, by decide⟩ (fun v sg2 hv => ?_)
      have hDn : dRng (fun _ => false) (0 * 64) 64 = fun j => decide (j < xN q) := by
        funext j
        unfold dRng
        rw [hxN]
        simp
      rw [hDn] at hv
      obtain ⟨hv, hfr2⟩ := hv
      have hf2 : ∀ o, o = 0 ∨ (2 ≤ o ∧ o < 6) ∨ 39 < o → sg2 o = sg o := fun o ho => by rw [hfr2 o (by omega)]; exact hfo hfr o ho
      rcases hv with ⟨rfl, rows', hP, hT⟩ | ⟨rfl, big, b1, b2, b3⟩
      · refine en_if_eq g qd_E_surveySingles_24 (tgt := 31) (by decide) (by omega) (fun hz2 => ?_) (fun hz2 => ?_)
        · exact absurd hz2 (by decide)
        · refine ew_iconst g qd_E_surveySingles_27 ic_1 ?_
          refine ew_goto g qd_E_surveySingles_28 (tgt := 32) (by decide) ?_
          refine ew_zret g qd_E_surveySingles_32 hp (by first | exact bI_nar _ | decide +kernel) ?_
          refine ⟨Or.inl ⟨rfl, _, kb, rows', hP, hT, yW_fr hkb (fun o h1 h2 => hfr2 o (by omega)), fun z => by omega, ?_⟩, hf2⟩
          rw [hfr2 9 (by omega), hfr 9 (by decide) (by decide) (by decide) (by decide) (by decide), sup_s, pk_us, hn1]
      · refine en_if_eq g qd_E_surveySingles_24 (tgt := 31) (by decide) (by omega) (fun hz2 => ?_) (fun hz2 => ?_)
        · refine hno sg2 (svBad_of (xKey q) id (fun m => rfl) b1 b2 (fun x hx => ?_)) hf2
          obtain ⟨j, j1, j2, j3⟩ := b3 x hx
          exact ⟨j, of_decide_eq_true j2, j3⟩
        · exact absurd rfl hz2
  · refine en_if_eq g qd_E_surveySingles_16 (tgt := 31) (by decide) (by omega) (fun hz => ?_) (fun hz => ?_)
    · refine hno sg1 (svBad_of (fun m => tK (xL q m)) (fun z => z.2) (fun m => rfl) b1 b2 (fun x hx => ?_)) (hfo hfr)
      rcases b3 x hx with z | ⟨m, m1, m2⟩
      · cases z
      · exact ⟨m, by rw [hxN]; exact m1, by rw [hxL, ← hmod m m1]; exact m2.symm⟩
    · exact absurd rfl hz
end
section
/-! two transactions -/
noncomputable def tB (P : Prop) : Bool := @decide P (Classical.propDecidable P)
theorem tB_t {P : Prop} : tB P = true ↔ P := by
  unfold tB
  exact @decide_eq_true_iff P (Classical.propDecidable P)
theorem tB_f {P : Prop} (h : ¬ P) : tB P = false := by
  cases e : tB P with
  | false => rfl
  | true => exact absurd (tB_t.mp e) h
theorem tB_c {P Q : Prop} (h : P ↔ Q) : tB P = tB Q := by rw [propext h]
noncomputable def dF (q : XP) (f : Nat) : Nat → Bool := fun j => tB (j / 64 < 64 ∧ ∃ e, e < f ∧ alk (xF q e) (xF q (j / 64)))
noncomputable def dA (q : XP) (f al : Nat) : Nat → Bool := fun j => tB ((j / 64 < 64 ∧ ∃ e, e < f ∧ alk (xF q e) (xF q (j / 64))) ∨ (f ≤ j / 64 ∧ j / 64 < al ∧ alk (xF q f) (xF q (j / 64))))
theorem dA_0 (q : XP) (f : Nat) : dA q f f = dF q f := by
  funext j
  refine tB_c ⟨fun h => ?_, Or.inl⟩
  rcases h with h | h
  · exact h
  · omega
theorem dA_no {q : XP} {f al : Nat} (h : ¬ alk (xF q f) (xF q al)) : dA q f (al + 1) = dA q f al := by
  funext j
  refine tB_c ⟨fun z => ?_, fun z => ?_⟩
  · rcases z with z | ⟨z1, z2, z3⟩
    · exact Or.inl z
    · by_cases e : j / 64 = al
      · rw [e] at z3; exact absurd z3 h
      · exact Or.inr ⟨z1, by omega, z3⟩
  · rcases z with z | ⟨z1, z2, z3⟩
    · exact Or.inl z
    · exact Or.inr ⟨z1, by omega, z3⟩
theorem dA_yes {q : XP} {f al : Nat} (hf : f ≤ al) (h : alk (xF q f) (xF q al)) : dRng (dA q f al) (al * 64) 64 = dA q f (al + 1) := by
  funext j
  unfold dRng
  by_cases e : j / 64 = al
  · have h1 : dA q f (al + 1) j = true := tB_t.mpr (Or.inr ⟨by omega, by omega, by rw [e]; exact h⟩)
    rw [h1]
    have h2 : al * 64 ≤ j := by omega
    have h3 : j < al * 64 + 64 := by omega
    simp [h2, h3]
  · have h2 : ¬ (al * 64 ≤ j ∧ j < al * 64 + 64) := by omega
    have h3 : (decide (al * 64 ≤ j) && decide (j < al * 64 + 64)) = false := by
      cases hq : (decide (al * 64 ≤ j) && decide (j < al * 64 + 64)) with
      | false => rfl
      | true => simp at hq; exact absurd hq h2
    rw [h3, Bool.or_false]
    refine tB_c ⟨fun z => ?_, fun z => ?_⟩
    · rcases z with z | ⟨z1, z2, z3⟩
      · exact Or.inl z
      · exact Or.inr ⟨z1, by omega, z3⟩
    · rcases z with z | ⟨z1, z2, z3⟩
      · exact Or.inl z
      · exact Or.inr ⟨z1, by omega, z3⟩
theorem dA_end (q : XP) (f : Nat) : dA q f 64 = dF q (f + 1) := by
  funext j
  refine tB_c ⟨fun z => ?_, fun z => ?_⟩
  · rcases z with ⟨z1, e, z2, z3⟩ | ⟨z1, z2, z3⟩
    · exact ⟨z1, e, by omega, z3⟩
    · exact ⟨z2, f, by omega, z3⟩
  · obtain ⟨z1, e, z2, z3⟩ := z
    by_cases he : e = f
    · subst he
      by_cases hl : e ≤ j / 64
      · exact Or.inr ⟨hl, z1, z3⟩
      · exact Or.inl ⟨z1, j / 64, by omega, alk_rf _⟩
    · exact Or.inl ⟨z1, e, by omega, z3⟩
theorem dF_skip {q : XP} {f : Nat} (h : ∃ e, e < f ∧ alk (xF q e) (xF q f)) : dF q (f + 1) = dF q f := by
  obtain ⟨e0, h0, h1⟩ := h
  funext j
  refine tB_c ⟨fun z => ?_, fun z => ?_⟩
  · obtain ⟨z1, e, z2, z3⟩ := z
    by_cases he : e = f
    · subst he
      exact ⟨z1, e0, h0, alk_tr h1 z3⟩
    · exact ⟨z1, e, by omega, z3⟩
  · obtain ⟨z1, e, z2, z3⟩ := z
    exact ⟨z1, e, by omega, z3⟩
theorem dF_0 (q : XP) : dF q 0 = fun _ => false := by
  funext j
  exact tB_f (fun z => by obtain ⟨-, e, z, -⟩ := z; omega)
theorem dF_end {q : XP} (hn : xN q = 4096) : dF q 64 = fun j => decide (j < xN q) := by
  funext j
  rw [hn]
  by_cases h : j < 4096
  · have : dF q 64 j = true := tB_t.mpr ⟨by omega, j / 64, by omega, alk_rf _⟩
    rw [this]
    simp [h]
  · have : dF q 64 j = false := tB_f (fun z => by have := z.1; omega)
    rw [this]
    simp [h]
theorem bE_sg {sg sg' : SG} {b m : Nat} {ks : WKL} {r : PM} (h : bE sg b ks r m) (hf : ∀ o, b + 6 ≤ o → o ≤ b + 8 → sg' o = sg o) : bE sg' b ks r m := bE_fr (t := []) h (by simp) (by rw [hf _ (by omega) (by omega)]) (by rw [hf _ (by omega) (by omega)]) (fun kd _ => by rw [hf _ (by omega) (by omega)])
theorem pRel_kb {sg : SG} {ka kb kb' t : WKL} {rows : List KEY} {D : Nat → Bool} {ky : Nat → KEY} {cel : Nat → Nat → Nat} (h : pRel sg ka kb rows D ky cel) (hk : kb' = kb ++ t) (hn : kb'.Nodup) : pRel sg ka kb' rows D ky cel := by
  obtain ⟨r1, r2, r3, r4, r5, r6⟩ := h
  have up : ∀ (b : Nat) (q : List Nat × Nat), kb[b]? = some q → kb'[b]? = some q := fun b q hq => by
    rw [hk, List.getElem?_append_left (List.getElem?_eq_some_iff.mp hq).1]
    exact hq
  refine ⟨r1, r2, r3, r4, fun a b ha hb => ?_, fun r q hr => ?_⟩
  · rcases r5 a b ha hb with ⟨r, q1, q2, z1, z2, z3, z4⟩ | ⟨z1, z2⟩
    · exact Or.inl ⟨r, q1, q2, z1, up b q2 z2, z3, z4⟩
    · refine Or.inr ⟨fun q1 q2 y1 y2 hm => ?_, z2⟩
      obtain ⟨r, hr⟩ := List.getElem?_of_mem hm
      obtain ⟨-, ⟨b0, hb0, -⟩, -⟩ := r6 r _ hr
      have e := nod_at hn (up b0 _ hb0) y2
      subst e
      exact z1 q1 q2 y1 hb0 hm
  · obtain ⟨p1, ⟨b0, hb0, p2⟩, p3⟩ := r6 r q hr
    exact ⟨p1, ⟨b0, up b0 _ hb0, p2⟩, p3⟩
theorem k_E_countFollowersOfAllAlike (w : WC) (l : Launch) (sg : SG) {q : XP} {f : Nat} {ka kb : WKL} {rows : List KEY} (hq : qOK q) (hn2 : q.2.2.2 = 2) (hf : f < 64) (hfirst : ∀ e, e < f → ¬ alk (xF q e) (xF q f)) (hka : yW sg 10 ka) (hA : ∀ j, j < 64 → bE sg 10 ka (xF q j) j) (hkb : yW sg 19 kb) (hB : ∀ j, j < 64 → bE sg 19 kb (pTx q.1 q.2.2.1 j (pCe (xF q f)) (decide (pHo (xF q f) = 3))) j) (hP : pRel sg ka kb rows (dF q f) (xKey q) (xCel q)) (hT : ∀ kd, kd < 5 → tK1 sg rows (dF q f) (xKey q) (xFnd q) kd) : ew_M qS w l qy_E_countFollowersOfAllAlike qw_E_countFollowersOfAllAlike qr_E_countFollowersOfAllAlike [.inr 9, .inl (nI f)] sg (fun v sg' => ((v = some (.inl (nI 1)) ∧ ∃ rows', pRel sg' ka kb rows' (dF q (f + 1)) (xKey q) (xCel q) ∧ ∀ kd, kd < 5 → tK1 sg' rows' (dF q (f + 1)) (xKey q) (xFnd q) kd) ∨ (v = some (.inl (nI 0)) ∧ svBad q)) ∧ eFr sg sg') := by
  have hne : ¬ q.2.2.2 = 1 := by omega
  have hxN : xN q = 4096 := by unfold xN; rw [if_neg hne]
  have hk40 := hka.1
  refine ew_entry (ws' := qwg) (own := qR_E) (cc := qc_E_countFollowersOfAllAlike) (nL := 3) (ret := some .boolean) qnk (by decide) rfl rfl (Nat.le_of_ble_eq_true rfl) ?_
  intro k g hp
  have key : ∀ (d al : Nat) (sg1 : SG) (rows1 : List KEY), al + d = 64 → f ≤ al → pRel sg1 ka kb rows1 (dA q f al) (xKey q) (xCel q) → (∀ kd, kd < 5 → tK1 sg1 rows1 (dA q f al) (xKey q) (xFnd q) kd) → eFr sg sg1 → ew_E qS w 3 k 2 [some (.inr 9), some (.inl (nI f)), some (.inl (nI al))] [] sg1 := by
    intro d
    induction d with
    | zero =>
      intro al sg1 rows1 hal hfa hP1 hT1 hfr
      refine ew_iload_n g qd_E_countFollowersOfAllAlike_2 rfl ?_
      refine ew_bipush g qd_E_countFollowersOfAllAlike_3 bp_64 ?_
      refine en_ge g qd_E_countFollowersOfAllAlike_5 (tgt := 36) (by decide) (by omega) (by omega) (fun h => ?_) (fun h => ?_)
      · refine ew_iconst g qd_E_countFollowersOfAllAlike_36 ic_1 ?_
        refine ew_zret g qd_E_countFollowersOfAllAlike_37 hp (by first | exact bI_nar _ | decide +kernel) ?_
        have e : al = 64 := by omega
        subst e
        rw [dA_end] at hP1 hT1
        exact ⟨Or.inl ⟨rfl, rows1, hP1, hT1⟩, hfr⟩
      · omega
    | succ d ih =>
      intro al sg1 rows1 hal hfa hP1 hT1 hfr
      have hka1 : yW sg1 10 ka := yW_fr hka (fun o h1 h2 => hfr o (by omega))
      have hA1 : ∀ j, j < 64 → bE sg1 10 ka (xF q j) j := fun j hj => bE_sg (hA j hj) (fun o h1 h2 => hfr o (by omega))
      refine ew_iload_n g qd_E_countFollowersOfAllAlike_2 rfl ?_
      refine ew_bipush g qd_E_countFollowersOfAllAlike_3 bp_64 ?_
      refine en_ge g qd_E_countFollowersOfAllAlike_5 (tgt := 36) (by decide) (by omega) (by omega) (fun h => ?_) (fun h => ?_)
      · omega
      · refine ew_aload_n g qd_E_countFollowersOfAllAlike_8 rfl ?_
        refine ew_getR g qd_E_countFollowersOfAllAlike_9 qf_E_12 (by decide) rfl rfl ?_
        refine ew_iload_n g qd_E_countFollowersOfAllAlike_12 rfl ?_
        refine ew_iload_n g qd_E_countFollowersOfAllAlike_13 rfl ?_
        refine ew_callV g qd_E_countFollowersOfAllAlike_14 (k_B_areFollowedAlike w k.2.1 sg1 (b := 10) (Or.inl rfl) hka1 hf (show al < 64 by omega) (hA1 f hf) (hA1 al (by omega)) (xF_ok hq f).1 (xF_ok hq al).1) qv_E_82 (by decide) rfl ⟨_, _, rfl⟩ rfl rfl (Nat.le_of_ble_eq_true rfl) ⟨rfl, rfl, by decide, by decide⟩ (fun v sg2 hv => ?_)
        obtain ⟨hv, rfl⟩ := hv
        rcases hv with ⟨ha, rfl⟩ | ⟨ha, rfl⟩
        · refine en_if_eq g qd_E_countFollowersOfAllAlike_17 (tgt := 30) (by decide) (by omega) (fun hz => ?_) (fun hz => ?_)
          · exact absurd hz (by decide)
          · obtain ⟨⟨a0, ha0, h16⟩, -, h18⟩ := hA1 al (by omega)
            have ha40 := (List.getElem?_eq_some_iff.mp ha0).1
            obtain ⟨ecel, edead⟩ := alk_eq hq ha
            have hkb1 : yW sg2 19 kb := yW_fr hkb (fun o h1 h2 => hfr o (by omega))
            have hdiv : ∀ j, j < 64 → (al * 64 + j) / 64 = al ∧ (al * 64 + j) % 64 = j := fun j hj => by omega
            have hxl : ∀ j, j < 64 → xL q (al * 64 + j) = pTx q.1 q.2.2.1 j (pCe (xF q f)) (decide (pHo (xF q f) = 3)) := fun j hj => by
              unfold xL
              rw [if_neg hne, (hdiv j hj).1, (hdiv j hj).2, ← ecel, ← edead]
            have hDf : ∀ j, j < 64 → dA q f al (al * 64 + j) = false := fun j hj => tB_f (fun z => by
              rw [(hdiv j hj).1] at z
              rcases z with ⟨-, e, z1, z2⟩ | z
              · exact hfirst e z1 (alk_tr z2 (alk_sy ha))
              · omega)
            refine ew_aload_n g qd_E_countFollowersOfAllAlike_20 rfl ?_
            refine ew_iload_n g qd_E_countFollowersOfAllAlike_21 rfl ?_
            refine ew_callV g qd_E_countFollowersOfAllAlike_22 (k_E_countFollowers w k.2.1 sg2 (f := al) (a0 := a0) (fk := tK (xF q al)) (ff := pFo (xF q al)) (ka := ka) (kb := kb) (rows := rows1) (D := dA q f al) (ky := xKey q) (cel := xCel q) (fb := xFnd q) (R := fun j => pTx q.1 q.2.2.1 j (pCe (xF q f)) (decide (pHo (xF q f) = 3))) h h16 ha0 (by omega) hka.2.2.1 h18 hkb1 (fun j hj => bE_sg (hB j hj) (fun o h1 h2 => hfr o (by omega))) hP1 hT1 (fun j hj => (xL_ok hq j).1) (fun j hj => by unfold xKey; rw [if_neg hne, (hdiv j hj).1, hxl j hj]) (fun j hj => by unfold xCel; rw [hxl j hj]) (fun j hj kd i => by unfold xFnd; rw [if_neg hne, (hdiv j hj).1, hxl j hj]) hDf) qv_E_48 (by decide) rfl ⟨_, _, rfl⟩ rfl rfl (Nat.le_of_ble_eq_true rfl) ⟨rfl, rfl, by decide, by decide⟩ (fun v sg3 hv => ?_)
            rw [dA_yes hfa ha] at hv
            obtain ⟨hv, hfr3⟩ := hv
            rcases hv with ⟨rfl, rows', hP', hT'⟩ | ⟨rfl, big, b1, b2, b3⟩
            · refine en_if_ne g qd_E_countFollowersOfAllAlike_25 (tgt := 30) (by decide) (by omega) (fun hz2 => ?_) (fun hz2 => ?_)
              · refine ew_iinc g qd_E_countFollowersOfAllAlike_30 (by decide) rfl (ii_1 _) ?_
                refine ew_goto g qd_E_countFollowersOfAllAlike_33 (tgt := 2) (by decide) ?_
                exact ih (al + 1) sg3 rows' (by omega) (by omega) hP' hT' (hfr.tr hfr3)
              · exact absurd hz2 (by decide)
            · refine en_if_ne g qd_E_countFollowersOfAllAlike_25 (tgt := 30) (by decide) (by omega) (fun hz2 => ?_) (fun hz2 => ?_)
              · exact absurd rfl hz2
              · refine ew_iconst g qd_E_countFollowersOfAllAlike_28 ic_0 ?_
                refine ew_zret g qd_E_countFollowersOfAllAlike_29 hp (by first | exact bI_nar _ | decide +kernel) ?_
                refine ⟨Or.inr ⟨rfl, svBad_of (xKey q) id (fun m => rfl) b1 b2 (fun x hx => ?_)⟩, hfr.tr hfr3⟩
                obtain ⟨j, j1, j2, j3⟩ := b3 x hx
                exact ⟨j, by rw [hxN]; exact j1, j3⟩
        · refine en_if_eq g qd_E_countFollowersOfAllAlike_17 (tgt := 30) (by decide) (by omega) (fun hz => ?_) (fun hz => ?_)
          · refine ew_iinc g qd_E_countFollowersOfAllAlike_30 (by decide) rfl (ii_1 _) ?_
            refine ew_goto g qd_E_countFollowersOfAllAlike_33 (tgt := 2) (by decide) ?_
            rw [← dA_no ha] at hP1 hT1
            exact ih (al + 1) sg2 rows1 (by omega) (by omega) hP1 hT1 hfr
          · exact absurd rfl hz
  refine ew_iload_n g qd_E_countFollowersOfAllAlike_0 rfl ?_
  refine ew_istore_n g qd_E_countFollowersOfAllAlike_1 (by decide) ?_
  exact key (64 - f) f sg rows (by omega) (Nat.le_refl _) (by rw [dA_0]; exact hP) (by rw [dA_0]; exact hT) (eFr.rf sg)
theorem k_E_surveyPairs (w : WC) (l : Launch) (sg : SG) {q : XP} (hq : qOK q) (hn2 : q.2.2.2 = 2) (hcd : xCode sg q.1) : ew_M qS w l qy_E_surveyPairs qw_E_surveyPairs qr_E_surveyPairs [.inr 9, .inr 1, .inl (nI (pk5 (xc0 q.2.1))), .inl (nI q.2.2.1)] (fgE sg) (fun v sg' => ((v = some (.inl (nI 1)) ∧ svOK sg' q) ∨ (v = some (.inl (nI 0)) ∧ svBad q)) ∧ ∀ o, o = 0 ∨ (2 ≤ o ∧ o < 6) ∨ 39 < o → sg' o = sg o) := by
  have hne : ¬ q.2.2.2 = 1 := by omega
  have hxN : xN q = 4096 := by unfold xN; rw [if_neg hne]
  have code_of : ∀ {sg1 : SG}, (∀ o, o = 0 ∨ (2 ≤ o ∧ o < 6) ∨ 39 < o → sg1 o = sg o) → xCode sg1 q.1 := fun {sg1} hf => by
    unfold xCode at hcd ⊢
    rw [hf 2 (by omega), hf 3 (by omega), hf 4 (by omega), hf 5 (by omega)]
    exact hcd
  have hcd1 : xCode (sup (fgE sg) 9 4 (nI 2)) q.1 := code_of (fun o ho => by rw [sup_n (by omega), fgE_n (by omega)])
  have hy1 : yW (sup (fgE sg) 9 4 (nI 2)) 10 [] := fg_yW (by rw [sup_n (by decide)]; exact fgE_11 sg)
  have hmod : ∀ m, m < 64 → pTx q.1 q.2.2.1 m (xc0 q.2.1) false = xF q m := fun m hm => by unfold xF; rw [Nat.mod_eq_of_lt hm]
  refine ew_entry (ws' := qwg) (own := qR_E) (cc := qc_E_surveyPairs) (nL := 5) (ret := some .boolean) qnk (by decide) rfl rfl (Nat.le_of_ble_eq_true rfl) ?_
  intro k g hp
  have hmain : ∀ (ka : WKL) (d f : Nat) (sg1 : SG) (kb : WKL) (rows : List KEY), f + d = 64 → yW sg1 10 ka → (∀ j, j < 64 → bE sg1 10 ka (xF q j) j) → yW sg1 19 kb → (∀ x, x ∈ kb → ∃ j, j < xN q ∧ (xKey q j).2 = x) → pRel sg1 ka kb rows (dF q f) (xKey q) (xCel q) → (∀ kd, kd < 5 → tK1 sg1 rows (dF q f) (xKey q) (xFnd q) kd) → sg1 9 4 = nI 2 → (∀ o, o = 0 ∨ (2 ≤ o ∧ o < 6) ∨ 39 < o → sg1 o = sg o) → ew_E qS w 5 k 24 [some (.inr 9), some (.inr 1), some (.inl (nI (pk5 (xc0 q.2.1)))), some (.inl (nI q.2.2.1)), some (.inl (nI f))] [] sg1 := by
    intro ka d
    induction d with
    | zero =>
      intro f sg1 kb rows hfd hka hA hkb hre hP hT h94 hfo
      refine ew_iload g qd_E_surveyPairs_24 rfl ?_
      refine ew_bipush g qd_E_surveyPairs_26 bp_64 ?_
      refine en_ge g qd_E_surveyPairs_28 (tgt := 94) (by decide) (by omega) (by omega) (fun h => ?_) (fun h => ?_)
      · refine ew_iconst g qd_E_surveyPairs_94 ic_1 ?_
        refine ew_zret g qd_E_surveyPairs_95 hp (by first | exact bI_nar _ | decide +kernel) ?_
        have e : f = 64 := by omega
        subst e
        rw [dF_end hxN] at hP hT
        exact ⟨Or.inl ⟨rfl, ka, kb, rows, hP, hT, hkb, fun _ => hka, by rw [hn2]; exact h94⟩, hfo⟩
      · omega
    | succ d ih =>
      intro f sg1 kb rows hfd hka hA hkb hre hP hT h94 hfo
      refine ew_iload g qd_E_surveyPairs_24 rfl ?_
      refine ew_bipush g qd_E_surveyPairs_26 bp_64 ?_
      refine en_ge g qd_E_surveyPairs_28 (tgt := 94) (by decide) (by omega) (by omega) (fun h => ?_) (fun h => ?_)
      · omega
      · refine ew_aload_n g qd_E_surveyPairs_31 rfl ?_
        refine ew_getR g qd_E_surveyPairs_32 qf_E_12 (by decide) rfl rfl ?_
        refine ew_iload g qd_E_surveyPairs_35 rfl ?_
        refine ew_callV g qd_E_surveyPairs_37 (k_B_isFollowedLikeAnEarlierOne w k.2.1 sg1 (b := 10) (Or.inl rfl) hka h hA (fun j hj => (xF_ok hq j).1)) qv_E_52 (by decide) rfl ⟨_, _, rfl⟩ rfl rfl (Nat.le_of_ble_eq_true rfl) ⟨rfl, rfl, by decide, by decide⟩ (fun v sg2 hv => ?_)
        obtain ⟨hv, rfl⟩ := hv
        rcases hv with ⟨he, rfl⟩ | ⟨he, rfl⟩
        · refine en_if_eq g qd_E_surveyPairs_40 (tgt := 46) (by decide) (by omega) (fun hz => ?_) (fun hz => ?_)
          · exact absurd hz (by decide)
          · refine ew_goto g qd_E_surveyPairs_43 (tgt := 88) (by decide) ?_
            refine ew_iinc g qd_E_surveyPairs_88 (by decide) rfl (ii_1 _) ?_
            refine ew_goto g qd_E_surveyPairs_91 (tgt := 24) (by decide) ?_
            rw [← dF_skip he] at hP hT
            exact ih (f + 1) sg2 kb rows (by omega) hka hA hkb hre hP hT h94 hfo
        · refine en_if_eq g qd_E_surveyPairs_40 (tgt := 46) (by decide) (by omega) (fun hz => ?_) (fun hz => ?_)
          · refine ew_aload_n g qd_E_surveyPairs_46 rfl ?_
            refine ew_getR g qd_E_surveyPairs_47 qf_E_18 (by decide) rfl rfl ?_
            refine ew_aload_n g qd_E_surveyPairs_50 rfl ?_
            refine ew_aload_n g qd_E_surveyPairs_51 rfl ?_
            refine ew_getR g qd_E_surveyPairs_52 qf_E_12 (by decide) rfl rfl ?_
            refine ew_getR g qd_E_surveyPairs_55 qf_E_55 (by decide) rfl rfl ?_
            refine ew_iload g qd_E_surveyPairs_58 rfl ?_
            refine en_iald g qd_E_surveyPairs_60 (by decide) rfl (by omega) (by omega) (hA f h).2.1 ?_
            refine ew_aload_n g qd_E_surveyPairs_61 rfl ?_
            refine ew_getR g qd_E_surveyPairs_62 qf_E_12 (by decide) rfl rfl ?_
            refine ew_iload g qd_E_surveyPairs_65 rfl ?_
            refine ew_callV g qd_E_surveyPairs_67 (k_B_isDestroyed w k.2.1 sg2 (b := 10) (Or.inl rfl) hka h (hA f h)) qv_E_59 (by decide) rfl ⟨_, _, rfl⟩ rfl rfl (Nat.le_of_ble_eq_true rfl) ⟨rfl, rfl, by decide, by decide⟩ (fun v sg3 hv => ?_)
            obtain ⟨rfl, rfl⟩ := hv
            refine ew_iload_n g qd_E_surveyPairs_70 rfl ?_
            refine ew_callV g qd_E_surveyPairs_71 (k_B_fill w k.2.1 sg3 (b := 19) (dead := decide (pHo (xF q f) = 3)) (Or.inr rfl) (code_of hfo) hkb hq.2.2.1 (xF_ok hq f).1) qv_E_44 (by decide) rfl ⟨_, _, rfl⟩ rfl rfl (Nat.le_of_ble_eq_true rfl) ⟨rfl, rfl, by decide, by decide⟩ (fun v sg4 hv => ?_)
            have hxl : ∀ m, m < 64 → xL q (f * 64 + m) = pTx q.1 q.2.2.1 m (pCe (xF q f)) (decide (pHo (xF q f) = 3)) := fun m hm => by
              unfold xL
              rw [if_neg hne, show (f * 64 + m) / 64 = f by omega, show (f * 64 + m) % 64 = m by omega]
            have hreal : ∀ x, x ∈ kb ∨ (∃ m, m < 64 ∧ x = tK (pTx q.1 q.2.2.1 m (pCe (xF q f)) (decide (pHo (xF q f) = 3)))) → ∃ j, j < xN q ∧ (xKey q j).2 = x := fun x hx => by
              rcases hx with z | ⟨m, m1, m2⟩
              · exact hre x z
              · refine ⟨f * 64 + m, by rw [hxN]; omega, ?_⟩
                show tK (xL q (f * 64 + m)) = x
                rw [hxl m m1, m2]
            rcases hv with ⟨rfl, ⟨kb', t, hkb', hkt, hkr, hB⟩, hfr⟩ | ⟨rfl, ⟨big, b1, b2, b3⟩, hfr⟩
            · have ho : ∀ o, o = 0 ∨ (2 ≤ o ∧ o < 6) ∨ (9 ≤ o ∧ o < 20) ∨ 27 < o → sg4 o = sg3 o := fun o hh => hfr o (by omega) (by omega) (by omega) (by omega) (by omega)
              refine en_if_eq g qd_E_surveyPairs_74 (tgt := 86) (by decide) (by omega) (fun hz2 => ?_) (fun hz2 => ?_)
              · exact absurd hz2 (by decide)
              · refine ew_aload_n g qd_E_surveyPairs_77 rfl ?_
                refine ew_iload g qd_E_surveyPairs_78 rfl ?_
                refine ew_callV g qd_E_surveyPairs_80 (k_E_countFollowersOfAllAlike w k.2.1 sg4 hq hn2 h he (yW_fr hka (fun o h1 h2 => ho o (by omega))) (fun j hj => bE_sg (hA j hj) (fun o h1 h2 => ho o (by omega))) hkb' hB (pRel_fr (pRel_kb hP hkt hkb'.2.2.1) (fun o h1 h2 => ho o (by omega))) (fun kd hk => tK1_fr (hT kd hk) (ho 38 (by omega)) (ho 39 (by omega)))) qv_E_62 (by decide) rfl ⟨_, _, rfl⟩ rfl rfl (Nat.le_of_ble_eq_true rfl) ⟨rfl, rfl, by decide, by decide⟩ (fun v sg5 hv => ?_)
                obtain ⟨hv, hfr5⟩ := hv
                have hfo5 : ∀ o, o = 0 ∨ (2 ≤ o ∧ o < 6) ∨ 39 < o → sg5 o = sg o := fun o hh => by rw [hfr5 o (by omega), ho o (by omega)]; exact hfo o hh
                rcases hv with ⟨rfl, rows', hP', hT'⟩ | ⟨rfl, hbad⟩
                · refine en_if_ne g qd_E_surveyPairs_83 (tgt := 88) (by decide) (by omega) (fun hz3 => ?_) (fun hz3 => ?_)
                  · refine ew_iinc g qd_E_surveyPairs_88 (by decide) rfl (ii_1 _) ?_
                    refine ew_goto g qd_E_surveyPairs_91 (tgt := 24) (by decide) ?_
                    refine ih (f + 1) sg5 kb' rows' (by omega) (yW_fr hka (fun o h1 h2 => by rw [hfr5 o (by omega)]; exact ho o (by omega))) (fun j hj => bE_sg (hA j hj) (fun o h1 h2 => by rw [hfr5 o (by omega)]; exact ho o (by omega))) (yW_fr hkb' (fun o h1 h2 => hfr5 o (by omega))) (fun x hx => hreal x (hkr x hx)) hP' hT' ?_ hfo5
                    rw [hfr5 9 (by omega), ho 9 (by omega)]
                    exact h94
                  · exact absurd hz3 (by decide)
                · refine en_if_ne g qd_E_surveyPairs_83 (tgt := 88) (by decide) (by omega) (fun hz3 => ?_) (fun hz3 => ?_)
                  · exact absurd rfl hz3
                  · refine ew_iconst g qd_E_surveyPairs_86 ic_0 ?_
                    refine ew_zret g qd_E_surveyPairs_87 hp (by first | exact bI_nar _ | decide +kernel) ?_
                    exact ⟨Or.inr ⟨rfl, hbad⟩, hfo5⟩
            · refine en_if_eq g qd_E_surveyPairs_74 (tgt := 86) (by decide) (by omega) (fun hz2 => ?_) (fun hz2 => ?_)
              · refine ew_iconst g qd_E_surveyPairs_86 ic_0 ?_
                refine ew_zret g qd_E_surveyPairs_87 hp (by first | exact bI_nar _ | decide +kernel) ?_
                refine ⟨Or.inr ⟨rfl, svBad_of (fun m => (xKey q m).2) (fun z => z.2) (fun m => rfl) b1 b2 (fun x hx => hreal x (b3 x hx))⟩, fun o hh => ?_⟩
                rw [hfr o (by omega) (by omega) (by omega) (by omega) (by omega)]
                exact hfo o hh
              · exact absurd rfl hz2
          · exact absurd rfl hz
  refine ew_aload_n g qd_E_surveyPairs_0 rfl ?_
  refine ew_iconst g qd_E_surveyPairs_1 ic_2 ?_
  refine ew_put g qd_E_surveyPairs_2 qf_E_35 (qp_E_transactions _) (by decide) rfl rfl ?_
  refine ew_aload_n g qd_E_surveyPairs_5 rfl ?_
  refine ew_getR g qd_E_surveyPairs_6 qf_E_12 (by decide) rfl rfl ?_
  refine ew_aload_n g qd_E_surveyPairs_9 rfl ?_
  refine ew_iload_n g qd_E_surveyPairs_10 rfl ?_
  refine ew_iconst g qd_E_surveyPairs_11 ic_0 ?_
  refine en_top bI_f.symm ?_
  refine ew_iload_n g qd_E_surveyPairs_12 rfl ?_
  refine ew_callV g qd_E_surveyPairs_13 (k_B_fill w k.2.1 _ (b := 10) (dead := false) (Or.inl rfl) hcd1 hy1 hq.2.2.1 (xc0_16 hq.2.1)) qv_E_44 (by decide) rfl ⟨_, _, rfl⟩ rfl rfl (Nat.le_of_ble_eq_true rfl) ⟨rfl, rfl, by decide, by decide⟩ (fun v sg1 hv => ?_)
  have hfo : ∀ {sg1 : SG}, bFr 10 (sup (fgE sg) 9 4 (nI 2)) sg1 → ∀ o, o = 0 ∨ (2 ≤ o ∧ o < 6) ∨ 39 < o → sg1 o = sg o := fun {sg1} hfr o ho => by
    rw [hfr o (by omega) (by omega) (by omega) (by omega) (by omega), sup_n (by omega), fgE_n (by omega)]
  rcases hv with ⟨rfl, ⟨ka, t, hka, -, -, hA⟩, hfr⟩ | ⟨rfl, ⟨big, b1, b2, b3⟩, hfr⟩
  · refine en_if_ne g qd_E_surveyPairs_16 (tgt := 21) (by decide) (by omega) (fun hz => ?_) (fun hz => ?_)
    · have hg : ∀ o, 19 ≤ o → sg1 o = fgE sg o := fun o h1 => by
        rw [hfr o (by omega) (by omega) (by omega) (by omega) (by omega), sup_n (by omega)]
      refine ew_iconst g qd_E_surveyPairs_21 ic_0 ?_
      refine ew_istore g qd_E_surveyPairs_22 (by decide) ?_
      refine hmain ka 64 0 sg1 [] [] rfl hka (fun j hj => by rw [← hmod j hj]; exact hA j hj) (fg_yW (by rw [hg 20 (by decide)]; exact fgE_20 sg)) (fun x hx => by cases hx) ?_ ?_ ?_ (hfo hfr)
      · rw [dF_0]
        exact fg_rel _ _ _ _ (by rw [hg 28 (by decide)]; exact fgE_28 sg) (fun p hp => by rw [hg 29 (by decide)]; exact fgE_29 sg hp)
      · rw [dF_0]
        exact fun kd hk => fg_tly _ _ (fun p hp => by rw [hg 38 (by decide)]; exact fgE_38 sg hp) (fun p hp => by rw [hg 39 (by decide)]; exact fgE_39 sg hp) hk
      · rw [hfr 9 (by decide) (by decide) (by decide) (by decide) (by decide), sup_s, pk_us]
    · exact absurd hz (by decide)
  · refine en_if_ne g qd_E_surveyPairs_16 (tgt := 21) (by decide) (by omega) (fun hz => ?_) (fun hz => ?_)
    · exact absurd rfl hz
    · refine ew_iconst g qd_E_surveyPairs_19 ic_0 ?_
      refine ew_zret g qd_E_surveyPairs_20 hp (by first | exact bI_nar _ | decide +kernel) ?_
      refine ⟨Or.inr ⟨rfl, svBad_of (fun m => (xKey q m).1) (fun z => z.1) (fun m => rfl) b1 b2 (fun x hx => ?_)⟩, hfo hfr⟩
      rcases b3 x hx with z | ⟨m, m1, m2⟩
      · cases z
      · refine ⟨m * 64, by rw [hxN]; omega, ?_⟩
        unfold xKey
        rw [if_neg hne, show m * 64 / 64 = m by omega, ← hmod m m1]
        exact m2.symm
end
section
/-! counting: ranks, first numbers -/
theorem cntB_lt {n r : Nat} {P : Nat → Bool} (hr : r < n) (h : P r = false) : cntB n P < n := by
  induction n with
  | zero => omega
  | succ n ih =>
    unfold cntB
    by_cases e : r = n
    · subst e
      have := cntB_le r P
      rw [h]
      simp
      omega
    · have := ih (by omega)
      split <;> omega
theorem cntB_mono {n : Nat} {P Q : Nat → Bool} (h : ∀ j, j < n → P j = true → Q j = true) : cntB n P ≤ cntB n Q := by
  induction n with
  | zero => exact Nat.le_refl _
  | succ n ih =>
    unfold cntB
    have h1 := ih (fun j hj => h j (by omega))
    have h2 := h n (by omega)
    by_cases e : P n = true
    · rw [if_pos e, if_pos (h2 e)]; omega
    · rw [if_neg e]; split <;> omega
theorem cntB_slt {n r : Nat} {P Q : Nat → Bool} (h : ∀ j, j < n → P j = true → Q j = true) (hr : r < n) (hp : P r = false) (hq : Q r = true) : cntB n P < cntB n Q := by
  induction n with
  | zero => omega
  | succ n ih =>
    unfold cntB
    have h2 := h n (by omega)
    by_cases e : r = n
    · subst e
      have h1 := cntB_mono (n := r) (fun j hj => h j (by omega))
      rw [hp, hq]
      simp
      omega
    · have h1 := ih (fun j hj => h j (by omega)) (by omega)
      by_cases e2 : P n = true
      · rw [if_pos e2, if_pos (h2 e2)]; omega
      · rw [if_neg e2]; split <;> omega
theorem cntB_mle {a b : Nat} {P : Nat → Bool} (h : a ≤ b) : cntB a P ≤ cntB b P := by
  induction b with
  | zero => rw [Nat.le_zero.mp h]; exact Nat.le_refl _
  | succ b ih =>
    by_cases e : a = b + 1
    · rw [e]; exact Nat.le_refl _
    · have := ih (by omega)
      show _ ≤ cntB b P + _
      omega
theorem cntB_strict {a b : Nat} {P : Nat → Bool} (h : a < b) (hp : P a = true) : cntB a P < cntB b P := by
  have h1 := cntB_mle (P := P) (show a + 1 ≤ b from h)
  have h2 : cntB (a + 1) P = cntB a P + 1 := by
    show cntB a P + _ = _
    rw [if_pos hp]
  omega
theorem cntB_ex {n p : Nat} {P : Nat → Bool} (h : p < cntB n P) : ∃ j, j < n ∧ P j = true ∧ cntB j P = p := by
  induction n with
  | zero => exact absurd h (Nat.not_lt_zero _)
  | succ n ih =>
    have h : p < cntB n P + (if P n = true then 1 else 0) := h
    by_cases e : p < cntB n P
    · obtain ⟨j, h1, h2, h3⟩ := ih e
      exact ⟨j, by omega, h2, h3⟩
    · by_cases e2 : P n = true
      · rw [if_pos e2] at h
        exact ⟨n, by omega, e2, by omega⟩
      · rw [if_neg e2] at h; omega
theorem cntB_tr {n m : Nat} {P : Nat → Bool} (h : n ≤ m) : cntB m (fun j => decide (j < n) && P j) = cntB n P := by
  induction m with
  | zero => rw [Nat.le_zero.mp h]; rfl
  | succ m ih =>
    by_cases e : n = m + 1
    · subst e
      exact cntB_congr (fun j hj => by simp [hj])
    · show cntB m _ + _ = _
      rw [ih (by omega)]
      have : ¬ m < n := by omega
      simp [this]
theorem cntB_one {n v : Nat} {wf : Nat → Nat} (hi : ∀ a b, a < n → b < n → wf a = wf b → a = b) : cntB n (fun o => decide (wf o = v)) ≤ 1 ∧ ((∃ o, o < n ∧ wf o = v) → cntB n (fun o => decide (wf o = v)) = 1) := by
  induction n with
  | zero => exact ⟨Nat.zero_le _, fun ⟨o, h, _⟩ => by omega⟩
  | succ n ih =>
    obtain ⟨h1, h2⟩ := ih (fun a b ha hb => hi a b (by omega) (by omega))
    show cntB n _ + _ ≤ 1 ∧ (_ → cntB n _ + _ = 1)
    by_cases e : wf n = v
    · have h0 : cntB n (fun o => decide (wf o = v)) = 0 := cntB_none (fun j hj => by
        have : ¬ wf j = v := fun z => by have := hi j n (by omega) (by omega) (z.trans e.symm); omega
        simp [this])
      rw [h0]
      simp [e]
    · simp only [e, decide_false, Bool.false_eq_true, if_false, Nat.add_zero]
      refine ⟨h1, fun ⟨o, ho, hv⟩ => h2 ⟨o, ?_, hv⟩⟩
      by_cases z : o = n
      · subst z; exact absurd hv e
      · omega
theorem cntB_split {n v : Nat} (wf : Nat → Nat) : cntB n (fun o => decide (wf o < v + 1)) = cntB n (fun o => decide (wf o < v)) + cntB n (fun o => decide (wf o = v)) := by
  induction n with
  | zero => rfl
  | succ n ih =>
    show cntB n _ + _ = (cntB n _ + _) + (cntB n _ + _)
    rw [ih]
    by_cases h1 : wf n < v
    · have a1 : wf n < v + 1 := by omega
      have a2 : ¬ wf n = v := by omega
      simp [h1, a1, a2]; omega
    · by_cases h2 : wf n = v
      · have a1 : wf n < v + 1 := by omega
        simp [h1, h2]; omega
      · have a1 : ¬ wf n < v + 1 := by omega
        simp [h1, h2, a1]
theorem cntB_rank {n : Nat} {wf : Nat → Nat} {F : Nat → Bool} (hi : ∀ a b, a < n → b < n → wf a = wf b → a = b) (hF : ∀ o, o < n → F (wf o) = true) : ∀ v, (∀ j, j < v → F j = true → ∃ o, o < n ∧ wf o = j) → cntB n (fun o => decide (wf o < v)) = cntB v F := by
  intro v
  induction v with
  | zero => intro _; exact cntB_none (fun j _ => by simp)
  | succ v ih =>
    intro h
    rw [cntB_split, ih (fun j hj => h j (by omega))]
    show _ = cntB v F + _
    congr 1
    obtain ⟨h1, h2⟩ := cntB_one (v := v) hi
    cases hv : F v with
    | true => rw [if_pos rfl]; exact h2 (h v (by omega) hv)
    | false =>
      rw [if_neg (by simp)]
      refine cntB_none (fun j hj => ?_)
      have : ¬ wf j = v := fun z => by have := hF j hj; rw [z, hv] at this; cases this
      simp [this]
theorem cntB_list {n : Nat} {F : Nat → Bool} : ∀ (l : List Nat), l.Nodup → (∀ m, m ∈ l → m < n ∧ F m = true) → l.length ≤ cntB n F := by
  induction n with
  | zero =>
    intro l _ h
    cases l with
    | nil => exact Nat.le_refl _
    | cons a l => exact absurd (h a List.mem_cons_self).1 (Nat.not_lt_zero _)
  | succ n ih =>
    intro l hn h
    by_cases hm : n ∈ l
    · have hF := (h n hm).2
      have h1 := ih (l.erase n) (hn.erase n) (fun m hm' => by
        have h2 := (List.Nodup.mem_erase_iff hn).mp hm'
        have := h m h2.2
        exact ⟨by omega, this.2⟩)
      rw [List.length_erase_of_mem hm] at h1
      show _ ≤ cntB n F + _
      rw [if_pos hF]
      omega
    · have h1 := ih l hn (fun m hm' => by
        have := h m hm'
        have : m ≠ n := fun z => hm (z ▸ hm')
        exact ⟨by omega, (h m hm').2⟩)
      show _ ≤ cntB n F + _
      omega
def rk (n : Nat) (wf : Nat → Nat) (r : Nat) : Nat := cntB n (fun o => decide (wf o < wf r))
theorem k_P_putInOrder (w : WC) (l : Launch) (sg : SG) {n : Nat} {wf : Nat → Nat} (hc : sg 28 8 = nI n) (hn : n ≤ 40) (hw : ∀ r, r < n → sg 33 r = nI (wf r) ∧ wf r < 2 ^ 31) (hi : ∀ a b, a < n → b < n → wf a = wf b → a = b) : ew_M qS w l qy_P_putInOrder qw_P_putInOrder qr_P_putInOrder [.inr 28] sg (fun v sg' => v = none ∧ (∀ r, r < n → sg' 36 (rk n wf r) = nI r) ∧ ∀ o, o ≠ 36 → sg' o = sg o) := by
  refine ew_entry (ws' := qwg) (own := qR_P) (cc := qc_P_putInOrder) (nL := 4) (ret := none) qnk (by decide) rfl rfl (Nat.le_of_ble_eq_true rfl) ?_
  intro k g hp
  have key : ∀ (d i : Nat) (sg1 : SG) (x2 x3 : Option MV), i + d = n → (∀ r, r < i → sg1 36 (rk n wf r) = nI r) → (∀ o, o ≠ 36 → sg1 o = sg o) → ew_E qS w 4 k 2 [some (.inr 28), some (.inl (nI i)), x2, x3] [] sg1 := by
    intro d
    induction d with
    | zero =>
      intro i sg1 x2 x3 hid hr hf
      refine ew_iload_n g qd_P_putInOrder_2 rfl ?_
      refine ew_aload_n g qd_P_putInOrder_3 rfl ?_
      refine ew_get g qd_P_putInOrder_4 qf_P_36 (by decide) rfl rfl ?_
      refine en_top (show sg1 28 8 = nI n by rw [hf 28 (by decide)]; exact hc) ?_
      refine en_ge g qd_P_putInOrder_7 (tgt := 59) (by decide) (by omega) (by omega) (fun h => ?_) (fun h => ?_)
      · refine ew_vret g qd_P_putInOrder_59 hp ?_
        exact ⟨rfl, fun r hr' => hr r (by omega), hf⟩
      · omega
    | succ d ih =>
      intro i sg1 x2 x3 hid hr hf
      have h33 : ∀ r, r < n → sg1 33 r = nI (wf r) := fun r hr' => by rw [hf 33 (by decide)]; exact (hw r hr').1
      refine ew_iload_n g qd_P_putInOrder_2 rfl ?_
      refine ew_aload_n g qd_P_putInOrder_3 rfl ?_
      refine ew_get g qd_P_putInOrder_4 qf_P_36 (by decide) rfl rfl ?_
      refine en_top (show sg1 28 8 = nI n by rw [hf 28 (by decide)]; exact hc) ?_
      refine en_ge g qd_P_putInOrder_7 (tgt := 59) (by decide) (by omega) (by omega) (fun h => ?_) (fun h => ?_)
      · omega
      · have hwi := (hw i h).2
        have inner : ∀ (d' j : Nat), j + d' = n → ew_E qS w 4 k 14 [some (.inr 28), some (.inl (nI i)), some (.inl (nI (cntB j (fun o => decide (wf o < wf i))))), some (.inl (nI j))] [] sg1 := by
          intro d'
          induction d' with
          | zero =>
            intro j hj
            refine ew_iload_n g qd_P_putInOrder_14 rfl ?_
            refine ew_aload_n g qd_P_putInOrder_15 rfl ?_
            refine ew_get g qd_P_putInOrder_16 qf_P_36 (by decide) rfl rfl ?_
            refine en_top (show sg1 28 8 = nI n by rw [hf 28 (by decide)]; exact hc) ?_
            refine en_ge g qd_P_putInOrder_19 (tgt := 46) (by decide) (by omega) (by omega) (fun hh => ?_) (fun hh => ?_)
            · have ej : j = n := by omega
              subst ej
              have hlt : cntB j (fun o => decide (wf o < wf i)) < j := cntB_lt h (by simp)
              refine ew_aload_n g qd_P_putInOrder_46 rfl ?_
              refine ew_getR g qd_P_putInOrder_47 qf_P_33 (by decide) rfl rfl ?_
              refine ew_iload_n g qd_P_putInOrder_50 rfl ?_
              refine ew_iload_n g qd_P_putInOrder_51 rfl ?_
              refine en_iast g qd_P_putInOrder_52 (by decide) rfl (by omega) (by omega) ?_
              refine ew_iinc g qd_P_putInOrder_53 (by decide) rfl (ii_1 _) ?_
              refine ew_goto g qd_P_putInOrder_56 (tgt := 2) (by decide) ?_
              refine ih (i + 1) _ _ _ (by omega) (fun r hr' => ?_) (fun o ho => by rw [sup_n ho]; exact hf o ho)
              rw [sup_s]
              by_cases er : r = i
              · subst er
                exact pk_us
              · rw [pk_un (fun z => ?_)]
                · exact hr r (by omega)
                · have hne : wf r ≠ wf i := fun y => er (hi r i (by omega) (by omega) y)
                  rcases Nat.lt_or_gt_of_ne hne with y | y
                  · have := cntB_slt (n := j) (r := r) (P := fun o => decide (wf o < wf r)) (Q := fun o => decide (wf o < wf i)) (fun o _ ho => by simp at ho ⊢; omega) (by omega) (by simp) (by simp; exact y)
                    have z : cntB j (fun o => decide (wf o < wf r)) = _ := z
                    omega
                  · have := cntB_slt (n := j) (r := i) (P := fun o => decide (wf o < wf i)) (Q := fun o => decide (wf o < wf r)) (fun o _ ho => by simp at ho ⊢; omega) (by omega) (by simp) (by simp; exact y)
                    have z : cntB j (fun o => decide (wf o < wf r)) = _ := z
                    omega
            · omega
          | succ d' ih' =>
            intro j hj
            have hwj := (hw j (by omega)).2
            refine ew_iload_n g qd_P_putInOrder_14 rfl ?_
            refine ew_aload_n g qd_P_putInOrder_15 rfl ?_
            refine ew_get g qd_P_putInOrder_16 qf_P_36 (by decide) rfl rfl ?_
            refine en_top (show sg1 28 8 = nI n by rw [hf 28 (by decide)]; exact hc) ?_
            refine en_ge g qd_P_putInOrder_19 (tgt := 46) (by decide) (by omega) (by omega) (fun hh => ?_) (fun hh => ?_)
            · omega
            · refine ew_aload_n g qd_P_putInOrder_22 rfl ?_
              refine ew_getR g qd_P_putInOrder_23 qf_P_24 (by decide) rfl rfl ?_
              refine ew_iload_n g qd_P_putInOrder_26 rfl ?_
              refine en_iald g qd_P_putInOrder_27 (by decide) rfl (by omega) (by omega) (h33 j hh) ?_
              refine ew_aload_n g qd_P_putInOrder_28 rfl ?_
              refine ew_getR g qd_P_putInOrder_29 qf_P_24 (by decide) rfl rfl ?_
              refine ew_iload_n g qd_P_putInOrder_32 rfl ?_
              refine en_iald g qd_P_putInOrder_33 (by decide) rfl (by omega) (by omega) (h33 i h) ?_
              refine en_ge g qd_P_putInOrder_34 (tgt := 40) (by decide) (by omega) (by omega) (fun hge => ?_) (fun hge => ?_)
              · refine ew_iinc g qd_P_putInOrder_40 (by decide) rfl (ii_1 _) ?_
                refine ew_goto g qd_P_putInOrder_43 (tgt := 14) (by decide) ?_
                have e : cntB (j + 1) (fun o => decide (wf o < wf i)) = cntB j (fun o => decide (wf o < wf i)) := by
                  show cntB j _ + _ = _
                  rw [if_neg (by simp; omega), Nat.add_zero]
                rw [← e]
                exact ih' (j + 1) (by omega)
              · refine ew_iinc g qd_P_putInOrder_37 (by decide) rfl (ii_1 _) ?_
                refine ew_iinc g qd_P_putInOrder_40 (by decide) rfl (ii_1 _) ?_
                refine ew_goto g qd_P_putInOrder_43 (tgt := 14) (by decide) ?_
                have e : cntB (j + 1) (fun o => decide (wf o < wf i)) = cntB j (fun o => decide (wf o < wf i)) + 1 := by
                  show cntB j _ + _ = _
                  rw [if_pos (by simp; omega)]
                rw [← e]
                exact ih' (j + 1) (by omega)
        refine ew_iconst g qd_P_putInOrder_10 ic_0 ?_
        refine ew_istore_n g qd_P_putInOrder_11 (by decide) ?_
        refine ew_iconst g qd_P_putInOrder_12 ic_0 ?_
        refine ew_istore_n g qd_P_putInOrder_13 (by decide) ?_
        exact inner n 0 (by omega)
  refine ew_iconst g qd_P_putInOrder_0 ic_0 ?_
  refine ew_istore_n g qd_P_putInOrder_1 (by decide) ?_
  exact key n 0 sg _ _ (by omega) (fun r hr => absurd hr (Nat.not_lt_zero r)) (fun o _ => rfl)
end
section
/-! what is answered of an exploration -/
def xFst (q : XP) (m : Nat) : Bool := decide (∀ j, j < m → xKey q j ≠ xKey q m)
def xCount (q : XP) : Nat := cntB (xN q) (xFst q)
def xwit (q : XP) (p : Nat) : Nat := ((List.range (xN q)).find? (fun w => xFst q w && decide (cntB w (xFst q) = p))).getD 0
def xIn (q : XP) (w : Nat) : Nat := cntB (xN q) (fun m => decide (xKey q m = xKey q w))
def xAll (q : XP) (w i : Nat) : Bool := decide (∀ m, m < xN q → xKey q m = xKey q w → xCel q m i = xCel q w i)
def xRisk (q : XP) (w kd i : Nat) : Nat := cntB (xN q) (fun m => decide (xKey q m = xKey q w) && xFnd q m kd i)
def xLst (q : XP) (kd i : Nat) : Int32 := match (List.range (xN q)).find? (fun m => xFnd q m kd i) with
  | some m => nI m
  | none => -1
theorem xwit_ok {q : XP} {p : Nat} (h : p < xCount q) : xwit q p < xN q ∧ xFst q (xwit q p) = true ∧ cntB (xwit q p) (xFst q) = p := by
  obtain ⟨j, h1, h2, h3⟩ := cntB_ex h
  unfold xwit
  cases hf : (List.range (xN q)).find? (fun w => xFst q w && decide (cntB w (xFst q) = p)) with
  | none =>
    have := List.find?_eq_none.mp hf j (List.mem_range.mpr h1)
    rw [h2, h3] at this
    simp at this
  | some w =>
    have m1 := List.mem_range.mp (List.mem_of_find?_eq_some hf)
    have m2 := List.find?_some hf
    simp only [Bool.and_eq_true, decide_eq_true_eq] at m2
    exact ⟨m1, m2.1, m2.2⟩
theorem xwit_eq {q : XP} {p w : Nat} (h1 : w < xN q) (h2 : xFst q w = true) (h3 : cntB w (xFst q) = p) : p < xCount q ∧ xwit q p = w := by
  have hp : p < xCount q := by rw [← h3]; exact cntB_strict h1 h2
  refine ⟨hp, ?_⟩
  obtain ⟨m1, m2, m3⟩ := xwit_ok hp
  rcases Nat.lt_trichotomy (xwit q p) w with z | z | z
  · have := cntB_strict z m2; omega
  · exact z
  · have := cntB_strict z h2; omega
theorem xFst_t {q : XP} {m : Nat} : xFst q m = true ↔ ∀ j, j < m → xKey q j ≠ xKey q m := by unfold xFst; exact decide_eq_true_iff
theorem xLst_some {q : XP} {kd i m : Nat} (h1 : m < xN q) (h2 : xFnd q m kd i = true) (h3 : ∀ j, j < xN q → xFnd q j kd i = true → m ≤ j) : xLst q kd i = nI m := by
  unfold xLst
  cases hf : (List.range (xN q)).find? (fun m => xFnd q m kd i) with
  | none =>
    have := List.find?_eq_none.mp hf m (List.mem_range.mpr h1)
    exact absurd h2 this
  | some w =>
    have m1 := List.mem_range.mp (List.mem_of_find?_eq_some hf)
    have m2 := List.find?_some hf
    have m3 := h3 w m1 m2
    by_cases e : w = m
    · rw [e]
    · exfalso
      obtain ⟨-, as, bs, hab, hno⟩ := List.find?_eq_some_iff_append.mp hf
      have hmem : m ∈ as := by
        have hs := List.pairwise_lt_range (n := xN q)
        rw [hab] at hs
        have hm : m ∈ as ++ w :: bs := by rw [← hab]; exact List.mem_range.mpr h1
        rcases List.mem_append.mp hm with z | z
        · exact z
        · rcases List.mem_cons.mp z with z | z
          · exact absurd z.symm e
          · have := (List.pairwise_cons.mp (List.pairwise_append.mp hs).2.1).1 m z
            omega
      have := hno m hmem
      rw [h2] at this
      cases this
theorem xLst_none {q : XP} {kd i : Nat} (h : ∀ j, j < xN q → xFnd q j kd i = false) : xLst q kd i = -1 := by
  unfold xLst
  rw [List.find?_eq_none.mpr (fun j hj => by rw [h j (List.mem_range.mp hj)]; decide)]
theorem cntB_all {n : Nat} {P : Nat → Bool} (h : ∀ j, j < n → P j = true) : cntB n P = n := by
  induction n with
  | zero => rfl
  | succ n ih =>
    show cntB n P + _ = _
    rw [ih (fun j hj => h j (by omega)), if_pos (h n (by omega))]
theorem bad_count {q : XP} (h : svBad q) : 40 < xCount q := by
  obtain ⟨ms, h1, h2, h3⟩ := h
  have ex : ∀ m, ∃ j, j ≤ m ∧ xKey q j = xKey q m ∧ xFst q j = true := fun m => by
    obtain ⟨j, hj, hl⟩ := pk_least (fun j => xKey q j = xKey q m) ⟨m, rfl⟩
    refine ⟨j, Nat.le_of_not_lt (fun z => hl m z rfl), hj, xFst_t.mpr (fun i hi z => hl i hi (z.trans hj))⟩
  obtain ⟨f, hf⟩ := Classical.axiomOfChoice ex
  have hn : (ms.map f).Nodup := nod_map h3 f (xKey q) (fun m => (hf m).2.1)
  have := cntB_list (n := xN q) (F := xFst q) (ms.map f) hn (fun m hm => by
    obtain ⟨m', hm', rfl⟩ := List.mem_map.mp hm
    exact ⟨Nat.lt_of_le_of_lt (hf m').1 (h2 m' hm'), (hf m').2.2⟩)
  rw [List.length_map, h1] at this
  exact this
/-- the keys of path's transactions -/
def kOf (q : XP) (w u : Nat) : List Nat × Nat := if u = q.2.2.2 - 1 then (xKey q w).2 else (xKey q w).1
def xRow (sg : SG) (q : XP) (ka kb : WKL) (p r : Nat) : Prop := sg 36 p = nI r ∧ r < 40 ∧ (q.2.2.2 = 2 → ∃ a, ka[a]? = some (xKey q (xwit q p)).1 ∧ sg 30 r = nI a) ∧ (∃ b, kb[b]? = some (xKey q (xwit q p)).2 ∧ sg 31 r = nI b) ∧ sg 32 r = nI (xIn q (xwit q p)) ∧ sg 33 r = nI (xwit q p) ∧ sg 34 r = nI (pk5 (xCel q (xwit q p))) ∧ (∃ df, df < 1048576 ∧ sg 35 r = nI df ∧ ∀ i, i < 5 → (df / 2 ^ (4 * i) % 16 = 0 ↔ xAll q (xwit q p) i = true)) ∧ ∀ kd i, kd < 5 → i < 32 → sg 39 (r * 5 * 32 + (kd * 32 + i)) = nI (xRisk q (xwit q p) kd i)
def xQ (sg : SG) (q : XP) : Prop := qOK q ∧ xCount q ≤ 40 ∧ sg 28 8 = nI (xCount q) ∧ sg 9 4 = nI q.2.2.2 ∧ (∃ ka kb, yW sg 19 kb ∧ (q.2.2.2 = 2 → yW sg 10 ka) ∧ ∀ p, p < xCount q → ∃ r, xRow sg q ka kb p r) ∧ ∀ kd i, kd < 5 → i < 32 → sg 38 (kd * 32 + i) = xLst q kd i
def xEx (sg : SG) (e : Option XP) : Prop := match e with
  | none => sg 28 8 = nI 0 ∧ ∀ p, p < 160 → sg 38 p = -1
  | some q => xQ sg q
theorem sv_wf {sg : SG} {q : XP} {ka kb : WKL} {rows : List KEY} (hP : pRel sg ka kb rows (fun j => decide (j < xN q)) (xKey q) (xCel q)) (hN : xN q ≤ 4096) : ∃ wf : Nat → Nat, (∀ r, r < rows.length → ∃ k, rows[r]? = some k ∧ wf r < xN q ∧ xKey q (wf r) = k ∧ xFst q (wf r) = true ∧ sg 33 r = nI (wf r)) ∧ (∀ a b, a < rows.length → b < rows.length → wf a = wf b → a = b) ∧ (∀ j, j < xN q → xFst q j = true → ∃ o, o < rows.length ∧ wf o = j) ∧ rows.length = xCount q ∧ ∀ r, r < rows.length → rk rows.length wf r = cntB (wf r) (xFst q) := by
  obtain ⟨r1, r2, r3, r4, r5, r6⟩ := hP
  have ex : ∀ r, ∃ wt, r < rows.length → ∃ k, rows[r]? = some k ∧ wt < xN q ∧ xKey q wt = k ∧ xFst q wt = true ∧ sg 33 r = nI wt ∧ ∀ m, m < xN q → xKey q m = k → wt ≤ m := fun r => by
    by_cases hr : r < rows.length
    · have hk := List.getElem?_eq_getElem hr
      obtain ⟨-, -, -, wt, w1, w2, w3, w4, w5, -⟩ := r6 r _ hk
      have hmin : ∀ m, m < xN q → xKey q m = rows[r] → wt ≤ m := fun m hm z => w4 m (by omega) (decide_eq_true hm) z
      refine ⟨wt, fun _ => ⟨_, hk, of_decide_eq_true w2, w3, xFst_t.mpr (fun j hj z => ?_), w5, hmin⟩⟩
      have := hmin j (Nat.lt_trans hj (of_decide_eq_true w2)) (z.trans w3)
      omega
    · exact ⟨0, fun z => absurd z hr⟩
  obtain ⟨wf, hwf⟩ := Classical.axiomOfChoice ex
  have inj : ∀ a b, a < rows.length → b < rows.length → wf a = wf b → a = b := fun a b ha hb e => by
    obtain ⟨ka', a1, -, a3, -⟩ := hwf a ha
    obtain ⟨kb', b1, -, b3, -⟩ := hwf b hb
    rw [e, b3] at a3
    subst a3
    exact nod_at r3 a1 b1
  have sur : ∀ j, j < xN q → xFst q j = true → ∃ o, o < rows.length ∧ wf o = j := fun j hj hF => by
    obtain ⟨r, hr⟩ := List.getElem?_of_mem (r4 j (by omega) (decide_eq_true hj))
    have hrl := (List.getElem?_eq_some_iff.mp hr).1
    obtain ⟨k', a1, a2, a3, a4, -, a6⟩ := hwf r hrl
    rw [hr] at a1
    cases a1
    refine ⟨r, hrl, ?_⟩
    have h1 := a6 j hj rfl
    by_cases e : wf r = j
    · exact e
    · exact absurd a3 (xFst_t.mp hF (wf r) (by omega))
  have hF : ∀ o, o < rows.length → xFst q (wf o) = true := fun o ho => by obtain ⟨_, -, -, -, h, -⟩ := hwf o ho; exact h
  have hlt : ∀ o, o < rows.length → wf o < xN q := fun o ho => by obtain ⟨_, -, h, -⟩ := hwf o ho; exact h
  refine ⟨wf, fun r hr => ?_, inj, sur, ?_, fun r hr => ?_⟩
  · obtain ⟨k', a1, a2, a3, a4, a5, -⟩ := hwf r hr
    exact ⟨k', a1, a2, a3, a4, a5⟩
  · have h1 := cntB_rank inj hF (xN q) sur
    rw [cntB_all (fun j hj => by simp [hlt j hj])] at h1
    exact h1
  · exact cntB_rank inj hF (wf r) (fun j hj hf => sur j (Nat.lt_trans hj (hlt r hr)) hf)
theorem k_E_conclude_t (w : WC) (l : Launch) (sg : SG) {q : XP} (hq : qOK q) (h : svOK sg q) : ew_M qS w l qy_E_conclude qw_E_conclude qr_E_conclude [.inr 9, .inl (nI 1)] sg (fun v sg' => v = some (.inl (nI (xCount q))) ∧ xCount q ≤ 40 ∧ xQ sg' q ∧ ∀ o, o ≠ 36 → sg' o = sg o) := by
  obtain ⟨ka, kb, rows, hP, hT, hkb, hka, h94⟩ := h
  have hN : xN q ≤ 4096 := by unfold xN; split <;> decide
  obtain ⟨wf, h1, inj, sur, hcount, hrk⟩ := sv_wf hP hN
  have hr40 := hP.1
  have h8 := hP.2.1
  refine ew_entry (ws' := qwg) (own := qR_E) (cc := qc_E_conclude) (nL := 2) (ret := some .int) qnk (by decide) rfl rfl (Nat.le_of_ble_eq_true rfl) ?_
  intro k g hp
  refine ew_iload_n g qd_E_conclude_0 rfl ?_
  refine en_if_ne g qd_E_conclude_1 (tgt := 11) (by decide) (by omega) (fun hz => ?_) (fun hz => ?_)
  · refine ew_aload_n g qd_E_conclude_11 rfl ?_
    refine ew_getR g qd_E_conclude_12 qf_E_24 (by decide) rfl rfl ?_
    refine ew_callV g qd_E_conclude_15 (k_P_putInOrder w k.2.1 sg h8 hr40 (fun r hr => by obtain ⟨_, -, z2, -, -, z5⟩ := h1 r hr; exact ⟨z5, by omega⟩) inj) qv_E_66 (by decide) rfl ⟨_, _, rfl⟩ rfl rfl (Nat.le_of_ble_eq_true rfl) ⟨rfl, rfl, by decide, by decide⟩ (fun v sg1 hv => ?_)
    obtain ⟨rfl, hord, hfr⟩ := hv
    refine ew_aload_n g qd_E_conclude_18 rfl ?_
    refine ew_getR g qd_E_conclude_19 qf_E_24 (by decide) rfl rfl ?_
    refine ew_get g qd_E_conclude_22 qf_E_69 (by decide) rfl rfl ?_
    refine en_top (show sg1 28 8 = nI rows.length by rw [hfr 28 (by decide)]; exact h8) ?_
    refine ew_iret g qd_E_conclude_25 hp ?_
    rw [hcount] at hr40 h8 ⊢
    refine ⟨rfl, hr40, ⟨hq, hr40, by rw [hfr 28 (by decide)]; exact h8, by rw [hfr 9 (by decide)]; exact h94, ⟨ka, kb, yW_fr hkb (fun o _ _ => hfr o (by omega)), fun z => yW_fr (hka z) (fun o _ _ => hfr o (by omega)), fun p hp => ?_⟩, fun kd i hk hi => ?_⟩, hfr⟩
    · obtain ⟨m1, m2, m3⟩ := xwit_ok hp
      obtain ⟨r, hr, hwr⟩ := sur _ m1 m2
      obtain ⟨k', a1, a2, a3, a4, a5⟩ := h1 r hr
      have e36 : sg1 36 p = nI r := by
        have := hord r hr
        rw [hrk r hr, hwr, m3] at this
        exact this
      rw [hwr] at a3 a5
      subst a3
      obtain ⟨⟨a, p1, p1'⟩, p2, p3, wt, w1, w2, w3, w4, w5, w6, df, d1, d2, d3⟩ := hP.2.2.2.2.2 r _ a1
      have ewt : wt = xwit q p := (nI_eq (by omega) (by omega)).mp (w5.symm.trans a5)
      subst ewt
      refine ⟨r, e36, by omega, fun _ => ⟨a, p1, by rw [hfr 30 (by decide)]; exact p1'⟩, ?_, ?_, by rw [hfr 33 (by decide)]; exact a5, by rw [hfr 34 (by decide)]; exact w6, ⟨df, d1, by rw [hfr 35 (by decide)]; exact d2, fun i hi => ?_⟩, fun kd i hk hi => ?_⟩
      · rw [hfr 31 (by decide)]; exact p2
      · rw [hfr 32 (by decide), p3]
        exact congrArg nI (cntB_tr hN)
      · rw [d3 i hi]
        unfold xAll
        rw [decide_eq_true_iff]
        exact ⟨fun z m hm hk => z m (by omega) (decide_eq_true hm) hk, fun z m _ hd hk => z m (of_decide_eq_true hd) hk⟩
      · rw [hfr 39 (by decide), ((hT kd hk) i hi).2 r (by omega)]
        refine congrArg nI ((cntB_tr hN).trans (cntB_congr (fun m _ => ?_)))
        rw [a1]
        congr 1
        exact decide_eq_decide.mpr ⟨fun z => (Option.some.inj z).symm, fun z => by rw [z]⟩
    · rw [hfr 38 (by decide)]
      rcases ((hT kd hk) i hi).1 with ⟨z1, z2⟩ | ⟨lm, y1, y2, y3, y4, y5⟩
      · rw [z1, xLst_none (fun j hj => z2 j (by omega) (decide_eq_true hj))]
      · rw [y5, xLst_some (of_decide_eq_true y2) y3 (fun j hj hf => y4 j (by omega) (decide_eq_true hj) hf)]
  · exact absurd hz (by decide)
theorem k_E_conclude_f (w : WC) (l : Launch) (sg : SG) : ew_M qS w l qy_E_conclude qw_E_conclude qr_E_conclude [.inr 9, .inl (nI 0)] sg (fun v sg' => v = some (.inl (-2)) ∧ xEx sg' none ∧ ∀ o, o < 9 ∨ 39 < o → sg' o = sg o) := by
  refine ew_entry (ws' := qwg) (own := qR_E) (cc := qc_E_conclude) (nL := 2) (ret := some .int) qnk (by decide) rfl rfl (Nat.le_of_ble_eq_true rfl) ?_
  intro k g hp
  refine ew_iload_n g qd_E_conclude_0 rfl ?_
  refine en_if_ne g qd_E_conclude_1 (tgt := 11) (by decide) (by omega) (fun hz => ?_) (fun hz => ?_)
  · exact absurd rfl hz
  · refine ew_aload_n g qd_E_conclude_4 rfl ?_
    refine ew_callV g qd_E_conclude_5 (k_E_forget w k.2.1 sg) qv_E_65 (by decide) rfl ⟨_, _, rfl⟩ rfl rfl (Nat.le_of_ble_eq_true rfl) ⟨rfl, rfl, by decide, by decide⟩ (fun v sg1 hv => ?_)
    obtain ⟨rfl, rfl⟩ := hv
    refine ew_bipush g qd_E_conclude_8 bp_m2 ?_
    refine ew_iret g qd_E_conclude_10 hp ?_
    exact ⟨rfl, ⟨fgE_28 sg, fun p hp => fgE_38 sg hp⟩, fun o ho => fgE_n ho⟩
theorem k_E_waysOf (w : WC) (l : Launch) (sg : SG) {n u : Nat} (h : sg 9 4 = nI n) (hn : n = 1 ∨ n = 2) (hu : u < n) : ew_M qS w l qy_E_waysOf qw_E_waysOf qr_E_waysOf [.inr 9, .inl (nI u)] sg (fun v sg' => v = some (.inr (if u = n - 1 then 20 else 11)) ∧ sg' = sg) := by
  refine ew_entry (ws' := qwg) (own := qR_E) (cc := qc_E_waysOf) (nL := 2) (ret := some (.object "ContractProbe$Ways")) qnk (by decide) rfl rfl (Nat.le_of_ble_eq_true rfl) ?_
  intro k g hp
  refine ew_iload_n g qd_E_waysOf_0 rfl ?_
  refine ew_aload_n g qd_E_waysOf_1 rfl ?_
  refine ew_get g qd_E_waysOf_2 qf_E_35 (by decide) rfl rfl ?_
  refine en_top h ?_
  refine ew_iconst g qd_E_waysOf_5 ic_1 ?_
  refine ew_isub g qd_E_waysOf_6 ?_
  refine en_top (pk_sub (by omega)) ?_
  refine en_ne g qd_E_waysOf_7 (tgt := 20) (by decide) (by omega) (by omega) (fun hh => ?_) (fun hh => ?_)
  · refine ew_aload_n g qd_E_waysOf_20 rfl ?_
    refine ew_getR g qd_E_waysOf_21 qf_E_12 (by decide) rfl rfl ?_
    refine ew_getR g qd_E_waysOf_24 qf_E_72 (by decide) rfl rfl ?_
    refine ew_aret g qd_E_waysOf_27 hp ?_
    rw [if_neg hh]
    exact ⟨rfl, rfl⟩
  · refine ew_aload_n g qd_E_waysOf_10 rfl ?_
    refine ew_getR g qd_E_waysOf_11 qf_E_18 (by decide) rfl rfl ?_
    refine ew_getR g qd_E_waysOf_14 qf_E_72 (by decide) rfl rfl ?_
    refine ew_goto g qd_E_waysOf_17 (tgt := 27) (by decide) ?_
    refine ew_aret g qd_E_waysOf_27 hp ?_
    rw [if_pos hh]
    exact ⟨rfl, rfl⟩
theorem k_E_wayOn (w : WC) (l : Launch) (sg : SG) {n u r : Nat} (h : sg 9 4 = nI n) (hn : n = 1 ∨ n = 2) (hu : u < n) (hr : r < 40) : ew_M qS w l qy_E_wayOn qw_E_wayOn qr_E_wayOn [.inr 9, .inl (nI r), .inl (nI u)] sg (fun v sg' => v = some (.inl (if u = n - 1 then sg 31 r else sg 30 r)) ∧ sg' = sg) := by
  refine ew_entry (ws' := qwg) (own := qR_E) (cc := qc_E_wayOn) (nL := 3) (ret := some .int) qnk (by decide) rfl rfl (Nat.le_of_ble_eq_true rfl) ?_
  intro k g hp
  refine ew_iload_n g qd_E_wayOn_0 rfl ?_
  refine ew_aload_n g qd_E_wayOn_1 rfl ?_
  refine ew_get g qd_E_wayOn_2 qf_E_35 (by decide) rfl rfl ?_
  refine en_top h ?_
  refine ew_iconst g qd_E_wayOn_5 ic_1 ?_
  refine ew_isub g qd_E_wayOn_6 ?_
  refine en_top (pk_sub (by omega)) ?_
  refine en_ne g qd_E_wayOn_7 (tgt := 22) (by decide) (by omega) (by omega) (fun hh => ?_) (fun hh => ?_)
  · refine ew_aload_n g qd_E_wayOn_22 rfl ?_
    refine ew_getR g qd_E_wayOn_23 qf_E_24 (by decide) rfl rfl ?_
    refine ew_getR g qd_E_wayOn_26 qf_E_79 (by decide) rfl rfl ?_
    refine ew_iload_n g qd_E_wayOn_29 rfl ?_
    refine en_iald g qd_E_wayOn_30 (by decide) rfl (by omega) (by omega) rfl ?_
    refine ew_iret g qd_E_wayOn_31 hp ?_
    rw [if_neg hh]
    exact ⟨rfl, rfl⟩
  · refine ew_aload_n g qd_E_wayOn_10 rfl ?_
    refine ew_getR g qd_E_wayOn_11 qf_E_24 (by decide) rfl rfl ?_
    refine ew_getR g qd_E_wayOn_14 qf_E_76 (by decide) rfl rfl ?_
    refine ew_iload_n g qd_E_wayOn_17 rfl ?_
    refine en_iald g qd_E_wayOn_18 (by decide) rfl (by omega) (by omega) rfl ?_
    refine ew_goto g qd_E_wayOn_19 (tgt := 31) (by decide) ?_
    refine ew_iret g qd_E_wayOn_31 hp ?_
    rw [if_pos hh]
    exact ⟨rfl, rfl⟩
end
section
/-! the abstract machine: code, balance, limit, what was explored, what was replayed -/
abbrev AS : Type := CDE × Nat × Nat × Option XP × Option (Nat → Nat)
def cdAdd (cd : CDE) (o b : Nat) : CDE := (cd.1 + 1, nup cd.2.1 cd.1 o, nup cd.2.2 cd.1 b)
def cd0 : CDE := (0, fun _ => 0, fun _ => 0)
def aAdd (a : AS) (x y : Int32) : Int32 × AS := match inR x 25, inR y 16 with
  | some o, some b => if a.1.1 < 32 then (nI a.1.1, (cdAdd a.1 o b, a.2)) else (-1, a)
  | _, _ => (-1, a)
def aClear (a : AS) : AS := (cd0, a.2)
def aStart (a : AS) (x y : Int32) : Bool × AS := match inR x 16, inR y 41 with
  | some b, some n => if 1 ≤ n then (true, (a.1, b, n, a.2.2.2)) else (false, a)
  | _, _ => (false, a)
def aXp (a : AS) (n : Nat) : XP := (a.1, a.2.1, a.2.2.1, n)
def aExp (a : AS) (n : Nat) : Int32 × AS := if xCount (aXp a n) ≤ 40 then (nI (xCount (aXp a n)), (a.1, a.2.1, a.2.2.1, some (aXp a n), a.2.2.2.2)) else (-2, (a.1, a.2.1, a.2.2.1, none, a.2.2.2.2))
def aExplore (a : AS) (x : Int32) : Int32 × AS := if x = nI 1 then aExp a 1 else if x = nI 2 then aExp a 2 else (-1, a)
def eN (e : Option XP) : Nat := match e with
  | none => 0
  | some q => xCount q
def aPath (e : Option XP) (x : Int32) (f : XP → Nat → Int32) : Int32 := match e with
  | none => -1
  | some q => match inR x (xCount q) with
    | none => -1
    | some p => f q (xwit q p)
def aInputs (e : Option XP) (x : Int32) : Int32 := aPath e x (fun q w => nI (xIn q w))
def aWitness (e : Option XP) (x : Int32) : Int32 := aPath e x (fun _ w => nI w)
def aEnd (e : Option XP) (x t : Int32) : Int32 := aPath e x (fun q w => match inR t q.2.2.2 with
  | none => -1
  | some u => nI (kOf q w u).2)
def aStep (e : Option XP) (x t kk : Int32) : Int32 := aPath e x (fun q w => match inR t q.2.2.2 with
  | none => -1
  | some u => match inR kk (kOf q w u).1.length with
    | some i => nI ((kOf q w u).1.getD i 0)
    | none => -1)
def aLeft (e : Option XP) (x y : Int32) : Int32 := aPath e x (fun q w => match inR y 5 with
  | none => -1
  | some i => nI (xCel q w i + (if xAll q w i = true then 16 else 0)))
def aFinding (e : Option XP) (x y : Int32) : Int32 := match e, inR x 5, inR y 32 with
  | some q, some kd, some i => xLst q kd i
  | _, _, _ => -1
def aRisk (e : Option XP) (x y z : Int32) : Int32 := aPath e x (fun q w => match inR y 5, inR z 32 with
  | some kd, some i => nI (xRisk q w kd i)
  | _, _ => -1)
def rpOf (r : PM) : Nat → Nat := fun i => if i < 5 then pCe r i else if i = 5 then pGa r else pDe r
def aRep (a : AS) (n m : Nat) : Int32 × AS := (nI (pHo (xL (aXp a n) m)), (a.1, a.2.1, a.2.2.1, a.2.2.2.1, some (rpOf (xL (aXp a n) m))))
def aReplay (a : AS) (x y : Int32) : Int32 × AS := if x = nI 1 then (match inR y 64 with | some m => aRep a 1 m | none => (-1, a)) else if x = nI 2 then (match inR y 4096 with | some m => aRep a 2 m | none => (-1, a)) else (-1, a)
def aReplayed (a : AS) (x : Int32) : Int32 := match a.2.2.2.2, inR x 7 with
  | some f, some i => nI (f i)
  | _, _ => -1
def xRp (sg : SG) (rp : Option (Nat → Nat)) : Prop := match rp with
  | none => sg 0 3 = bI false
  | some f => sg 0 3 = bI true ∧ ∀ i, i < 7 → sg 40 i = nI (f i)
/-- the object under test stands for the abstract machine -/
def xS (sg : SG) (a : AS) : Prop := xCode sg a.1 ∧ (sg 0 4 = nI a.2.1 ∧ a.2.1 < 16) ∧ (sg 0 5 = nI a.2.2.1 ∧ 1 ≤ a.2.2.1 ∧ a.2.2.1 ≤ 40) ∧ xEx sg a.2.2.2.1 ∧ xRp sg a.2.2.2.2
def xFo (sg sg' : SG) : Prop := ∀ o, 41 ≤ o → sg' o = sg o
theorem find_cg {α : Type} {p q : α → Bool} : ∀ (l : List α), (∀ x, x ∈ l → p x = q x) → l.find? p = l.find? q := by
  intro l
  induction l with
  | nil => intro _; rfl
  | cons a l ih =>
    intro h
    rw [List.find?_cons, List.find?_cons, h a List.mem_cons_self, ih (fun x hx => h x (List.mem_cons_of_mem _ hx))]
theorem mkAt_add (cd : CDE) (o b a : Nat) : mkAt (cdAdd cd o b) a = match mkAt cd a with
    | some k => some k
    | none => if o = 16 ∧ b = a then some cd.1 else none := by
  have e1 : (List.range cd.1).find? (fun k => decide ((cdAdd cd o b).2.1 k = 16 ∧ (cdAdd cd o b).2.2 k = a)) = mkAt cd a := find_cg _ (fun k hk => by
    have hk := List.mem_range.mp hk
    have h1 : (cdAdd cd o b).2.1 k = cd.2.1 k := if_neg (by omega)
    have h2 : (cdAdd cd o b).2.2 k = cd.2.2 k := if_neg (by omega)
    rw [h1, h2])
  have h1 : (cdAdd cd o b).2.1 cd.1 = o := if_pos rfl
  have h2 : (cdAdd cd o b).2.2 cd.1 = b := if_pos rfl
  have e0 : mkAt (cdAdd cd o b) a = (List.range (cd.1 + 1)).find? (fun k => decide ((cdAdd cd o b).2.1 k = 16 ∧ (cdAdd cd o b).2.2 k = a)) := rfl
  rw [e0, List.range_succ, List.find?_append, e1]
  cases hm : mkAt cd a with
  | some k => rfl
  | none =>
    simp only [List.find?_cons, h1, h2, Option.none_or, List.find?_nil]
    by_cases c : o = 16 ∧ b = a
    · simp [c]
    · rw [if_neg c, decide_eq_false c]
theorem cdAdd_ok {cd : CDE} {o b : Nat} (h : cdOK cd) (hn : cd.1 < 32) (ho : o < 25) (hb : b < 16) : cdOK (cdAdd cd o b) := by
  refine ⟨hn, fun i hi => ?_⟩
  have hi : i < cd.1 + 1 := hi
  show nup cd.2.1 cd.1 o i < 25 ∧ nup cd.2.2 cd.1 b i < 16
  unfold nup
  by_cases e : i = cd.1
  · rw [if_pos e, if_pos e]; exact ⟨ho, hb⟩
  · rw [if_neg e, if_neg e]; exact h.2 i (by omega)
theorem k_C_append (w : WC) (l : Launch) (sg : SG) {cd : CDE} {o b : Nat} (h : xCode sg cd) (ho : o < 25) (hb : b < 16) : ew_M qS w l qy_C_append qw_C_append qr_C_append [.inr 2, .inl (nI o), .inl (nI b)] sg (fun v sg' => ((cd.1 < 32 ∧ v = some (.inl (nI cd.1)) ∧ xCode sg' (cdAdd cd o b)) ∨ (¬ cd.1 < 32 ∧ v = some (.inl (-1)) ∧ sg' = sg)) ∧ ∀ q, q < 2 ∨ 5 < q → sg' q = sg q) := by
  obtain ⟨h1, h2, h3, h4⟩ := id h
  have h32 := h1.1
  refine ew_entry (ws' := qwg) (own := qR_C) (cc := qc_C_append) (nL := 3) (ret := some .int) qnk (by decide) rfl rfl (Nat.le_of_ble_eq_true rfl) ?_
  intro k g hp
  refine ew_aload_n g qd_C_append_0 rfl ?_
  refine ew_get g qd_C_append_1 qf_C_21 (by decide) rfl rfl ?_
  refine en_top h2 ?_
  refine ew_bipush g qd_C_append_4 bp_32 ?_
  refine en_lt g qd_C_append_6 (tgt := 11) (by decide) (by omega) (by omega) (fun hlt => ?_) (fun hlt => ?_)
  · have hfin : ∀ (sg1 : SG), sg1 2 3 = nI cd.1 → sg1 3 = upd (sg 3) cd.1 (nI o) → sg1 4 = upd (sg 4) cd.1 (nI b) → (∀ a, a < 16 → sg1 5 a = mkI (cdAdd cd o b) a) → (∀ q, q < 2 ∨ 5 < q → sg1 q = sg q) → ew_E qS w 3 k 57 [some (.inr 2), some (.inl (nI o)), some (.inl (nI b))] [] sg1 := by
      intro sg1 s1 s2 s3 s4 s5
      refine ew_aload_n g qd_C_append_57 rfl ?_
      refine ew_dup g qd_C_append_58 ?_
      refine ew_get g qd_C_append_59 qf_C_21 (by decide) rfl rfl ?_
      refine en_top s1 ?_
      refine ew_iconst g qd_C_append_62 ic_1 ?_
      refine ew_iadd g qd_C_append_63 ?_
      refine en_top (nI_add _ _) ?_
      refine ew_put g qd_C_append_64 qf_C_21 (qp_C_size _) (by decide) rfl rfl ?_
      refine ew_aload_n g qd_C_append_67 rfl ?_
      refine ew_get g qd_C_append_68 qf_C_21 (by decide) rfl rfl ?_
      refine en_top (show sup sg1 2 3 (nI (cd.1 + 1)) 2 3 = nI (cd.1 + 1) by rw [sup_s, pk_us]) ?_
      refine ew_iconst g qd_C_append_71 ic_1 ?_
      refine ew_isub g qd_C_append_72 ?_
      refine en_top (pk_sub (by omega)) ?_
      refine ew_iret g qd_C_append_73 hp ?_
      refine ⟨Or.inl ⟨hlt, rfl, cdAdd_ok h1 hlt ho hb, by rw [sup_s, pk_us]; rfl, fun i hi => ?_, fun a ha => by rw [sup_n (by decide)]; exact s4 a ha⟩, fun q hq => by rw [sup_n (by omega)]; exact s5 q hq⟩
      have hi : i < cd.1 + 1 := hi
      rw [sup_n (by decide), sup_n (by decide), s2, s3]
      show upd (sg 3) cd.1 (nI o) i = nI (nup cd.2.1 cd.1 o i) ∧ upd (sg 4) cd.1 (nI b) i = nI (nup cd.2.2 cd.1 b i)
      unfold upd nup
      by_cases e : i = cd.1
      · rw [if_pos e, if_pos e, if_pos e, if_pos e]; exact ⟨rfl, rfl⟩
      · rw [if_neg e, if_neg e, if_neg e, if_neg e]; exact h3 i (by omega)
    have hmk : ∀ a, mkI (cdAdd cd o b) a = match mkAt cd a with | some k => nI k | none => if o = 16 ∧ b = a then nI cd.1 else -1 := fun a => by
      unfold mkI
      rw [mkAt_add]
      cases mkAt cd a with
      | some k => rfl
      | none =>
        by_cases c : o = 16 ∧ b = a
        · simp only [if_pos c]
        · simp only [if_neg c]
    have hold : ∀ a, a < 16 → ¬ (o = 16 ∧ b = a ∧ mkAt cd a = none) → sg 5 a = mkI (cdAdd cd o b) a := fun a ha hno => by
      rw [h4 a ha, hmk a]
      unfold mkI
      cases hm : mkAt cd a with
      | some k => rfl
      | none => simp only []; rw [if_neg (fun z => hno ⟨z.1, z.2, hm⟩)]
    refine ew_aload_n g qd_C_append_11 rfl ?_
    refine ew_getR g qd_C_append_12 qf_C_9 (by decide) rfl rfl ?_
    refine ew_aload_n g qd_C_append_15 rfl ?_
    refine ew_get g qd_C_append_16 qf_C_21 (by decide) rfl rfl ?_
    refine en_top h2 ?_
    refine ew_iload_n g qd_C_append_19 rfl ?_
    refine en_iast g qd_C_append_20 (by decide) rfl (by omega) (by omega) ?_
    refine ew_aload_n g qd_C_append_21 rfl ?_
    refine ew_getR g qd_C_append_22 qf_C_15 (by decide) rfl rfl ?_
    refine ew_aload_n g qd_C_append_25 rfl ?_
    refine ew_get g qd_C_append_26 qf_C_21 (by decide) rfl rfl ?_
    refine en_top (show sup sg 3 cd.1 (nI o) 2 3 = nI cd.1 by rw [sup_n (by decide)]; exact h2) ?_
    refine ew_iload_n g qd_C_append_29 rfl ?_
    refine en_iast g qd_C_append_30 (by decide) rfl (by omega) (by omega) ?_
    refine ew_iload_n g qd_C_append_31 rfl ?_
    refine ew_bipush g qd_C_append_32 bp_16 ?_
    have s1 : sup (sup sg 3 cd.1 (nI o)) 4 cd.1 (nI b) 2 3 = nI cd.1 := by rw [sup_n (by decide), sup_n (by decide)]; exact h2
    have s2 : sup (sup sg 3 cd.1 (nI o)) 4 cd.1 (nI b) 3 = upd (sg 3) cd.1 (nI o) := by rw [sup_n (by decide), sup_s]
    have s3 : sup (sup sg 3 cd.1 (nI o)) 4 cd.1 (nI b) 4 = upd (sg 4) cd.1 (nI b) := by rw [sup_s, sup_n (by decide)]
    have s5 : sup (sup sg 3 cd.1 (nI o)) 4 cd.1 (nI b) 5 = sg 5 := by rw [sup_n (by decide), sup_n (by decide)]
    have s6 : ∀ q, q < 2 ∨ 5 < q → sup (sup sg 3 cd.1 (nI o)) 4 cd.1 (nI b) q = sg q := fun q hq => by rw [sup_n (by omega), sup_n (by omega)]
    refine en_ne g qd_C_append_34 (tgt := 57) (by decide) (by omega) (by omega) (fun ho16 => ?_) (fun ho16 => ?_)
    · exact hfin _ s1 s2 s3 (fun a ha => by rw [s5]; exact hold a ha (fun z => ho16 z.1)) s6
    · refine ew_aload_n g qd_C_append_37 rfl ?_
      refine ew_getR g qd_C_append_38 qf_C_18 (by decide) rfl rfl ?_
      refine ew_iload_n g qd_C_append_41 rfl ?_
      refine en_iald g qd_C_append_42 (by decide) rfl (by omega) (by omega) (show sup (sup sg 3 cd.1 (nI o)) 4 cd.1 (nI b) 5 b = mkI cd b by rw [s5]; exact h4 b hb) ?_
      refine ew_iconst g qd_C_append_43 ic_m1 ?_
      refine ew_icmp_ne g qd_C_append_44 (tgt := 57) (by decide) (fun hm => ?_) (fun hm => ?_)
      · exact hfin _ s1 s2 s3 (fun a ha => by rw [s5]; exact hold a ha (fun z => hm ((mkI_m h32 b).mpr (z.2.1 ▸ z.2.2)))) s6
      · have hmn := (mkI_m h32 b).mp hm
        refine ew_aload_n g qd_C_append_47 rfl ?_
        refine ew_getR g qd_C_append_48 qf_C_18 (by decide) rfl rfl ?_
        refine ew_iload_n g qd_C_append_51 rfl ?_
        refine ew_aload_n g qd_C_append_52 rfl ?_
        refine ew_get g qd_C_append_53 qf_C_21 (by decide) rfl rfl ?_
        refine en_top s1 ?_
        refine en_iast g qd_C_append_56 (by decide) rfl (by omega) (by omega) ?_
        refine hfin _ (by rw [sup_n (by decide)]; exact s1) (by rw [sup_n (by decide)]; exact s2) (by rw [sup_n (by decide)]; exact s3) (fun a ha => ?_) (fun q hq => by rw [sup_n (by omega)]; exact s6 q hq)
        rw [sup_s]
        by_cases e : a = b
        · subst e
          rw [pk_us, hmk, hmn]
          exact (if_pos ⟨ho16, rfl⟩).symm
        · rw [pk_un e, s5]
          exact hold a ha (fun z => e z.2.1.symm)
  · refine ew_iconst g qd_C_append_9 ic_m1 ?_
    refine ew_iret g qd_C_append_10 hp ?_
    exact ⟨Or.inr ⟨by omega, rfl, rfl⟩, fun _ _ => rfl⟩
theorem k_C_wipe (w : WC) (l : Launch) (sg : SG) : ew_M qS w l qy_C_wipe qw_C_wipe qr_C_wipe [.inr 2] sg (fun v sg' => v = none ∧ xCode sg' cd0 ∧ ∀ q, q < 2 ∨ 5 < q → sg' q = sg q) := by
  refine ew_entry (ws' := qwg) (own := qR_C) (cc := qc_C_wipe) (nL := 1) (ret := none) qnk (by decide) rfl rfl (Nat.le_of_ble_eq_true rfl) ?_
  intro k g hp
  refine ew_aload_n g qd_C_wipe_0 rfl ?_
  refine ew_iconst g qd_C_wipe_1 ic_0 ?_
  refine ew_put g qd_C_wipe_2 qf_C_21 (qp_C_size _) (by decide) rfl rfl ?_
  refine ew_aload_n g qd_C_wipe_5 rfl ?_
  refine ew_getR g qd_C_wipe_6 qf_C_18 (by decide) rfl rfl ?_
  refine ew_iconst g qd_C_wipe_9 ic_m1 ?_
  refine ew_callS g qd_C_wipe_10 (k_A_fill w k.2.1 _ (-1) (o := 5) (n := 16) (by decide) rfl (by decide)) qs_C_25 rfl rfl (Nat.le_of_ble_eq_true rfl) ⟨rfl, rfl, by decide, by decide⟩ (fun v sg1 hv => ?_)
  obtain ⟨rfl, rfl⟩ := hv
  refine ew_vret g qd_C_wipe_13 hp ?_
  refine ⟨rfl, ⟨⟨by decide, fun i hi => absurd hi (Nat.not_lt_zero i)⟩, ?_, fun i hi => absurd hi (Nat.not_lt_zero i), fun a ha => ?_⟩, fun q hq => ?_⟩
  · rw [sfil_n (by decide), sup_s, pk_us]; rfl
  · rw [sfil_at ha]; rfl
  · rw [sfil_n (by omega), sup_n (by omega)]
theorem xQ_fr {sg sg' : SG} {q : XP} (h : xQ sg q) (hf : ∀ o, 9 ≤ o → o ≤ 39 → sg' o = sg o) : xQ sg' q := by
  obtain ⟨h1, h2, h3, h4, ⟨ka, kb, y1, y2, y3⟩, h6⟩ := h
  refine ⟨h1, h2, by rw [hf 28 (by decide) (by decide)]; exact h3, by rw [hf 9 (by decide) (by decide)]; exact h4, ⟨ka, kb, yW_fr y1 (fun o a b => hf o (by omega) (by omega)), fun z => yW_fr (y2 z) (fun o a b => hf o (by omega) (by omega)), fun p hp => ?_⟩, by rw [hf 38 (by decide) (by decide)]; exact h6⟩
  obtain ⟨r, hr⟩ := y3 p hp
  refine ⟨r, ?_⟩
  unfold xRow
  rw [hf 36 (by decide) (by decide), hf 30 (by decide) (by decide), hf 31 (by decide) (by decide), hf 32 (by decide) (by decide), hf 33 (by decide) (by decide), hf 34 (by decide) (by decide), hf 35 (by decide) (by decide), hf 39 (by decide) (by decide)]
  exact hr
theorem xEx_fr {sg sg' : SG} {e : Option XP} (h : xEx sg e) (hf : ∀ o, 9 ≤ o → o ≤ 39 → sg' o = sg o) : xEx sg' e := by
  cases e with
  | none =>
    have h : sg 28 8 = nI 0 ∧ ∀ p, p < 160 → sg 38 p = -1 := h
    show sg' 28 8 = nI 0 ∧ ∀ p, p < 160 → sg' 38 p = -1
    rw [hf 28 (by decide) (by decide), hf 38 (by decide) (by decide)]
    exact h
  | some q => exact xQ_fr h hf
theorem xRp_fr {sg sg' : SG} {e : Option (Nat → Nat)} (h : xRp sg e) (h0 : sg' 0 3 = sg 0 3) (h40 : sg' 40 = sg 40) : xRp sg' e := by
  cases e with
  | none =>
    have h : sg 0 3 = bI false := h
    show sg' 0 3 = bI false
    rw [h0]; exact h
  | some f =>
    have h : sg 0 3 = bI true ∧ ∀ i, i < 7 → sg 40 i = nI (f i) := h
    show sg' 0 3 = bI true ∧ ∀ i, i < 7 → sg' 40 i = nI (f i)
    rw [h0, h40]; exact h
theorem inR_b {x : Int32} {n : Nat} (hn : n < 2 ^ 31) : bI (decide (0 ≤ x ∧ x < nI n)) = match inR x n with | some _ => nI 1 | none => nI 0 := by
  rcases inR_cases x hn with ⟨h1, h2⟩ | ⟨j, h1, rfl, h3⟩
  · rw [h1, decide_eq_false h2]; rfl
  · rw [h3, decide_eq_true ⟨nI_pos' (by omega), nI_lt h1 hn⟩]; rfl
theorem inR_s {x : Int32} {n j : Nat} (hn : n < 2 ^ 31) (h : inR x n = some j) : j < n ∧ x = nI j := by
  rcases inR_cases x hn with ⟨h1, -⟩ | ⟨i, h1, h2, h3⟩
  · rw [h] at h1; cases h1
  · rw [h] at h3; cases h3; exact ⟨h1, h2⟩
theorem k_X_add (w : WC) (l : Launch) (sg : SG) {a : AS} (h : xS sg a) (x y : Int32) : ew_M qS w l qy_X_add qw_X_add qr_X_add [.inr 0, .inl x, .inl y] sg (fun v sg' => v = some (.inl (aAdd a x y).1) ∧ xS sg' (aAdd a x y).2 ∧ xFo sg sg') := by
  refine ew_entry (ws' := qwg) (own := qR_X) (cc := qc_X_add) (nL := 3) (ret := some .int) qnk (by decide) rfl rfl (Nat.le_of_ble_eq_true rfl) ?_
  intro k g hp
  have hno : aAdd a x y = (-1, a) → ew_E qS w 3 k 18 [some (.inr 0), some (.inl x), some (.inl y)] [] sg := by
    intro e
    refine ew_iconst g qd_X_add_18 ic_m1 ?_
    refine ew_iret g qd_X_add_19 hp ?_
    rw [e]
    exact ⟨rfl, h, fun _ _ => rfl⟩
  refine ew_iload_n g qd_X_add_0 rfl ?_
  refine ew_bipush g qd_X_add_1 bp_25 ?_
  refine ew_callS g qd_X_add_3 (k_X_isBelow w k.2.1 sg _ _) qs_X_38 rfl rfl (Nat.le_of_ble_eq_true rfl) ⟨rfl, rfl, by decide, by decide⟩ (fun v sg1 hv => ?_)
  obtain ⟨rfl, rfl⟩ := hv
  cases hx : inR x 25 with
  | none =>
    refine en_top (show _ = nI 0 by rw [inR_b (by decide), hx]) ?_
    refine en_if_eq g qd_X_add_6 (tgt := 18) (by decide) (by omega) (fun hz => ?_) (fun hz => ?_)
    · exact hno (by unfold aAdd; rw [hx])
    · exact absurd rfl hz
  | some o =>
    refine en_top (show _ = nI 1 by rw [inR_b (by decide), hx]) ?_
    refine en_if_eq g qd_X_add_6 (tgt := 18) (by decide) (by omega) (fun hz => ?_) (fun hz => ?_)
    · exact absurd hz (by decide)
    · refine ew_iload_n g qd_X_add_9 rfl ?_
      refine ew_bipush g qd_X_add_10 bp_16 ?_
      refine ew_callS g qd_X_add_12 (k_X_isBelow w k.2.1 sg1 _ _) qs_X_38 rfl rfl (Nat.le_of_ble_eq_true rfl) ⟨rfl, rfl, by decide, by decide⟩ (fun v sg2 hv => ?_)
      obtain ⟨rfl, rfl⟩ := hv
      cases hy : inR y 16 with
      | none =>
        refine en_top (show _ = nI 0 by rw [inR_b (by decide), hy]) ?_
        refine en_if_ne g qd_X_add_15 (tgt := 20) (by decide) (by omega) (fun hz => ?_) (fun hz => ?_)
        · exact absurd rfl hz
        · exact hno (by unfold aAdd; rw [hx, hy])
      | some b =>
        obtain ⟨o1, rfl⟩ := inR_s (by decide) hx
        obtain ⟨b1, rfl⟩ := inR_s (by decide) hy
        refine en_top (show _ = nI 1 by rw [inR_b (by decide), hy]) ?_
        refine en_if_ne g qd_X_add_15 (tgt := 20) (by decide) (by omega) (fun hz => ?_) (fun hz => ?_)
        · refine ew_aload_n g qd_X_add_20 rfl ?_
          refine ew_getR g qd_X_add_21 qf_X_12 (by decide) rfl rfl ?_
          refine ew_getR g qd_X_add_24 qf_X_42 (by decide) rfl rfl ?_
          refine ew_iload_n g qd_X_add_27 rfl ?_
          refine ew_iload_n g qd_X_add_28 rfl ?_
          refine ew_callV g qd_X_add_29 (k_C_append w k.2.1 sg2 h.1 o1 b1) qv_X_46 (by decide) rfl ⟨_, _, rfl⟩ rfl rfl (Nat.le_of_ble_eq_true rfl) ⟨rfl, rfl, by decide, by decide⟩ (fun v sg3 hv => ?_)
          obtain ⟨hv, hfr⟩ := hv
          have e : aAdd a (nI o) (nI b) = if a.1.1 < 32 then (nI a.1.1, (cdAdd a.1 o b, a.2)) else (-1, a) := by unfold aAdd; rw [hx, hy]
          rcases hv with ⟨c1, rfl, c3⟩ | ⟨c1, rfl, rfl⟩
          · refine ew_iret g qd_X_add_32 hp ?_
            rw [e, if_pos c1]
            obtain ⟨h1, h2, h3, h4, h5⟩ := h
            refine ⟨rfl, ⟨c3, by rw [hfr 0 (by omega)]; exact h2, by rw [hfr 0 (by omega)]; exact h3, xEx_fr h4 (fun o a b => hfr o (by omega)), xRp_fr h5 (by rw [hfr 0 (by omega)]) (hfr 40 (by omega))⟩, fun o ho => hfr o (by omega)⟩
          · refine ew_iret g qd_X_add_32 hp ?_
            rw [e, if_neg c1]
            exact ⟨rfl, h, fun _ _ => rfl⟩
        · exact absurd hz (by decide)
theorem k_X_clear (w : WC) (l : Launch) (sg : SG) {a : AS} (h : xS sg a) : ew_M qS w l qy_X_clear qw_X_clear qr_X_clear [.inr 0] sg (fun v sg' => v = none ∧ xS sg' (aClear a) ∧ xFo sg sg') := by
  obtain ⟨h1, h2, h3, h4, h5⟩ := h
  refine ew_entry (ws' := qwg) (own := qR_X) (cc := qc_X_clear) (nL := 1) (ret := none) qnk (by decide) rfl rfl (Nat.le_of_ble_eq_true rfl) ?_
  intro k g hp
  refine ew_aload_n g qd_X_clear_0 rfl ?_
  refine ew_getR g qd_X_clear_1 qf_X_12 (by decide) rfl rfl ?_
  refine ew_getR g qd_X_clear_4 qf_X_42 (by decide) rfl rfl ?_
  refine ew_callV g qd_X_clear_7 (k_C_wipe w k.2.1 sg) qv_X_52 (by decide) rfl ⟨_, _, rfl⟩ rfl rfl (Nat.le_of_ble_eq_true rfl) ⟨rfl, rfl, by decide, by decide⟩ (fun v sg1 hv => ?_)
  obtain ⟨rfl, c3, hfr⟩ := hv
  refine ew_vret g qd_X_clear_10 hp ?_
  exact ⟨rfl, ⟨c3, by rw [hfr 0 (by omega)]; exact h2, by rw [hfr 0 (by omega)]; exact h3, xEx_fr h4 (fun o a b => hfr o (by omega)), xRp_fr h5 (by rw [hfr 0 (by omega)]) (hfr 40 (by omega))⟩, fun o ho => hfr o (by omega)⟩
theorem lim_c {y : Int32} {n : Nat} (h : inR y 41 = some n) : (y < nI 1 ↔ n < 1) ∧ y ≤ nI 40 := by
  obtain ⟨h1, rfl⟩ := inR_s (by decide) h
  exact ⟨nI_ltI (by omega) (by decide), (nI_leI (by omega) (by decide)).mpr (by omega)⟩
theorem lim_n {y : Int32} (h : inR y 41 = none) : y < nI 1 ∨ ¬ y ≤ nI 40 := by
  rcases inR_cases y (n := 41) (by decide) with ⟨-, h2⟩ | ⟨j, -, -, h3⟩
  · have e0 : (0 : Int32).toInt = 0 := by decide +kernel
    have e1 : (nI 1).toInt = 1 := by decide +kernel
    have e40 : (nI 40).toInt = 40 := by decide +kernel
    have e41 : (nI 41).toInt = 41 := by decide +kernel
    rw [Int32.le_iff_toInt_le, Int32.lt_iff_toInt_lt, e0, e41] at h2
    rw [Int32.lt_iff_toInt_lt, Int32.le_iff_toInt_le, e1, e40]
    omega
  · rw [h] at h3; cases h3
theorem k_X_start (w : WC) (l : Launch) (sg : SG) {a : AS} (h : xS sg a) (x y : Int32) : ew_M qS w l qy_X_start qw_X_start qr_X_start [.inr 0, .inl x, .inl y] sg (fun v sg' => v = some (.inl (bI (aStart a x y).1)) ∧ xS sg' (aStart a x y).2 ∧ xFo sg sg') := by
  refine ew_entry (ws' := qwg) (own := qR_X) (cc := qc_X_start) (nL := 3) (ret := some .boolean) qnk (by decide) rfl rfl (Nat.le_of_ble_eq_true rfl) ?_
  intro k g hp
  have hno : aStart a x y = (false, a) → ew_E qS w 3 k 20 [some (.inr 0), some (.inl x), some (.inl y)] [] sg := by
    intro e
    refine ew_iconst g qd_X_start_20 ic_0 ?_
    refine ew_zret g qd_X_start_21 hp (by first | exact bI_nar _ | decide +kernel) ?_
    rw [e]
    exact ⟨rfl, h, fun _ _ => rfl⟩
  refine ew_iload_n g qd_X_start_0 rfl ?_
  refine ew_bipush g qd_X_start_1 bp_16 ?_
  refine ew_callS g qd_X_start_3 (k_X_isBelow w k.2.1 sg _ _) qs_X_38 rfl rfl (Nat.le_of_ble_eq_true rfl) ⟨rfl, rfl, by decide, by decide⟩ (fun v sg1 hv => ?_)
  obtain ⟨rfl, rfl⟩ := hv
  cases hx : inR x 16 with
  | none =>
    refine en_top (show _ = nI 0 by rw [inR_b (by decide), hx]) ?_
    refine en_if_eq g qd_X_start_6 (tgt := 20) (by decide) (by omega) (fun hz => ?_) (fun hz => ?_)
    · exact hno (by unfold aStart; rw [hx])
    · exact absurd rfl hz
  | some b =>
    refine en_top (show _ = nI 1 by rw [inR_b (by decide), hx]) ?_
    refine en_if_eq g qd_X_start_6 (tgt := 20) (by decide) (by omega) (fun hz => ?_) (fun hz => ?_)
    · exact absurd hz (by decide)
    · refine ew_iload_n g qd_X_start_9 rfl ?_
      refine ew_iconst g qd_X_start_10 ic_1 ?_
      cases hy : inR y 41 with
      | none =>
        have hno := hno (by unfold aStart; rw [hx, hy])
        refine ew_icmp_lt g qd_X_start_11 (tgt := 20) (by decide) (fun hl => ?_) (fun hl => ?_)
        · exact hno
        · refine ew_iload_n g qd_X_start_14 rfl ?_
          refine ew_bipush g qd_X_start_15 bp_40 ?_
          refine ew_icmp_le g qd_X_start_17 (tgt := 22) (by decide) (fun hg => ?_) (fun hg => ?_)
          · rcases lim_n hy with z | z
            · exact absurd z hl
            · exact absurd hg z
          · exact hno
      | some n =>
        obtain ⟨c1, c2⟩ := lim_c hy
        have e : aStart a x y = if 1 ≤ n then (true, (a.1, b, n, a.2.2.2)) else (false, a) := by unfold aStart; rw [hx, hy]
        refine ew_icmp_lt g qd_X_start_11 (tgt := 20) (by decide) (fun hl => ?_) (fun hl => ?_)
        · exact hno (by rw [e, if_neg (by have := c1.mp hl; omega)])
        · have hn1 : 1 ≤ n := by
            have : ¬ n < 1 := fun z => hl (c1.mpr z)
            omega
          obtain ⟨b1, rfl⟩ := inR_s (by decide) hx
          obtain ⟨n1, rfl⟩ := inR_s (by decide) hy
          refine ew_iload_n g qd_X_start_14 rfl ?_
          refine ew_bipush g qd_X_start_15 bp_40 ?_
          refine ew_icmp_le g qd_X_start_17 (tgt := 22) (by decide) (fun hg => ?_) (fun hg => ?_)
          · refine ew_aload_n g qd_X_start_22 rfl ?_
            refine ew_iload_n g qd_X_start_23 rfl ?_
            refine ew_put g qd_X_start_24 qf_X_31 (qp_X_balance _) (by decide) rfl rfl ?_
            refine ew_aload_n g qd_X_start_27 rfl ?_
            refine ew_iload_n g qd_X_start_28 rfl ?_
            refine ew_put g qd_X_start_29 qf_X_35 (qp_X_limit _) (by decide) rfl rfl ?_
            refine ew_iconst g qd_X_start_32 ic_1 ?_
            refine ew_zret g qd_X_start_33 hp (by first | exact bI_nar _ | decide +kernel) ?_
            rw [e, if_pos hn1]
            obtain ⟨h1, h2, h3, h4, h5⟩ := h
            refine ⟨rfl, ⟨?_, ⟨?_, b1⟩, ⟨?_, hn1, show n ≤ 40 by omega⟩, xEx_fr h4 (fun o a b => by rw [sup_n (by omega), sup_n (by omega)]), xRp_fr h5 ?_ ?_⟩, fun o ho => by rw [sup_n (by omega), sup_n (by omega)]⟩
            · unfold xCode at h1 ⊢
              simp only [sup_n (show (2 : Nat) ≠ 0 by decide), sup_n (show (3 : Nat) ≠ 0 by decide), sup_n (show (4 : Nat) ≠ 0 by decide), sup_n (show (5 : Nat) ≠ 0 by decide)]
              exact h1
            · rw [sup_s, pk_un (by decide), sup_s, pk_us]
            · rw [sup_s, pk_us]
            · rw [sup_s, pk_un (by decide), sup_s, pk_un (by decide)]
            · rw [sup_n (by decide), sup_n (by decide)]
          · exact absurd c2 hg
end
section
theorem xEx_n {sg : SG} {e : Option XP} (h : xEx sg e) : sg 28 8 = nI (eN e) ∧ eN e ≤ 40 := by
  cases e with
  | none => exact ⟨h.1, by decide⟩
  | some q => exact ⟨h.2.2.1, h.2.1⟩
theorem aPath_n {e : Option XP} {x : Int32} (f : XP → Nat → Int32) (h : inR x (eN e) = none) : aPath e x f = -1 := by
  cases e with
  | none => rfl
  | some q =>
    have h : inR x (xCount q) = none := h
    unfold aPath
    simp only [h]
theorem aPath_s {e : Option XP} {x : Int32} {p : Nat} {sg : SG} (he : xEx sg e) (h : inR x (eN e) = some p) : ∃ q, e = some q ∧ xQ sg q ∧ p < xCount q ∧ ∀ f, aPath e x f = f q (xwit q p) := by
  have hn := (xEx_n he).2
  obtain ⟨h1, h2⟩ := inR_s (by omega) h
  cases e with
  | none => exact absurd h1 (Nat.not_lt_zero _)
  | some q =>
    refine ⟨q, rfl, he, h1, fun f => ?_⟩
    have h : inR x (xCount q) = some p := h
    unfold aPath
    simp only [h]
theorem xN_le (q : XP) : xN q ≤ 4096 := by unfold xN; split <;> decide
theorem k_X_explore (w : WC) (l : Launch) (sg : SG) {a : AS} (h : xS sg a) (x : Int32) : ew_M qS w l qy_X_explore qw_X_explore qr_X_explore [.inr 0, .inl x] sg (fun v sg' => v = some (.inl (aExplore a x).1) ∧ xS sg' (aExplore a x).2 ∧ xFo sg sg') := by
  obtain ⟨h1, h2, h3, h4, h5⟩ := id h
  have hqk : ∀ n, n = 1 ∨ n = 2 → qOK (aXp a n) := fun n hn => ⟨h1.1, h2.2, h3.2.2, hn⟩
  have fb : fgE sg 0 4 = nI a.2.1 := by rw [fgE_n (by omega)]; exact h2.1
  have fl : fgE sg 0 5 = nI a.2.2.1 := by rw [fgE_n (by omega)]; exact h3.1
  refine ew_entry (ws' := qwg) (own := qR_X) (cc := qc_X_explore) (nL := 3) (ret := some .int) qnk (by decide) rfl rfl (Nat.le_of_ble_eq_true rfl) ?_
  intro k g hp
  -- the end, behind the survey
  have hend : ∀ (n : Nat) (v0 : Option MV) (sg1 : SG), n = 1 ∨ n = 2 → x = nI n → ((v0 = some (.inl (nI 1)) ∧ svOK sg1 (aXp a n)) ∨ (v0 = some (.inl (nI 0)) ∧ svBad (aXp a n))) → (∀ o, o = 0 ∨ (2 ≤ o ∧ o < 6) ∨ 39 < o → sg1 o = sg o) → ew_E qS w 3 k 65 [some (.inr 0), some (.inl x), none] (v0.toList ++ []) sg1 := by
    intro n v0 sg1 hn hx hv hfo
    have eX : aExplore a x = aExp a n := by
      unfold aExplore
      rcases hn with rfl | rfl
      · rw [if_pos hx]
      · rw [if_neg (by rw [hx]; decide +kernel), if_pos hx]
    have hS : ∀ (sg2 : SG) (e : Option XP), xEx sg2 e → (∀ o, o = 0 ∨ (2 ≤ o ∧ o < 6) ∨ 39 < o → sg2 o = sg o) → xS sg2 (a.1, a.2.1, a.2.2.1, e, a.2.2.2.2) ∧ xFo sg sg2 := fun sg2 e he hf => by
      refine ⟨⟨?_, by rw [hf 0 (by omega)]; exact h2, by rw [hf 0 (by omega)]; exact h3, he, xRp_fr h5 (by rw [hf 0 (by omega)]) (hf 40 (by omega))⟩, fun o ho => hf o (by omega)⟩
      unfold xCode at h1 ⊢
      rw [hf 2 (by omega), hf 3 (by omega), hf 4 (by omega), hf 5 (by omega)]
      exact h1
    rcases hv with ⟨rfl, hok⟩ | ⟨rfl, hbad⟩
    · refine ew_istore_n g qd_X_explore_65 (by decide) ?_
      refine ew_aload_n g qd_X_explore_66 rfl ?_
      refine ew_getR g qd_X_explore_67 qf_X_19 (by decide) rfl rfl ?_
      refine ew_iload_n g qd_X_explore_70 rfl ?_
      refine ew_callV g qd_X_explore_71 (k_E_conclude_t w k.2.1 sg1 (hqk n hn) hok) qv_X_69 (by decide) rfl ⟨_, _, rfl⟩ rfl rfl (Nat.le_of_ble_eq_true rfl) ⟨rfl, rfl, by decide, by decide⟩ (fun v sg2 hv => ?_)
      obtain ⟨rfl, hc40, hQ, hfr⟩ := hv
      refine ew_iret g qd_X_explore_74 hp ?_
      rw [eX]
      unfold aExp
      rw [if_pos hc40]
      exact ⟨rfl, hS sg2 (some (aXp a n)) hQ (fun o ho => by rw [hfr o (by omega)]; exact hfo o ho)⟩
    · have hc := bad_count hbad
      refine ew_istore_n g qd_X_explore_65 (by decide) ?_
      refine ew_aload_n g qd_X_explore_66 rfl ?_
      refine ew_getR g qd_X_explore_67 qf_X_19 (by decide) rfl rfl ?_
      refine ew_iload_n g qd_X_explore_70 rfl ?_
      refine ew_callV g qd_X_explore_71 (k_E_conclude_f w k.2.1 sg1) qv_X_69 (by decide) rfl ⟨_, _, rfl⟩ rfl rfl (Nat.le_of_ble_eq_true rfl) ⟨rfl, rfl, by decide, by decide⟩ (fun v sg2 hv => ?_)
      obtain ⟨rfl, hQ, hfr⟩ := hv
      refine ew_iret g qd_X_explore_74 hp ?_
      rw [eX]
      unfold aExp
      rw [if_neg (by omega)]
      exact ⟨rfl, hS sg2 none hQ (fun o ho => by rw [hfr o (by omega)]; exact hfo o ho)⟩
  have hgo : ∀ n : Nat, n = 1 ∨ n = 2 → x = nI n → ew_E qS w 3 k 12 [some (.inr 0), some (.inl x), none] [] sg := by
    intro n hn hx
    refine ew_aload_n g qd_X_explore_12 rfl ?_
    refine ew_getR g qd_X_explore_13 qf_X_19 (by decide) rfl rfl ?_
    refine ew_callV g qd_X_explore_16 (k_E_forget w k.2.1 sg) qv_X_55 (by decide) rfl ⟨_, _, rfl⟩ rfl rfl (Nat.le_of_ble_eq_true rfl) ⟨rfl, rfl, by decide, by decide⟩ (fun v sg1 hv => ?_)
    obtain ⟨rfl, rfl⟩ := hv
    rcases hn with rfl | rfl
    · refine ew_iload_n g qd_X_explore_19 rfl ?_
      refine ew_iconst g qd_X_explore_20 ic_1 ?_
      refine ew_icmp_ne g qd_X_explore_21 (tgt := 46) (by decide) (fun hz => ?_) (fun hz => ?_)
      · exact absurd hx hz
      · refine ew_aload_n g qd_X_explore_24 rfl ?_
        refine ew_getR g qd_X_explore_25 qf_X_19 (by decide) rfl rfl ?_
        refine ew_aload_n g qd_X_explore_28 rfl ?_
        refine ew_getR g qd_X_explore_29 qf_X_12 (by decide) rfl rfl ?_
        refine ew_aload_n g qd_X_explore_32 rfl ?_
        refine ew_callV g qd_X_explore_33 (k_X_firstState w k.2.1 (fgE sg) fb h2.2) qv_X_58 (by decide) rfl ⟨_, _, rfl⟩ rfl rfl (Nat.le_of_ble_eq_true rfl) ⟨rfl, rfl, by decide, by decide⟩ (fun v sg1 hv => ?_)
        obtain ⟨rfl, rfl⟩ := hv
        refine en_top (show _ = nI (pk5 (xc0 a.2.1)) by rw [xc0_pk]) ?_
        refine ew_aload_n g qd_X_explore_36 rfl ?_
        refine ew_get g qd_X_explore_37 qf_X_35 (by decide) rfl rfl ?_
        refine en_top fl ?_
        refine ew_callV g qd_X_explore_40 (k_E_surveySingles w k.2.1 sg (q := aXp a 1) (hqk 1 (Or.inl rfl)) rfl h1) qv_X_62 (by decide) rfl ⟨_, _, rfl⟩ rfl rfl (Nat.le_of_ble_eq_true rfl) ⟨rfl, rfl, by decide, by decide⟩ (fun v sg1 hv => ?_)
        refine ew_goto g qd_X_explore_43 (tgt := 65) (by decide) ?_
        exact hend 1 v sg1 (Or.inl rfl) hx hv.1 hv.2
    · refine ew_iload_n g qd_X_explore_19 rfl ?_
      refine ew_iconst g qd_X_explore_20 ic_1 ?_
      refine ew_icmp_ne g qd_X_explore_21 (tgt := 46) (by decide) (fun hz => ?_) (fun hz => ?_)
      · refine ew_aload_n g qd_X_explore_46 rfl ?_
        refine ew_getR g qd_X_explore_47 qf_X_19 (by decide) rfl rfl ?_
        refine ew_aload_n g qd_X_explore_50 rfl ?_
        refine ew_getR g qd_X_explore_51 qf_X_12 (by decide) rfl rfl ?_
        refine ew_aload_n g qd_X_explore_54 rfl ?_
        refine ew_callV g qd_X_explore_55 (k_X_firstState w k.2.1 (fgE sg) fb h2.2) qv_X_58 (by decide) rfl ⟨_, _, rfl⟩ rfl rfl (Nat.le_of_ble_eq_true rfl) ⟨rfl, rfl, by decide, by decide⟩ (fun v sg1 hv => ?_)
        obtain ⟨rfl, rfl⟩ := hv
        refine en_top (show _ = nI (pk5 (xc0 a.2.1)) by rw [xc0_pk]) ?_
        refine ew_aload_n g qd_X_explore_58 rfl ?_
        refine ew_get g qd_X_explore_59 qf_X_35 (by decide) rfl rfl ?_
        refine en_top fl ?_
        refine ew_callV g qd_X_explore_62 (k_E_surveyPairs w k.2.1 sg (q := aXp a 2) (hqk 2 (Or.inr rfl)) rfl h1) qv_X_66 (by decide) rfl ⟨_, _, rfl⟩ rfl rfl (Nat.le_of_ble_eq_true rfl) ⟨rfl, rfl, by decide, by decide⟩ (fun v sg1 hv => ?_)
        exact hend 2 v sg1 (Or.inr rfl) hx hv.1 hv.2
      · rw [hx] at hz
        exact absurd hz (by decide +kernel)
  refine ew_iload_n g qd_X_explore_0 rfl ?_
  refine ew_iconst g qd_X_explore_1 ic_1 ?_
  refine ew_icmp_eq g qd_X_explore_2 (tgt := 12) (by decide) (fun hx1 => ?_) (fun hx1 => ?_)
  · exact hgo 1 (Or.inl rfl) hx1
  · refine ew_iload_n g qd_X_explore_5 rfl ?_
    refine ew_iconst g qd_X_explore_6 ic_2 ?_
    refine ew_icmp_eq g qd_X_explore_7 (tgt := 12) (by decide) (fun hx2 => ?_) (fun hx2 => ?_)
    · exact hgo 2 (Or.inr rfl) hx2
    · refine ew_iconst g qd_X_explore_10 ic_m1 ?_
      refine ew_iret g qd_X_explore_11 hp ?_
      unfold aExplore
      rw [if_neg hx1, if_neg hx2]
      exact ⟨rfl, h, fun _ _ => rfl⟩
theorem k_X_inputs (w : WC) (l : Launch) (sg : SG) {e : Option XP} (h : xEx sg e) (x : Int32) : ew_M qS w l qy_X_inputs qw_X_inputs qr_X_inputs [.inr 0, .inl x] sg (fun v sg' => v = some (.inl (aInputs e x)) ∧ sg' = sg) := by
  obtain ⟨hc, hn⟩ := xEx_n h
  refine ew_entry (ws' := qwg) (own := qR_X) (cc := qc_X_inputs) (nL := 3) (ret := some .int) qnk (by decide) rfl rfl (Nat.le_of_ble_eq_true rfl) ?_
  intro k g hp
  refine ew_aload_n g qd_X_inputs_0 rfl ?_
  refine ew_getR g qd_X_inputs_1 qf_X_19 (by decide) rfl rfl ?_
  refine ew_getR g qd_X_inputs_4 qf_X_73 (by decide) rfl rfl ?_
  refine ew_iload_n g qd_X_inputs_7 rfl ?_
  refine ew_callV g qd_X_inputs_8 (k_P_rowOf w k.2.1 sg x hc hn) qv_X_77 (by decide) rfl ⟨_, _, rfl⟩ rfl rfl (Nat.le_of_ble_eq_true rfl) ⟨rfl, rfl, by decide, by decide⟩ (fun v sg1 hv => ?_)
  obtain ⟨rfl, rfl⟩ := hv
  cases hx : inR x (eN e) with
  | none =>
    refine en_top (show _ = (-1 : Int32) from rfl) ?_
    refine ew_istore_n g qd_X_inputs_11 (by decide) ?_
    refine ew_iload_n g qd_X_inputs_12 rfl ?_
    refine ew_iconst g qd_X_inputs_13 ic_m1 ?_
    refine ew_icmp_ne g qd_X_inputs_14 (tgt := 21) (by decide) (fun hz => ?_) (fun hz => ?_)
    · exact absurd rfl hz
    · refine ew_iconst g qd_X_inputs_17 ic_m1 ?_
      refine ew_goto g qd_X_inputs_18 (tgt := 33) (by decide) ?_
      refine ew_iret g qd_X_inputs_33 hp ?_
      exact ⟨by unfold aInputs; rw [aPath_n _ hx], rfl⟩
  | some p =>
    obtain ⟨q, rfl, hQ, hp2, hA⟩ := aPath_s h hx
    obtain ⟨ka, kb, y1, y2, y3⟩ := hQ.2.2.2.2.1
    obtain ⟨r, hr1, hr2, hr3, hr4, hr5, hr6, hr7, hr8, hr9⟩ := y3 p hp2
    refine en_top (show _ = nI r from hr1) ?_
    refine ew_istore_n g qd_X_inputs_11 (by decide) ?_
    refine ew_iload_n g qd_X_inputs_12 rfl ?_
    refine ew_iconst g qd_X_inputs_13 ic_m1 ?_
    refine ew_icmp_ne g qd_X_inputs_14 (tgt := 21) (by decide) (fun hz => ?_) (fun hz => ?_)
    · refine ew_aload_n g qd_X_inputs_21 rfl ?_
      refine ew_getR g qd_X_inputs_22 qf_X_19 (by decide) rfl rfl ?_
      refine ew_getR g qd_X_inputs_25 qf_X_73 (by decide) rfl rfl ?_
      refine ew_getR g qd_X_inputs_28 qf_X_83 (by decide) rfl rfl ?_
      refine ew_iload_n g qd_X_inputs_31 rfl ?_
      refine en_iald g qd_X_inputs_32 (by decide) rfl (by omega) (by omega) hr5 ?_
      refine ew_iret g qd_X_inputs_33 hp ?_
      exact ⟨by unfold aInputs; rw [hA], rfl⟩
    · exact absurd hz (nI_m1 (by omega))
theorem k_X_witness (w : WC) (l : Launch) (sg : SG) {e : Option XP} (h : xEx sg e) (x : Int32) : ew_M qS w l qy_X_witness qw_X_witness qr_X_witness [.inr 0, .inl x] sg (fun v sg' => v = some (.inl (aWitness e x)) ∧ sg' = sg) := by
  obtain ⟨hc, hn⟩ := xEx_n h
  refine ew_entry (ws' := qwg) (own := qR_X) (cc := qc_X_witness) (nL := 3) (ret := some .int) qnk (by decide) rfl rfl (Nat.le_of_ble_eq_true rfl) ?_
  intro k g hp
  refine ew_aload_n g qd_X_witness_0 rfl ?_
  refine ew_getR g qd_X_witness_1 qf_X_19 (by decide) rfl rfl ?_
  refine ew_getR g qd_X_witness_4 qf_X_73 (by decide) rfl rfl ?_
  refine ew_iload_n g qd_X_witness_7 rfl ?_
  refine ew_callV g qd_X_witness_8 (k_P_rowOf w k.2.1 sg x hc hn) qv_X_77 (by decide) rfl ⟨_, _, rfl⟩ rfl rfl (Nat.le_of_ble_eq_true rfl) ⟨rfl, rfl, by decide, by decide⟩ (fun v sg1 hv => ?_)
  obtain ⟨rfl, rfl⟩ := hv
  cases hx : inR x (eN e) with
  | none =>
    refine en_top (show _ = (-1 : Int32) from rfl) ?_
    refine ew_istore_n g qd_X_witness_11 (by decide) ?_
    refine ew_iload_n g qd_X_witness_12 rfl ?_
    refine ew_iconst g qd_X_witness_13 ic_m1 ?_
    refine ew_icmp_ne g qd_X_witness_14 (tgt := 21) (by decide) (fun hz => ?_) (fun hz => ?_)
    · exact absurd rfl hz
    · refine ew_iconst g qd_X_witness_17 ic_m1 ?_
      refine ew_goto g qd_X_witness_18 (tgt := 33) (by decide) ?_
      refine ew_iret g qd_X_witness_33 hp ?_
      exact ⟨by unfold aWitness; rw [aPath_n _ hx], rfl⟩
  | some p =>
    obtain ⟨q, rfl, hQ, hp2, hA⟩ := aPath_s h hx
    obtain ⟨ka, kb, y1, y2, y3⟩ := hQ.2.2.2.2.1
    obtain ⟨r, hr1, hr2, hr3, hr4, hr5, hr6, hr7, hr8, hr9⟩ := y3 p hp2
    refine en_top (show _ = nI r from hr1) ?_
    refine ew_istore_n g qd_X_witness_11 (by decide) ?_
    refine ew_iload_n g qd_X_witness_12 rfl ?_
    refine ew_iconst g qd_X_witness_13 ic_m1 ?_
    refine ew_icmp_ne g qd_X_witness_14 (tgt := 21) (by decide) (fun hz => ?_) (fun hz => ?_)
    · refine ew_aload_n g qd_X_witness_21 rfl ?_
      refine ew_getR g qd_X_witness_22 qf_X_19 (by decide) rfl rfl ?_
      refine ew_getR g qd_X_witness_25 qf_X_73 (by decide) rfl rfl ?_
      refine ew_getR g qd_X_witness_28 qf_X_86 (by decide) rfl rfl ?_
      refine ew_iload_n g qd_X_witness_31 rfl ?_
      refine en_iald g qd_X_witness_32 (by decide) rfl (by omega) (by omega) hr6 ?_
      refine ew_iret g qd_X_witness_33 hp ?_
      exact ⟨by unfold aWitness; rw [hA], rfl⟩
    · exact absurd hz (nI_m1 (by omega))
theorem k_X_end (w : WC) (l : Launch) (sg : SG) {e : Option XP} (h : xEx sg e) (x t : Int32) : ew_M qS w l qy_X_end qw_X_end qr_X_end [.inr 0, .inl x, .inl t] sg (fun v sg' => v = some (.inl (aEnd e x t)) ∧ sg' = sg) := by
  obtain ⟨hc, hn⟩ := xEx_n h
  refine ew_entry (ws' := qwg) (own := qR_X) (cc := qc_X_end) (nL := 4) (ret := some .int) qnk (by decide) rfl rfl (Nat.le_of_ble_eq_true rfl) ?_
  intro k g hp
  have hno : ∀ x3 : Option MV, aEnd e x t = -1 → ew_E qS w 4 k 31 [some (.inr 0), some (.inl x), some (.inl t), x3] [] sg := by
    intro x3 ee
    refine ew_iconst g qd_X_end_31 ic_m1 ?_
    refine ew_iret g qd_X_end_32 hp ?_
    rw [ee]
    exact ⟨rfl, rfl⟩
  refine ew_aload_n g qd_X_end_0 rfl ?_
  refine ew_getR g qd_X_end_1 qf_X_19 (by decide) rfl rfl ?_
  refine ew_getR g qd_X_end_4 qf_X_73 (by decide) rfl rfl ?_
  refine ew_iload_n g qd_X_end_7 rfl ?_
  refine ew_callV g qd_X_end_8 (k_P_rowOf w k.2.1 sg x hc hn) qv_X_77 (by decide) rfl ⟨_, _, rfl⟩ rfl rfl (Nat.le_of_ble_eq_true rfl) ⟨rfl, rfl, by decide, by decide⟩ (fun v sg1 hv => ?_)
  obtain ⟨rfl, rfl⟩ := hv
  cases hx : inR x (eN e) with
  | none =>
    refine en_top (show _ = (-1 : Int32) from rfl) ?_
    refine ew_istore_n g qd_X_end_11 (by decide) ?_
    refine ew_iload_n g qd_X_end_12 rfl ?_
    refine ew_iconst g qd_X_end_13 ic_m1 ?_
    refine ew_icmp_eq g qd_X_end_14 (tgt := 31) (by decide) (fun hz => ?_) (fun hz => ?_)
    · exact hno _ (by unfold aEnd; rw [aPath_n _ hx])
    · exact absurd rfl hz
  | some p =>
    obtain ⟨q, rfl, hQ, hp2, hA⟩ := aPath_s h hx
    obtain ⟨ka, kb, y1, y2, y3⟩ := hQ.2.2.2.2.1
    obtain ⟨r, hr1, hr2, hr3, hr4, hr5, hr6, hr7, hr8, hr9⟩ := y3 p hp2
    have hnn := hQ.1.2.2.2
    have h94 := hQ.2.2.2.1
    refine en_top (show _ = nI r from hr1) ?_
    refine ew_istore_n g qd_X_end_11 (by decide) ?_
    refine ew_iload_n g qd_X_end_12 rfl ?_
    refine ew_iconst g qd_X_end_13 ic_m1 ?_
    refine ew_icmp_eq g qd_X_end_14 (tgt := 31) (by decide) (fun hz => ?_) (fun hz => ?_)
    · exact absurd hz (nI_m1 (by omega))
    · refine ew_iload_n g qd_X_end_17 rfl ?_
      refine ew_aload_n g qd_X_end_18 rfl ?_
      refine ew_getR g qd_X_end_19 qf_X_19 (by decide) rfl rfl ?_
      refine ew_get g qd_X_end_22 qf_X_89 (by decide) rfl rfl ?_
      refine en_top h94 ?_
      refine ew_callS g qd_X_end_25 (k_X_isBelow w k.2.1 sg1 _ _) qs_X_38 rfl rfl (Nat.le_of_ble_eq_true rfl) ⟨rfl, rfl, by decide, by decide⟩ (fun v sg2 hv => ?_)
      obtain ⟨rfl, rfl⟩ := hv
      cases ht : inR t q.2.2.2 with
      | none =>
        refine en_top (show _ = nI 0 by rw [inR_b (by omega), ht]) ?_
        refine en_if_ne g qd_X_end_28 (tgt := 33) (by decide) (by omega) (fun hz2 => ?_) (fun hz2 => ?_)
        · exact absurd rfl hz2
        · exact hno _ (by unfold aEnd; rw [hA]; simp only [ht])
      | some u =>
        obtain ⟨u1, rfl⟩ := inR_s (by omega) ht
        refine en_top (show _ = nI 1 by rw [inR_b (by omega), ht]) ?_
        refine en_if_ne g qd_X_end_28 (tgt := 33) (by decide) (by omega) (fun hz2 => ?_) (fun hz2 => ?_)
        · have eA : aEnd (some q) x (nI u) = nI (kOf q (xwit q p) u).2 := by unfold aEnd; rw [hA]; simp only [ht]
          refine ew_aload_n g qd_X_end_33 rfl ?_
          refine ew_getR g qd_X_end_34 qf_X_19 (by decide) rfl rfl ?_
          refine ew_iload_n g qd_X_end_37 rfl ?_
          refine ew_callV g qd_X_end_38 (k_E_waysOf w k.2.1 sg2 h94 hnn u1) qv_X_92 (by decide) rfl ⟨_, _, rfl⟩ rfl rfl (Nat.le_of_ble_eq_true rfl) ⟨rfl, rfl, by decide, by decide⟩ (fun v sg3 hv => ?_)
          obtain ⟨rfl, rfl⟩ := hv
          by_cases hu : u = q.2.2.2 - 1
          · obtain ⟨bb, hb1, hb2⟩ := hr4
            have hbl := (List.getElem?_eq_some_iff.mp hb1).1
            have hb40 := y1.1
            obtain ⟨-, -, -, q4, -, -⟩ := y1.2.2.2 bb _ hb1
            rw [if_pos hu]
            refine ew_getR g qd_X_end_41 qf_X_96 (by decide) rfl rfl ?_
            refine ew_aload_n g qd_X_end_44 rfl ?_
            refine ew_getR g qd_X_end_45 qf_X_19 (by decide) rfl rfl ?_
            refine ew_iload_n g qd_X_end_48 rfl ?_
            refine ew_iload_n g qd_X_end_49 rfl ?_
            refine ew_callV g qd_X_end_50 (k_E_wayOn w k.2.1 sg3 h94 hnn u1 hr2) qv_X_101 (by decide) rfl ⟨_, _, rfl⟩ rfl rfl (Nat.le_of_ble_eq_true rfl) ⟨rfl, rfl, by decide, by decide⟩ (fun v sg4 hv => ?_)
            obtain ⟨rfl, rfl⟩ := hv
            rw [if_pos hu]
            refine en_top hb2 ?_
            refine en_iald g qd_X_end_53 (by decide) rfl (by omega) (by omega) q4 ?_
            refine ew_iret g qd_X_end_54 hp ?_
            rw [eA]
            unfold kOf
            rw [if_pos hu]
            exact ⟨rfl, rfl⟩
          · have hn2 : q.2.2.2 = 2 := by omega
            obtain ⟨bb, hb1, hb2⟩ := hr3 hn2
            have hbl := (List.getElem?_eq_some_iff.mp hb1).1
            have hb40 := (y2 hn2).1
            obtain ⟨-, -, -, q4, -, -⟩ := (y2 hn2).2.2.2 bb _ hb1
            rw [if_neg hu]
            refine ew_getR g qd_X_end_41 qf_X_96 (by decide) rfl rfl ?_
            refine ew_aload_n g qd_X_end_44 rfl ?_
            refine ew_getR g qd_X_end_45 qf_X_19 (by decide) rfl rfl ?_
            refine ew_iload_n g qd_X_end_48 rfl ?_
            refine ew_iload_n g qd_X_end_49 rfl ?_
            refine ew_callV g qd_X_end_50 (k_E_wayOn w k.2.1 sg3 h94 hnn u1 hr2) qv_X_101 (by decide) rfl ⟨_, _, rfl⟩ rfl rfl (Nat.le_of_ble_eq_true rfl) ⟨rfl, rfl, by decide, by decide⟩ (fun v sg4 hv => ?_)
            obtain ⟨rfl, rfl⟩ := hv
            rw [if_neg hu]
            refine en_top hb2 ?_
            refine en_iald g qd_X_end_53 (by decide) rfl (by omega) (by omega) q4 ?_
            refine ew_iret g qd_X_end_54 hp ?_
            rw [eA]
            unfold kOf
            rw [if_neg hu]
            exact ⟨rfl, rfl⟩
        · exact absurd hz2 (by decide)
theorem k_X_step (w : WC) (l : Launch) (sg : SG) {e : Option XP} (h : xEx sg e) (x t kk : Int32) : ew_M qS w l qy_X_step qw_X_step qr_X_step [.inr 0, .inl x, .inl t, .inl kk] sg (fun v sg' => v = some (.inl (aStep e x t kk)) ∧ sg' = sg) := by
  obtain ⟨hc, hn⟩ := xEx_n h
  refine ew_entry (ws' := qwg) (own := qR_X) (cc := qc_X_step) (nL := 5) (ret := some .int) qnk (by decide) rfl rfl (Nat.le_of_ble_eq_true rfl) ?_
  intro k g hp
  have hno : ∀ x3 : Option MV, aStep e x t kk = -1 → ew_E qS w 5 k 33 [some (.inr 0), some (.inl x), some (.inl t), some (.inl kk), x3] [] sg := by
    intro x3 ee
    refine ew_iconst g qd_X_step_33 ic_m1 ?_
    refine ew_iret g qd_X_step_34 hp ?_
    rw [ee]
    exact ⟨rfl, rfl⟩
  refine ew_aload_n g qd_X_step_0 rfl ?_
  refine ew_getR g qd_X_step_1 qf_X_19 (by decide) rfl rfl ?_
  refine ew_getR g qd_X_step_4 qf_X_73 (by decide) rfl rfl ?_
  refine ew_iload_n g qd_X_step_7 rfl ?_
  refine ew_callV g qd_X_step_8 (k_P_rowOf w k.2.1 sg x hc hn) qv_X_77 (by decide) rfl ⟨_, _, rfl⟩ rfl rfl (Nat.le_of_ble_eq_true rfl) ⟨rfl, rfl, by decide, by decide⟩ (fun v sg1 hv => ?_)
  obtain ⟨rfl, rfl⟩ := hv
  cases hx : inR x (eN e) with
  | none =>
    refine en_top (show _ = (-1 : Int32) from rfl) ?_
    refine ew_istore g qd_X_step_11 (by decide) ?_
    refine ew_iload g qd_X_step_13 rfl ?_
    refine ew_iconst g qd_X_step_15 ic_m1 ?_
    refine ew_icmp_eq g qd_X_step_16 (tgt := 33) (by decide) (fun hz => ?_) (fun hz => ?_)
    · exact hno _ (by unfold aStep; rw [aPath_n _ hx])
    · exact absurd rfl hz
  | some p =>
    obtain ⟨q, rfl, hQ, hp2, hA⟩ := aPath_s h hx
    obtain ⟨ka, kb, y1, y2, y3⟩ := hQ.2.2.2.2.1
    obtain ⟨r, hr1, hr2, hr3, hr4, hr5, hr6, hr7, hr8, hr9⟩ := y3 p hp2
    have hnn := hQ.1.2.2.2
    have h94 := hQ.2.2.2.1
    refine en_top (show _ = nI r from hr1) ?_
    refine ew_istore g qd_X_step_11 (by decide) ?_
    refine ew_iload g qd_X_step_13 rfl ?_
    refine ew_iconst g qd_X_step_15 ic_m1 ?_
    refine ew_icmp_eq g qd_X_step_16 (tgt := 33) (by decide) (fun hz => ?_) (fun hz => ?_)
    · exact absurd hz (nI_m1 (by omega))
    · refine ew_iload_n g qd_X_step_19 rfl ?_
      refine ew_aload_n g qd_X_step_20 rfl ?_
      refine ew_getR g qd_X_step_21 qf_X_19 (by decide) rfl rfl ?_
      refine ew_get g qd_X_step_24 qf_X_89 (by decide) rfl rfl ?_
      refine en_top h94 ?_
      refine ew_callS g qd_X_step_27 (k_X_isBelow w k.2.1 sg1 _ _) qs_X_38 rfl rfl (Nat.le_of_ble_eq_true rfl) ⟨rfl, rfl, by decide, by decide⟩ (fun v sg2 hv => ?_)
      obtain ⟨rfl, rfl⟩ := hv
      cases ht : inR t q.2.2.2 with
      | none =>
        refine en_top (show _ = nI 0 by rw [inR_b (by omega), ht]) ?_
        refine en_if_ne g qd_X_step_30 (tgt := 35) (by decide) (by omega) (fun hz2 => ?_) (fun hz2 => ?_)
        · exact absurd rfl hz2
        · exact hno _ (by unfold aStep; rw [hA]; simp only [ht])
      | some u =>
        obtain ⟨u1, rfl⟩ := inR_s (by omega) ht
        refine en_top (show _ = nI 1 by rw [inR_b (by omega), ht]) ?_
        refine en_if_ne g qd_X_step_30 (tgt := 35) (by decide) (by omega) (fun hz2 => ?_) (fun hz2 => ?_)
        · have eA : aStep (some q) x (nI u) kk = match inR kk (kOf q (xwit q p) u).1.length with | some i => nI ((kOf q (xwit q p) u).1.getD i 0) | none => -1 := by
            unfold aStep
            rw [hA]
            simp only [ht]
            cases inR kk (kOf q (xwit q p) u).1.length <;> rfl
          refine ew_aload_n g qd_X_step_35 rfl ?_
          refine ew_getR g qd_X_step_36 qf_X_19 (by decide) rfl rfl ?_
          refine ew_iload_n g qd_X_step_39 rfl ?_
          refine ew_callV g qd_X_step_40 (k_E_waysOf w k.2.1 sg2 h94 hnn u1) qv_X_92 (by decide) rfl ⟨_, _, rfl⟩ rfl rfl (Nat.le_of_ble_eq_true rfl) ⟨rfl, rfl, by decide, by decide⟩ (fun v sg3 hv => ?_)
          obtain ⟨rfl, rfl⟩ := hv
          by_cases hu : u = q.2.2.2 - 1
          · obtain ⟨bb, hb1, hb2⟩ := hr4
            have hbl := (List.getElem?_eq_some_iff.mp hb1).1
            have hb40 := y1.1
            have ek : (xKey q (xwit q p)).2 = kOf q (xwit q p) u := by unfold kOf; rw [if_pos hu]
            have hE := y1.2.2.2 bb _ hb1
            rw [ek] at hE
            rw [if_pos hu]
            refine ew_aload_n g qd_X_step_43 rfl ?_
            refine ew_getR g qd_X_step_44 qf_X_19 (by decide) rfl rfl ?_
            refine ew_iload g qd_X_step_47 rfl ?_
            refine ew_iload_n g qd_X_step_49 rfl ?_
            refine ew_callV g qd_X_step_50 (k_E_wayOn w k.2.1 sg3 h94 hnn u1 hr2) qv_X_101 (by decide) rfl ⟨_, _, rfl⟩ rfl rfl (Nat.le_of_ble_eq_true rfl) ⟨rfl, rfl, by decide, by decide⟩ (fun v sg4 hv => ?_)
            obtain ⟨rfl, rfl⟩ := hv
            rw [if_pos hu]
            refine en_top hb2 ?_
            refine ew_iload_n g qd_X_step_53 rfl ?_
            refine ew_callV g qd_X_step_54 (k_Y_stepOf w k.2.1 sg4 (b := 19) kk (Or.inr rfl) (show bb < 40 by omega) hE) qv_X_104 (by decide) rfl ⟨_, _, rfl⟩ rfl rfl (Nat.le_of_ble_eq_true rfl) ⟨rfl, rfl, by decide, by decide⟩ (fun v sg5 hv => ?_)
            obtain ⟨rfl, rfl⟩ := hv
            refine ew_iret g qd_X_step_57 hp ?_
            rw [eA]
            exact ⟨rfl, rfl⟩
          · have hn2 : q.2.2.2 = 2 := by omega
            obtain ⟨bb, hb1, hb2⟩ := hr3 hn2
            have hbl := (List.getElem?_eq_some_iff.mp hb1).1
            have hb40 := (y2 hn2).1
            have ek : (xKey q (xwit q p)).1 = kOf q (xwit q p) u := by unfold kOf; rw [if_neg hu]
            have hE := (y2 hn2).2.2.2 bb _ hb1
            rw [ek] at hE
            rw [if_neg hu]
            refine ew_aload_n g qd_X_step_43 rfl ?_
            refine ew_getR g qd_X_step_44 qf_X_19 (by decide) rfl rfl ?_
            refine ew_iload g qd_X_step_47 rfl ?_
            refine ew_iload_n g qd_X_step_49 rfl ?_
            refine ew_callV g qd_X_step_50 (k_E_wayOn w k.2.1 sg3 h94 hnn u1 hr2) qv_X_101 (by decide) rfl ⟨_, _, rfl⟩ rfl rfl (Nat.le_of_ble_eq_true rfl) ⟨rfl, rfl, by decide, by decide⟩ (fun v sg4 hv => ?_)
            obtain ⟨rfl, rfl⟩ := hv
            rw [if_neg hu]
            refine en_top hb2 ?_
            refine ew_iload_n g qd_X_step_53 rfl ?_
            refine ew_callV g qd_X_step_54 (k_Y_stepOf w k.2.1 sg4 (b := 10) kk (Or.inl rfl) (show bb < 40 by omega) hE) qv_X_104 (by decide) rfl ⟨_, _, rfl⟩ rfl rfl (Nat.le_of_ble_eq_true rfl) ⟨rfl, rfl, by decide, by decide⟩ (fun v sg5 hv => ?_)
            obtain ⟨rfl, rfl⟩ := hv
            refine ew_iret g qd_X_step_57 hp ?_
            rw [eA]
            exact ⟨rfl, rfl⟩
        · exact absurd hz2 (by decide)
theorem k_X_left (w : WC) (l : Launch) (sg : SG) {e : Option XP} (h : xEx sg e) (x y : Int32) : ew_M qS w l qy_X_left qw_X_left qr_X_left [.inr 0, .inl x, .inl y] sg (fun v sg' => v = some (.inl (aLeft e x y)) ∧ sg' = sg) := by
  obtain ⟨hc, hn⟩ := xEx_n h
  refine ew_entry (ws' := qwg) (own := qR_X) (cc := qc_X_left) (nL := 6) (ret := some .int) qnk (by decide) rfl rfl (Nat.le_of_ble_eq_true rfl) ?_
  intro k g hp
  have hno : ∀ x3 : Option MV, aLeft e x y = -1 → ew_E qS w 6 k 25 [some (.inr 0), some (.inl x), some (.inl y), x3, none, none] [] sg := by
    intro x3 ee
    refine ew_iconst g qd_X_left_25 ic_m1 ?_
    refine ew_iret g qd_X_left_26 hp ?_
    rw [ee]
    exact ⟨rfl, rfl⟩
  refine ew_aload_n g qd_X_left_0 rfl ?_
  refine ew_getR g qd_X_left_1 qf_X_19 (by decide) rfl rfl ?_
  refine ew_getR g qd_X_left_4 qf_X_73 (by decide) rfl rfl ?_
  refine ew_iload_n g qd_X_left_7 rfl ?_
  refine ew_callV g qd_X_left_8 (k_P_rowOf w k.2.1 sg x hc hn) qv_X_77 (by decide) rfl ⟨_, _, rfl⟩ rfl rfl (Nat.le_of_ble_eq_true rfl) ⟨rfl, rfl, by decide, by decide⟩ (fun v sg1 hv => ?_)
  obtain ⟨rfl, rfl⟩ := hv
  cases hx : inR x (eN e) with
  | none =>
    refine en_top (show _ = (-1 : Int32) from rfl) ?_
    refine ew_istore_n g qd_X_left_11 (by decide) ?_
    refine ew_iload_n g qd_X_left_12 rfl ?_
    refine ew_iconst g qd_X_left_13 ic_m1 ?_
    refine ew_icmp_eq g qd_X_left_14 (tgt := 25) (by decide) (fun hz => ?_) (fun hz => ?_)
    · exact hno _ (by unfold aLeft; rw [aPath_n _ hx])
    · exact absurd rfl hz
  | some p =>
    obtain ⟨q, rfl, hQ, hp2, hA⟩ := aPath_s h hx
    obtain ⟨ka, kb, y1, y2, y3⟩ := hQ.2.2.2.2.1
    obtain ⟨r, hr1, hr2, hr3, hr4, hr5, hr6, hr7, ⟨df, d1, d2, d3⟩, hr9⟩ := y3 p hp2
    have hcc := (xL_ok hQ.1 (xwit q p)).1
    refine en_top (show _ = nI r from hr1) ?_
    refine ew_istore_n g qd_X_left_11 (by decide) ?_
    refine ew_iload_n g qd_X_left_12 rfl ?_
    refine ew_iconst g qd_X_left_13 ic_m1 ?_
    refine ew_icmp_eq g qd_X_left_14 (tgt := 25) (by decide) (fun hz => ?_) (fun hz => ?_)
    · exact absurd hz (nI_m1 (by omega))
    · refine ew_iload_n g qd_X_left_17 rfl ?_
      refine ew_iconst g qd_X_left_18 ic_5 ?_
      refine ew_callS g qd_X_left_19 (k_X_isBelow w k.2.1 sg1 _ _) qs_X_38 rfl rfl (Nat.le_of_ble_eq_true rfl) ⟨rfl, rfl, by decide, by decide⟩ (fun v sg2 hv => ?_)
      obtain ⟨rfl, rfl⟩ := hv
      cases ht : inR y 5 with
      | none =>
        refine en_top (show _ = nI 0 by rw [inR_b (by decide), ht]) ?_
        refine en_if_ne g qd_X_left_22 (tgt := 27) (by decide) (by omega) (fun hz2 => ?_) (fun hz2 => ?_)
        · exact absurd rfl hz2
        · exact hno _ (by unfold aLeft; rw [hA]; simp only [ht])
      | some i =>
        obtain ⟨i1, rfl⟩ := inR_s (by decide) ht
        refine en_top (show _ = nI 1 by rw [inR_b (by decide), ht]) ?_
        refine en_if_ne g qd_X_left_22 (tgt := 27) (by decide) (by omega) (fun hz2 => ?_) (fun hz2 => ?_)
        · have eA : aLeft (some q) x (nI i) = nI (xCel q (xwit q p) i + (if xAll q (xwit q p) i = true then 16 else 0)) := by unfold aLeft; rw [hA]; simp only [ht]
          have hci := hcc i i1
          refine ew_aload_n g qd_X_left_27 rfl ?_
          refine ew_getR g qd_X_left_28 qf_X_19 (by decide) rfl rfl ?_
          refine ew_getR g qd_X_left_31 qf_X_73 (by decide) rfl rfl ?_
          refine ew_getR g qd_X_left_34 qf_X_107 (by decide) rfl rfl ?_
          refine ew_iload_n g qd_X_left_37 rfl ?_
          refine en_iald g qd_X_left_38 (by decide) rfl (by omega) (by omega) hr7 ?_
          refine ew_iload_n g qd_X_left_39 rfl ?_
          refine ew_callS g qd_X_left_40 (k_X_wordOf w k.2.1 sg2 _ _) qs_X_110 rfl rfl (Nat.le_of_ble_eq_true rfl) ⟨rfl, rfl, by decide, by decide⟩ (fun v sg3 hv => ?_)
          obtain ⟨rfl, rfl⟩ := hv
          refine en_top (show _ = nI (xCel q (xwit q p) i) from wOf_c hcc i1) ?_
          refine ew_istore g qd_X_left_43 (by decide) ?_
          refine ew_aload_n g qd_X_left_45 rfl ?_
          refine ew_getR g qd_X_left_46 qf_X_19 (by decide) rfl rfl ?_
          refine ew_getR g qd_X_left_49 qf_X_73 (by decide) rfl rfl ?_
          refine ew_getR g qd_X_left_52 qf_X_113 (by decide) rfl rfl ?_
          refine ew_iload_n g qd_X_left_55 rfl ?_
          refine en_iald g qd_X_left_56 (by decide) rfl (by omega) (by omega) d2 ?_
          refine ew_iload_n g qd_X_left_57 rfl ?_
          refine ew_callS g qd_X_left_58 (k_X_wordOf w k.2.1 sg3 _ _) qs_X_110 rfl rfl (Nat.le_of_ble_eq_true rfl) ⟨rfl, rfl, by decide, by decide⟩ (fun v sg4 hv => ?_)
          obtain ⟨rfl, rfl⟩ := hv
          refine en_top (show _ = nI (df / 2 ^ (4 * i) % 16) from wOf_n (by omega) i1) ?_
          have hm16 : df / 2 ^ (4 * i) % 16 < 16 := Nat.mod_lt _ (by decide)
          generalize hdd : df / 2 ^ (4 * i) % 16 = dd at hm16
          have d3i := d3 i i1
          rw [hdd] at d3i
          refine en_if_ne g qd_X_left_61 (tgt := 68) (by decide) (by omega) (fun hz3 => ?_) (fun hz3 => ?_)
          · refine ew_iconst g qd_X_left_68 ic_0 ?_
            refine ew_istore g qd_X_left_69 (by decide) ?_
            refine ew_iload g qd_X_left_71 rfl ?_
            refine en_if_eq g qd_X_left_73 (tgt := 84) (by decide) (by omega) (fun hz4 => ?_) (fun hz4 => ?_)
            · refine ew_iload g qd_X_left_84 rfl ?_
              refine ew_iret g qd_X_left_86 hp ?_
              rw [eA, if_neg (fun z => hz3 (d3i.mpr z)), Nat.add_zero]
              exact ⟨rfl, rfl⟩
            · exact absurd rfl hz4
          · refine ew_iconst g qd_X_left_64 ic_1 ?_
            refine ew_goto g qd_X_left_65 (tgt := 69) (by decide) ?_
            refine ew_istore g qd_X_left_69 (by decide) ?_
            refine ew_iload g qd_X_left_71 rfl ?_
            refine en_if_eq g qd_X_left_73 (tgt := 84) (by decide) (by omega) (fun hz4 => ?_) (fun hz4 => ?_)
            · exact absurd hz4 (by decide)
            · refine ew_iload g qd_X_left_76 rfl ?_
              refine ew_bipush g qd_X_left_78 bp_16 ?_
              refine ew_iadd g qd_X_left_80 ?_
              refine en_top (nI_add _ _) ?_
              refine ew_goto g qd_X_left_81 (tgt := 86) (by decide) ?_
              refine ew_iret g qd_X_left_86 hp ?_
              rw [eA, if_pos (d3i.mp hz3)]
              exact ⟨rfl, rfl⟩
        · exact absurd hz2 (by decide)
theorem k_X_finding (w : WC) (l : Launch) (sg : SG) {e : Option XP} (h : xEx sg e) (x y : Int32) : ew_M qS w l qy_X_finding qw_X_finding qr_X_finding [.inr 0, .inl x, .inl y] sg (fun v sg' => v = some (.inl (aFinding e x y)) ∧ sg' = sg) := by
  refine ew_entry (ws' := qwg) (own := qR_X) (cc := qc_X_finding) (nL := 3) (ret := some .int) qnk (by decide) rfl rfl (Nat.le_of_ble_eq_true rfl) ?_
  intro k g hp
  have hno : aFinding e x y = -1 → ew_E qS w 3 k 17 [some (.inr 0), some (.inl x), some (.inl y)] [] sg := by
    intro ee
    refine ew_iconst g qd_X_finding_17 ic_m1 ?_
    refine ew_iret g qd_X_finding_18 hp ?_
    rw [ee]
    exact ⟨rfl, rfl⟩
  refine ew_iload_n g qd_X_finding_0 rfl ?_
  refine ew_iconst g qd_X_finding_1 ic_5 ?_
  refine ew_callS g qd_X_finding_2 (k_X_isBelow w k.2.1 sg _ _) qs_X_38 rfl rfl (Nat.le_of_ble_eq_true rfl) ⟨rfl, rfl, by decide, by decide⟩ (fun v sg1 hv => ?_)
  obtain ⟨rfl, rfl⟩ := hv
  cases hx : inR x 5 with
  | none =>
    refine en_top (show _ = nI 0 by rw [inR_b (by decide), hx]) ?_
    refine en_if_eq g qd_X_finding_5 (tgt := 17) (by decide) (by omega) (fun hz => ?_) (fun hz => ?_)
    · exact hno (by unfold aFinding; rw [hx]; cases e <;> rfl)
    · exact absurd rfl hz
  | some kd =>
    obtain ⟨k1, rfl⟩ := inR_s (by decide) hx
    refine en_top (show _ = nI 1 by rw [inR_b (by decide), hx]) ?_
    refine en_if_eq g qd_X_finding_5 (tgt := 17) (by decide) (by omega) (fun hz => ?_) (fun hz => ?_)
    · exact absurd hz (by decide)
    · refine ew_iload_n g qd_X_finding_8 rfl ?_
      refine ew_bipush g qd_X_finding_9 bp_32 ?_
      refine ew_callS g qd_X_finding_11 (k_X_isBelow w k.2.1 sg1 _ _) qs_X_38 rfl rfl (Nat.le_of_ble_eq_true rfl) ⟨rfl, rfl, by decide, by decide⟩ (fun v sg2 hv => ?_)
      obtain ⟨rfl, rfl⟩ := hv
      cases hy : inR y 32 with
      | none =>
        refine en_top (show _ = nI 0 by rw [inR_b (by decide), hy]) ?_
        refine en_if_ne g qd_X_finding_14 (tgt := 19) (by decide) (by omega) (fun hz2 => ?_) (fun hz2 => ?_)
        · exact absurd rfl hz2
        · exact hno (by unfold aFinding; rw [hx, hy]; cases e <;> rfl)
      | some i =>
        obtain ⟨i1, rfl⟩ := inR_s (by decide) hy
        refine en_top (show _ = nI 1 by rw [inR_b (by decide), hy]) ?_
        refine en_if_ne g qd_X_finding_14 (tgt := 19) (by decide) (by omega) (fun hz2 => ?_) (fun hz2 => ?_)
        · refine ew_aload_n g qd_X_finding_19 rfl ?_
          refine ew_getR g qd_X_finding_20 qf_X_19 (by decide) rfl rfl ?_
          refine ew_getR g qd_X_finding_23 qf_X_116 (by decide) rfl rfl ?_
          refine ew_iload_n g qd_X_finding_26 rfl ?_
          refine ew_iload_n g qd_X_finding_27 rfl ?_
          refine ew_callV g qd_X_finding_28 (k_T_leastOf w k.2.1 sg2 k1 i1) qv_X_120 (by decide) rfl ⟨_, _, rfl⟩ rfl rfl (Nat.le_of_ble_eq_true rfl) ⟨rfl, rfl, by decide, by decide⟩ (fun v sg3 hv => ?_)
          obtain ⟨rfl, rfl⟩ := hv
          refine ew_iret g qd_X_finding_31 hp ?_
          refine ⟨?_, rfl⟩
          unfold aFinding
          rw [hx, hy]
          cases e with
          | none => rw [h.2 _ (by omega)]
          | some q => rw [h.2.2.2.2.2 kd i k1 i1]
        · exact absurd hz2 (by decide)
theorem k_X_risk (w : WC) (l : Launch) (sg : SG) {e : Option XP} (h : xEx sg e) (x y z : Int32) : ew_M qS w l qy_X_risk qw_X_risk qr_X_risk [.inr 0, .inl x, .inl y, .inl z] sg (fun v sg' => v = some (.inl (aRisk e x y z)) ∧ sg' = sg) := by
  obtain ⟨hc, hn⟩ := xEx_n h
  refine ew_entry (ws' := qwg) (own := qR_X) (cc := qc_X_risk) (nL := 5) (ret := some .int) qnk (by decide) rfl rfl (Nat.le_of_ble_eq_true rfl) ?_
  intro k g hp
  have hno : ∀ x3 : Option MV, aRisk e x y z = -1 → ew_E qS w 5 k 36 [some (.inr 0), some (.inl x), some (.inl y), some (.inl z), x3] [] sg := by
    intro x3 ee
    refine ew_iconst g qd_X_risk_36 ic_m1 ?_
    refine ew_iret g qd_X_risk_37 hp ?_
    rw [ee]
    exact ⟨rfl, rfl⟩
  refine ew_aload_n g qd_X_risk_0 rfl ?_
  refine ew_getR g qd_X_risk_1 qf_X_19 (by decide) rfl rfl ?_
  refine ew_getR g qd_X_risk_4 qf_X_73 (by decide) rfl rfl ?_
  refine ew_iload_n g qd_X_risk_7 rfl ?_
  refine ew_callV g qd_X_risk_8 (k_P_rowOf w k.2.1 sg x hc hn) qv_X_77 (by decide) rfl ⟨_, _, rfl⟩ rfl rfl (Nat.le_of_ble_eq_true rfl) ⟨rfl, rfl, by decide, by decide⟩ (fun v sg1 hv => ?_)
  obtain ⟨rfl, rfl⟩ := hv
  cases hx : inR x (eN e) with
  | none =>
    refine en_top (show _ = (-1 : Int32) from rfl) ?_
    refine ew_istore g qd_X_risk_11 (by decide) ?_
    refine ew_iload g qd_X_risk_13 rfl ?_
    refine ew_iconst g qd_X_risk_15 ic_m1 ?_
    refine ew_icmp_eq g qd_X_risk_16 (tgt := 36) (by decide) (fun hz => ?_) (fun hz => ?_)
    · exact hno _ (by unfold aRisk; rw [aPath_n _ hx])
    · exact absurd rfl hz
  | some p =>
    obtain ⟨q, rfl, hQ, hp2, hA⟩ := aPath_s h hx
    obtain ⟨ka, kb, y1, y2, y3⟩ := hQ.2.2.2.2.1
    obtain ⟨r, hr1, hr2, hr3, hr4, hr5, hr6, hr7, hr8, hr9⟩ := y3 p hp2
    refine en_top (show _ = nI r from hr1) ?_
    refine ew_istore g qd_X_risk_11 (by decide) ?_
    refine ew_iload g qd_X_risk_13 rfl ?_
    refine ew_iconst g qd_X_risk_15 ic_m1 ?_
    refine ew_icmp_eq g qd_X_risk_16 (tgt := 36) (by decide) (fun hz => ?_) (fun hz => ?_)
    · exact absurd hz (nI_m1 (by omega))
    · refine ew_iload_n g qd_X_risk_19 rfl ?_
      refine ew_iconst g qd_X_risk_20 ic_5 ?_
      refine ew_callS g qd_X_risk_21 (k_X_isBelow w k.2.1 sg1 _ _) qs_X_38 rfl rfl (Nat.le_of_ble_eq_true rfl) ⟨rfl, rfl, by decide, by decide⟩ (fun v sg2 hv => ?_)
      obtain ⟨rfl, rfl⟩ := hv
      cases hy : inR y 5 with
      | none =>
        refine en_top (show _ = nI 0 by rw [inR_b (by decide), hy]) ?_
        refine en_if_eq g qd_X_risk_24 (tgt := 36) (by decide) (by omega) (fun hz2 => ?_) (fun hz2 => ?_)
        · exact hno _ (by unfold aRisk; rw [hA]; simp only [hy])
        · exact absurd rfl hz2
      | some kd =>
        obtain ⟨k1, rfl⟩ := inR_s (by decide) hy
        refine en_top (show _ = nI 1 by rw [inR_b (by decide), hy]) ?_
        refine en_if_eq g qd_X_risk_24 (tgt := 36) (by decide) (by omega) (fun hz2 => ?_) (fun hz2 => ?_)
        · exact absurd hz2 (by decide)
        · refine ew_iload_n g qd_X_risk_27 rfl ?_
          refine ew_bipush g qd_X_risk_28 bp_32 ?_
          refine ew_callS g qd_X_risk_30 (k_X_isBelow w k.2.1 sg2 _ _) qs_X_38 rfl rfl (Nat.le_of_ble_eq_true rfl) ⟨rfl, rfl, by decide, by decide⟩ (fun v sg3 hv => ?_)
          obtain ⟨rfl, rfl⟩ := hv
          cases hzz : inR z 32 with
          | none =>
            refine en_top (show _ = nI 0 by rw [inR_b (by decide), hzz]) ?_
            refine en_if_ne g qd_X_risk_33 (tgt := 38) (by decide) (by omega) (fun hz3 => ?_) (fun hz3 => ?_)
            · exact absurd rfl hz3
            · exact hno _ (by unfold aRisk; rw [hA]; simp only [hy, hzz])
          | some i =>
            obtain ⟨i1, rfl⟩ := inR_s (by decide) hzz
            refine en_top (show _ = nI 1 by rw [inR_b (by decide), hzz]) ?_
            refine en_if_ne g qd_X_risk_33 (tgt := 38) (by decide) (by omega) (fun hz3 => ?_) (fun hz3 => ?_)
            · refine ew_aload_n g qd_X_risk_38 rfl ?_
              refine ew_getR g qd_X_risk_39 qf_X_19 (by decide) rfl rfl ?_
              refine ew_getR g qd_X_risk_42 qf_X_116 (by decide) rfl rfl ?_
              refine ew_iload g qd_X_risk_45 rfl ?_
              refine ew_iload_n g qd_X_risk_47 rfl ?_
              refine ew_iload_n g qd_X_risk_48 rfl ?_
              refine ew_callV g qd_X_risk_49 (k_T_countOf w k.2.1 sg3 hr2 k1 i1) qv_X_125 (by decide) rfl ⟨_, _, rfl⟩ rfl rfl (Nat.le_of_ble_eq_true rfl) ⟨rfl, rfl, by decide, by decide⟩ (fun v sg4 hv => ?_)
              obtain ⟨rfl, rfl⟩ := hv
              refine ew_iret g qd_X_risk_52 hp ?_
              refine ⟨?_, rfl⟩
              unfold aRisk
              rw [hA, hr9 kd i k1 i1]
              simp only [hy, hzz]
            · exact absurd hz3 (by decide)
theorem k_X_replayed (w : WC) (l : Launch) (sg : SG) {a : AS} (h : xS sg a) (x : Int32) : ew_M qS w l qy_X_replayed qw_X_replayed qr_X_replayed [.inr 0, .inl x] sg (fun v sg' => v = some (.inl (aReplayed a x)) ∧ sg' = sg) := by
  have h5 := h.2.2.2.2
  refine ew_entry (ws' := qwg) (own := qR_X) (cc := qc_X_replayed) (nL := 2) (ret := some .int) qnk (by decide) rfl rfl (Nat.le_of_ble_eq_true rfl) ?_
  intro k g hp
  have hno : aReplayed a x = -1 → ew_E qS w 2 k 25 [some (.inr 0), some (.inl x)] [] sg := by
    intro ee
    refine ew_iconst g qd_X_replayed_25 ic_m1 ?_
    refine ew_iret g qd_X_replayed_26 hp ?_
    rw [ee]
    exact ⟨rfl, rfl⟩
  cases hrp : a.2.2.2.2 with
  | none =>
    rw [hrp] at h5
    have h5 : sg 0 3 = bI false := h5
    refine ew_aload_n g qd_X_replayed_0 rfl ?_
    refine ew_get g qd_X_replayed_1 qf_X_27 (by decide) rfl rfl ?_
    refine en_top (h5.trans bI_f) ?_
    refine en_if_eq g qd_X_replayed_4 (tgt := 25) (by decide) (by omega) (fun hz => ?_) (fun hz => ?_)
    · exact hno (by unfold aReplayed; rw [hrp])
    · exact absurd rfl hz
  | some f =>
    rw [hrp] at h5
    have h5 : sg 0 3 = bI true ∧ ∀ i, i < 7 → sg 40 i = nI (f i) := h5
    refine ew_aload_n g qd_X_replayed_0 rfl ?_
    refine ew_get g qd_X_replayed_1 qf_X_27 (by decide) rfl rfl ?_
    refine en_top (h5.1.trans bI_t) ?_
    refine en_if_eq g qd_X_replayed_4 (tgt := 25) (by decide) (by omega) (fun hz => ?_) (fun hz => ?_)
    · exact absurd hz (by decide)
    · refine ew_iload_n g qd_X_replayed_7 rfl ?_
      refine ew_bipush g qd_X_replayed_8 bp_7 ?_
      refine ew_callS g qd_X_replayed_10 (k_X_isBelow w k.2.1 sg _ _) qs_X_38 rfl rfl (Nat.le_of_ble_eq_true rfl) ⟨rfl, rfl, by decide, by decide⟩ (fun v sg1 hv => ?_)
      obtain ⟨rfl, rfl⟩ := hv
      cases hx : inR x 7 with
      | none =>
        refine en_top (show _ = nI 0 by rw [inR_b (by decide), hx]) ?_
        refine en_if_eq g qd_X_replayed_13 (tgt := 25) (by decide) (by omega) (fun hz2 => ?_) (fun hz2 => ?_)
        · exact hno (by unfold aReplayed; rw [hrp, hx])
        · exact absurd rfl hz2
      | some i =>
        obtain ⟨i1, rfl⟩ := inR_s (by decide) hx
        refine en_top (show _ = nI 1 by rw [inR_b (by decide), hx]) ?_
        refine en_if_eq g qd_X_replayed_13 (tgt := 25) (by decide) (by omega) (fun hz2 => ?_) (fun hz2 => ?_)
        · exact absurd hz2 (by decide)
        · refine ew_aload_n g qd_X_replayed_16 rfl ?_
          refine ew_getR g qd_X_replayed_17 qf_X_23 (by decide) rfl rfl ?_
          refine ew_iload_n g qd_X_replayed_20 rfl ?_
          refine en_iald g qd_X_replayed_21 (by decide) rfl (by omega) (by omega) (h5.2 i i1) ?_
          refine ew_goto g qd_X_replayed_22 (tgt := 26) (by decide) ?_
          refine ew_iret g qd_X_replayed_26 hp ?_
          refine ⟨?_, rfl⟩
          unfold aReplayed
          rw [hrp, hx]
theorem k_X_keepReplay (w : WC) (l : Launch) (sg : SG) {r : PM} {inp cal : Nat} (hm : xMach sg r inp cal) : ew_M qS w l qy_X_keepReplay qw_X_keepReplay qr_X_keepReplay [.inr 0] sg (fun v sg' => v = none ∧ xRp sg' (some (rpOf r)) ∧ (∀ o, o ≠ 0 → o ≠ 40 → sg' o = sg o) ∧ sg' 0 4 = sg 0 4 ∧ sg' 0 5 = sg 0 5) := by
  have hcc := hm.1.2.2.1
  refine ew_entry (ws' := qwg) (own := qR_X) (cc := qc_X_keepReplay) (nL := 2) (ret := none) qnk (by decide) rfl rfl (Nat.le_of_ble_eq_true rfl) ?_
  intro k g hp
  have key : ∀ (d i : Nat) (sg1 : SG), i + d = 5 → (∀ o, o ≠ 40 → sg1 o = sg o) → (∀ j, j < i → sg1 40 j = nI (pCe r j)) → ew_E qS w 2 k 2 [some (.inr 0), some (.inl (nI i))] [] sg1 := by
    intro d
    induction d with
    | zero =>
      intro i sg1 hi hf hr
      have e5 : i = 5 := by omega
      subst e5
      refine ew_iload_n g qd_X_keepReplay_2 rfl ?_
      refine ew_iconst g qd_X_keepReplay_3 ic_5 ?_
      refine en_ge g qd_X_keepReplay_4 (tgt := 30) (by decide) (by omega) (by omega) (fun hz => ?_) (fun hz => ?_)
      · refine ew_aload_n g qd_X_keepReplay_30 rfl ?_
        refine ew_getR g qd_X_keepReplay_31 qf_X_23 (by decide) rfl rfl ?_
        refine ew_iconst g qd_X_keepReplay_34 ic_5 ?_
        refine ew_aload_n g qd_X_keepReplay_35 rfl ?_
        refine ew_getR g qd_X_keepReplay_36 qf_X_12 (by decide) rfl rfl ?_
        refine ew_get g qd_X_keepReplay_39 qf_X_142 (by decide) rfl rfl ?_
        refine en_top (show sg1 1 4 = nI (pGa r) by rw [hf 1 (by decide)]; exact hm.2.2.2.2.1) ?_
        refine en_iast g qd_X_keepReplay_42 (by decide) rfl (by omega) (by omega) ?_
        refine ew_aload_n g qd_X_keepReplay_43 rfl ?_
        refine ew_getR g qd_X_keepReplay_44 qf_X_23 (by decide) rfl rfl ?_
        refine ew_bipush g qd_X_keepReplay_47 bp_6 ?_
        refine ew_aload_n g qd_X_keepReplay_49 rfl ?_
        refine ew_getR g qd_X_keepReplay_50 qf_X_12 (by decide) rfl rfl ?_
        refine ew_get g qd_X_keepReplay_53 qf_X_145 (by decide) rfl rfl ?_
        refine en_top (show sup sg1 40 5 (nI (pGa r)) 1 2 = nI (pDe r) by rw [sup_n (by decide), hf 1 (by decide)]; exact hm.2.1) ?_
        refine en_iast g qd_X_keepReplay_56 (by decide) rfl (by omega) (by omega) ?_
        refine ew_aload_n g qd_X_keepReplay_57 rfl ?_
        refine ew_iconst g qd_X_keepReplay_58 ic_1 ?_
        refine en_top bI_t.symm ?_
        refine ew_put g qd_X_keepReplay_59 qf_X_27 (qp_X_hasReplay _) (by decide) rfl rfl ?_
        refine ew_vret g qd_X_keepReplay_62 hp ?_
        refine ⟨rfl, ⟨by rw [sup_s, pk_us], fun i hi => ?_⟩, fun o h1 h2 => by rw [sup_n h1, sup_n h2, sup_n h2]; exact hf o h2, ?_, ?_⟩
        · rw [sup_n (by decide), sup_s, sup_s]
          unfold rpOf upd
          by_cases e6 : i = 6
          · subst e6; rfl
          · rw [if_neg e6]
            by_cases e5 : i = 5
            · subst e5; rfl
            · rw [if_neg e5, if_pos (by omega)]
              exact hr i (by omega)
        · rw [sup_s, pk_un (by decide), sup_n (by decide), sup_n (by decide), hf 0 (by decide)]
        · rw [sup_s, pk_un (by decide), sup_n (by decide), sup_n (by decide), hf 0 (by decide)]
      · omega
    | succ d ih =>
      intro i sg1 hi hf hr
      refine ew_iload_n g qd_X_keepReplay_2 rfl ?_
      refine ew_iconst g qd_X_keepReplay_3 ic_5 ?_
      refine en_ge g qd_X_keepReplay_4 (tgt := 30) (by decide) (by omega) (by omega) (fun hz => ?_) (fun hz => ?_)
      · omega
      · refine ew_aload_n g qd_X_keepReplay_7 rfl ?_
        refine ew_getR g qd_X_keepReplay_8 qf_X_23 (by decide) rfl rfl ?_
        refine ew_iload_n g qd_X_keepReplay_11 rfl ?_
        refine ew_aload_n g qd_X_keepReplay_12 rfl ?_
        refine ew_getR g qd_X_keepReplay_13 qf_X_12 (by decide) rfl rfl ?_
        refine ew_get g qd_X_keepReplay_16 qf_X_133 (by decide) rfl rfl ?_
        refine en_top (show sg1 1 3 = nI (pk5 (pCe r)) by rw [hf 1 (by decide)]; exact hm.2.2.2.1) ?_
        refine ew_iload_n g qd_X_keepReplay_19 rfl ?_
        refine ew_callS g qd_X_keepReplay_20 (k_X_wordOf w k.2.1 sg1 _ _) qs_X_110 rfl rfl (Nat.le_of_ble_eq_true rfl) ⟨rfl, rfl, by decide, by decide⟩ (fun v sg2 hv => ?_)
        obtain ⟨rfl, rfl⟩ := hv
        refine en_top (show _ = nI (pCe r i) from wOf_c hcc (by omega)) ?_
        refine en_iast g qd_X_keepReplay_23 (by decide) rfl (by omega) (by omega) ?_
        refine ew_iinc g qd_X_keepReplay_24 (by decide) rfl (ii_1 _) ?_
        refine ew_goto g qd_X_keepReplay_27 (tgt := 2) (by decide) ?_
        refine ih (i + 1) _ (by omega) (fun o ho => by rw [sup_n ho]; exact hf o ho) (fun j hj => ?_)
        rw [sup_s]
        by_cases e : j = i
        · rw [e, pk_us]
        · rw [pk_un e]; exact hr j (by omega)
  refine ew_iconst g qd_X_keepReplay_0 ic_0 ?_
  refine ew_istore_n g qd_X_keepReplay_1 (by decide) ?_
  exact key 5 0 sg rfl (fun _ _ => rfl) (fun j hj => absurd hj (Nat.not_lt_zero j))
theorem k_X_replay (w : WC) (l : Launch) (sg : SG) {a : AS} (h : xS sg a) (x y : Int32) : ew_M qS w l qy_X_replay qw_X_replay qr_X_replay [.inr 0, .inl x, .inl y] sg (fun v sg' => v = some (.inl (aReplay a x y).1) ∧ xS sg' (aReplay a x y).2 ∧ xFo sg sg') := by
  obtain ⟨h1, h2, h3, h4, h5⟩ := id h
  have hqk : ∀ n, n = 1 ∨ n = 2 → qOK (aXp a n) := fun n hn => ⟨h1.1, h2.2, h3.2.2, hn⟩
  refine ew_entry (ws' := qwg) (own := qR_X) (cc := qc_X_replay) (nL := 5) (ret := some .int) qnk (by decide) rfl rfl (Nat.le_of_ble_eq_true rfl) ?_
  intro k g hp
  have hno : aReplay a x y = (-1, a) → ew_E qS w 5 k 30 [some (.inr 0), some (.inl x), some (.inl y), none, none] [] sg := by
    intro e
    refine ew_iconst g qd_X_replay_30 ic_m1 ?_
    refine ew_iret g qd_X_replay_31 hp ?_
    rw [e]
    exact ⟨rfl, h, fun _ _ => rfl⟩
  -- the last transaction, and the end
  have hlast : ∀ (n m : Nat) (c : Nat → Nat) (dead : Bool) (sg1 : SG), x = nI n → y = nI m → m < 4096 → aReplay a x y = aRep a n m → xL (aXp a n) m = pTx a.1 a.2.2.1 (m % 64) c dead → c16 c → xFm sg sg1 → ew_E qS w 5 k 88 [some (.inr 0), some (.inl (nI n)), some (.inl (nI m)), some (.inl (nI (pk5 c))), some (.inl (bI dead))] [] sg1 := by
    intro n m c dead sg1 hx hy hm4 eR eL hc hfm
    refine ew_aload_n g qd_X_replay_88 rfl ?_
    refine ew_getR g qd_X_replay_89 qf_X_12 (by decide) rfl rfl ?_
    refine ew_iload_n g qd_X_replay_92 rfl ?_
    refine ew_bipush g qd_X_replay_93 bp_64 ?_
    refine ew_irem g qd_X_replay_95 (by decide +kernel) ?_
    refine en_top (pk_rem (by omega) (by decide) (by decide)) ?_
    refine ew_iload_n g qd_X_replay_96 rfl ?_
    refine ew_iload g qd_X_replay_97 rfl ?_
    refine ew_aload_n g qd_X_replay_99 rfl ?_
    refine ew_get g qd_X_replay_100 qf_X_35 (by decide) rfl rfl ?_
    refine en_top (show sg1 0 5 = nI a.2.2.1 by rw [hfm 0 (by decide) (by decide) (by decide) (by decide)]; exact h3.1) ?_
    refine ew_callV g qd_X_replay_103 (k_K_transact w k.2.1 sg1 (num := m % 64) (hfm.code h1) (Nat.mod_lt _ (by decide)) h3.2.2 hc) qv_X_129 (by decide) rfl ⟨_, _, rfl⟩ rfl rfl (Nat.le_of_ble_eq_true rfl) ⟨rfl, rfl, by decide, by decide⟩ (fun v sg2 hv => ?_)
    rw [← eL] at hv
    obtain ⟨rfl, hm2, hw2, hf2, h52⟩ := hv
    refine ew_aload_n g qd_X_replay_106 rfl ?_
    refine ew_callV g qd_X_replay_107 (k_X_keepReplay w k.2.1 sg2 hm2) qv_X_139 (by decide) rfl ⟨_, _, rfl⟩ rfl rfl (Nat.le_of_ble_eq_true rfl) ⟨rfl, rfl, by decide, by decide⟩ (fun v sg3 hv => ?_)
    obtain ⟨rfl, hrp, hf3, h04, h05⟩ := hv
    refine ew_aload_n g qd_X_replay_110 rfl ?_
    refine ew_getR g qd_X_replay_111 qf_X_12 (by decide) rfl rfl ?_
    refine ew_get g qd_X_replay_114 qf_X_136 (by decide) rfl rfl ?_
    refine en_top (show sg3 1 6 = nI (pHo (xL (aXp a n) m)) by rw [hf3 1 (by decide) (by decide)]; exact hm2.2.2.2.2.2.2.2.2.2.2) ?_
    refine ew_iret g qd_X_replay_117 hp ?_
    rw [eR]
    have hfs : ∀ o, o ≠ 0 → o ≠ 1 → o ≠ 6 → o ≠ 7 → o ≠ 8 → o ≠ 40 → sg3 o = sg o := fun o q0 q1 q6 q7 q8 q40 => by rw [hf3 o q0 q40, hf2 o q1 q6 q7 q8, hfm o q1 q6 q7 q8]
    have h0 : sg2 0 = sg 0 := by rw [hf2 0 (by decide) (by decide) (by decide) (by decide), hfm 0 (by decide) (by decide) (by decide) (by decide)]
    refine ⟨rfl, ⟨?_, ⟨by rw [h04, h0]; exact h2.1, h2.2⟩, ⟨by rw [h05, h0]; exact h3.1, h3.2⟩, xEx_fr h4 (fun o a b => hfs o (by omega) (by omega) (by omega) (by omega) (by omega) (by omega)), hrp⟩, fun o ho => hfs o (by omega) (by omega) (by omega) (by omega) (by omega) (by omega)⟩
    show xCode sg3 a.1
    unfold xCode at h1 ⊢
    rw [hfs 2 (by decide) (by decide) (by decide) (by decide) (by decide) (by decide), hfs 3 (by decide) (by decide) (by decide) (by decide) (by decide) (by decide), hfs 4 (by decide) (by decide) (by decide) (by decide) (by decide) (by decide), hfs 5 (by decide) (by decide) (by decide) (by decide) (by decide) (by decide)]
    exact h1
  have h32 : ∀ n m : Nat, n = 1 ∨ n = 2 → x = nI n → y = nI m → m < xN (aXp a n) → aReplay a x y = aRep a n m → ew_E qS w 5 k 32 [some (.inr 0), some (.inl (nI n)), some (.inl (nI m)), none, none] [] sg := by
    intro n m hn hx hy hm eR
    have hm4 := Nat.lt_of_lt_of_le hm (xN_le _)
    refine ew_aload_n g qd_X_replay_32 rfl ?_
    refine ew_callV g qd_X_replay_33 (k_X_firstState w k.2.1 sg h2.1 h2.2) qv_X_58 (by decide) rfl ⟨_, _, rfl⟩ rfl rfl (Nat.le_of_ble_eq_true rfl) ⟨rfl, rfl, by decide, by decide⟩ (fun v sg1 hv => ?_)
    obtain ⟨rfl, rfl⟩ := hv
    refine en_top (show _ = nI (pk5 (xc0 a.2.1)) by rw [xc0_pk]) ?_
    rcases hn with rfl | rfl
    · refine ew_istore_n g qd_X_replay_36 (by decide) ?_
      refine ew_iconst g qd_X_replay_37 ic_0 ?_
      refine ew_istore g qd_X_replay_38 (by decide) ?_
      refine ew_iload_n g qd_X_replay_40 rfl ?_
      refine ew_iconst g qd_X_replay_41 ic_2 ?_
      refine en_ne g qd_X_replay_42 (tgt := 88) (by decide) (by omega) (by omega) (fun hz => ?_) (fun hz => ?_)
      · exact hlast 1 m (xc0 a.2.1) false sg1 hx hy hm4 eR rfl (xc0_16 h2.2) (xFm.rf sg1)
      · exact absurd hz (by decide)
    · refine ew_istore_n g qd_X_replay_36 (by decide) ?_
      refine ew_iconst g qd_X_replay_37 ic_0 ?_
      refine ew_istore g qd_X_replay_38 (by decide) ?_
      refine ew_iload_n g qd_X_replay_40 rfl ?_
      refine ew_iconst g qd_X_replay_41 ic_2 ?_
      refine en_ne g qd_X_replay_42 (tgt := 88) (by decide) (by omega) (by omega) (fun hz => ?_) (fun hz => ?_)
      · exact absurd rfl hz
      · have hxf : pTx a.1 a.2.2.1 (m / 64) (xc0 a.2.1) false = xF (aXp a 2) (m / 64) := by
          show _ = pTx a.1 a.2.2.1 (m / 64 % 64) (xc0 a.2.1) false
          rw [Nat.mod_eq_of_lt (by omega)]
        refine ew_aload_n g qd_X_replay_45 rfl ?_
        refine ew_getR g qd_X_replay_46 qf_X_12 (by decide) rfl rfl ?_
        refine ew_iload_n g qd_X_replay_49 rfl ?_
        refine ew_bipush g qd_X_replay_50 bp_64 ?_
        refine ew_idiv g qd_X_replay_52 (by decide +kernel) ?_
        refine en_top (pk_div (by omega) (by decide) (by decide)) ?_
        refine ew_iload_n g qd_X_replay_53 rfl ?_
        refine ew_iconst g qd_X_replay_54 ic_0 ?_
        refine en_top bI_f.symm ?_
        refine ew_aload_n g qd_X_replay_55 rfl ?_
        refine ew_get g qd_X_replay_56 qf_X_35 (by decide) rfl rfl ?_
        refine en_top h3.1 ?_
        refine ew_callV g qd_X_replay_59 (k_K_transact w k.2.1 sg1 (num := m / 64) (dead := false) h1 (by omega) h3.2.2 (xc0_16 h2.2)) qv_X_129 (by decide) rfl ⟨_, _, rfl⟩ rfl rfl (Nat.le_of_ble_eq_true rfl) ⟨rfl, rfl, by decide, by decide⟩ (fun v sg2 hv => ?_)
        rw [hxf] at hv
        obtain ⟨rfl, hm2, hw2, hf2, h52⟩ := hv
        have hst := hm2.2.2.2.1
        have hen := hm2.2.2.2.2.2.2.2.2.2.2
        have eL : xL (aXp a 2) m = pTx a.1 a.2.2.1 (m % 64) (pCe (xF (aXp a 2) (m / 64))) (decide (pHo (xF (aXp a 2) (m / 64)) = 3)) := rfl
        refine ew_aload_n g qd_X_replay_62 rfl ?_
        refine ew_getR g qd_X_replay_63 qf_X_12 (by decide) rfl rfl ?_
        refine ew_get g qd_X_replay_66 qf_X_133 (by decide) rfl rfl ?_
        refine en_top hst ?_
        refine ew_istore_n g qd_X_replay_69 (by decide) ?_
        refine ew_aload_n g qd_X_replay_70 rfl ?_
        refine ew_getR g qd_X_replay_71 qf_X_12 (by decide) rfl rfl ?_
        refine ew_get g qd_X_replay_74 qf_X_136 (by decide) rfl rfl ?_
        refine en_top hen ?_
        refine ew_iconst g qd_X_replay_77 ic_3 ?_
        refine en_ne g qd_X_replay_78 (tgt := 85) (by decide) (by omega) (by omega) (fun h3n => ?_) (fun h3n => ?_)
        · rw [decide_eq_false h3n] at eL
          refine ew_iconst g qd_X_replay_85 ic_0 ?_
          refine en_top bI_f.symm ?_
          refine ew_istore g qd_X_replay_86 (by decide) ?_
          exact hlast 2 m _ false sg2 hx hy hm4 eR eL hm2.1.2.2.1 hf2
        · rw [decide_eq_true h3n] at eL
          refine ew_iconst g qd_X_replay_81 ic_1 ?_
          refine en_top bI_t.symm ?_
          refine ew_goto g qd_X_replay_82 (tgt := 86) (by decide) ?_
          refine ew_istore g qd_X_replay_86 (by decide) ?_
          exact hlast 2 m _ true sg2 hx hy hm4 eR eL hm2.1.2.2.1 hf2
  have h10 : ∀ n : Nat, n = 1 ∨ n = 2 → x = nI n → ew_E qS w 5 k 10 [some (.inr 0), some (.inl (nI n)), some (.inl y), none, none] [] sg := by
    intro n hn hx
    have hb : xN (aXp a n) < 2 ^ 31 := Nat.lt_of_le_of_lt (xN_le _) (by decide)
    have hR : aReplay a x y = match inR y (xN (aXp a n)) with | some m => aRep a n m | none => (-1, a) := by
      unfold aReplay
      rcases hn with rfl | rfl
      · rw [if_pos hx]; rfl
      · rw [if_neg (by rw [hx]; decide +kernel), if_pos hx]; rfl
    have h24 : ew_E qS w 5 k 24 [some (.inr 0), some (.inl (nI n)), some (.inl y), none, none] [.inl (nI (xN (aXp a n))), .inl y] sg := by
      refine ew_callS g qd_X_replay_24 (k_X_isBelow w k.2.1 sg _ _) qs_X_38 rfl rfl (Nat.le_of_ble_eq_true rfl) ⟨rfl, rfl, by decide, by decide⟩ (fun v sg1 hv => ?_)
      obtain ⟨rfl, rfl⟩ := hv
      cases hy : inR y (xN (aXp a n)) with
      | none =>
        refine en_top (show _ = nI 0 by rw [inR_b hb, hy]) ?_
        refine en_if_ne g qd_X_replay_27 (tgt := 32) (by decide) (by omega) (fun hz => ?_) (fun hz => ?_)
        · exact absurd rfl hz
        · rw [← hx]
          exact hno (by rw [hR, hy])
      | some m =>
        obtain ⟨m1, m2⟩ := inR_s hb hy
        refine en_top (show _ = nI 1 by rw [inR_b hb, hy]) ?_
        refine en_if_ne g qd_X_replay_27 (tgt := 32) (by decide) (by omega) (fun hz => ?_) (fun hz => ?_)
        · rw [m2]
          exact h32 n m hn hx m2 m1 (by rw [hR, hy])
        · exact absurd hz (by decide)
    rcases hn with rfl | rfl
    · refine ew_iload_n g qd_X_replay_10 rfl ?_
      refine ew_iload_n g qd_X_replay_11 rfl ?_
      refine ew_iconst g qd_X_replay_12 ic_1 ?_
      refine en_ne g qd_X_replay_13 (tgt := 21) (by decide) (by omega) (by omega) (fun hz => ?_) (fun hz => ?_)
      · exact absurd rfl hz
      · refine ew_bipush g qd_X_replay_16 bp_64 ?_
        refine ew_goto g qd_X_replay_18 (tgt := 24) (by decide) ?_
        exact h24
    · refine ew_iload_n g qd_X_replay_10 rfl ?_
      refine ew_iload_n g qd_X_replay_11 rfl ?_
      refine ew_iconst g qd_X_replay_12 ic_1 ?_
      refine en_ne g qd_X_replay_13 (tgt := 21) (by decide) (by omega) (by omega) (fun hz => ?_) (fun hz => ?_)
      · refine ew_sipush g qd_X_replay_21 sp_4096 ?_
        exact h24
      · exact absurd hz (by decide)
  refine ew_iload_n g qd_X_replay_0 rfl ?_
  refine ew_iconst g qd_X_replay_1 ic_1 ?_
  refine ew_icmp_eq g qd_X_replay_2 (tgt := 10) (by decide) (fun hx1 => ?_) (fun hx1 => ?_)
  · rw [hx1]
    exact h10 1 (Or.inl rfl) hx1
  · refine ew_iload_n g qd_X_replay_5 rfl ?_
    refine ew_iconst g qd_X_replay_6 ic_2 ?_
    refine ew_icmp_ne g qd_X_replay_7 (tgt := 30) (by decide) (fun hx2 => ?_) (fun hx2 => ?_)
    · exact hno (by unfold aReplay; rw [if_neg hx1, if_neg hx2])
    · rw [hx2]
      exact h10 2 (Or.inr rfl) hx2
end
