-- ===== PART A: goes FIRST, ahead of the names: the tables' words, and 'selects' of the private methods out of them =====
/-- a private method of a class that the tables say can be made, by its rows of tables_1 -/
def lw_okq (q : MethodName × Nat) : Prop := (q.1.cls ≠ "java/lang/invoke/MethodHandle" ∧ q.1.cls ≠ "java/lang/invoke/VarHandle") ∧ Cond.instantiable q.1.cls q.2 ∈ tables_1 ∧ Cond.privateMethod q.1 ∈ tables_1 ∧ Cond.instanceMethod q.1 ∈ tables_1
theorem lw_p0 : lw_okq (⟨"WordGroups$Items", "moveDown", "(I)V"⟩, 4) := ⟨⟨by decide +kernel, by decide +kernel⟩, List.mem_of_getElem? (i := 43) (by decide +kernel), List.mem_of_getElem? (i := 271) (by decide +kernel), List.mem_of_getElem? (i := 272) (by decide +kernel)⟩
theorem lw_p1 : lw_okq (⟨"WordGroups$Items", "isLess", "(II)Z"⟩, 4) := ⟨⟨by decide +kernel, by decide +kernel⟩, List.mem_of_getElem? (i := 43) (by decide +kernel), List.mem_of_getElem? (i := 275) (by decide +kernel), List.mem_of_getElem? (i := 276) (by decide +kernel)⟩
theorem lw_p2 : lw_okq (⟨"WordGroups$Items", "swap", "(II)V"⟩, 4) := ⟨⟨by decide +kernel, by decide +kernel⟩, List.mem_of_getElem? (i := 43) (by decide +kernel), List.mem_of_getElem? (i := 279) (by decide +kernel), List.mem_of_getElem? (i := 280) (by decide +kernel)⟩
theorem lw_p3 : lw_okq (⟨"WordGroups$Items", "leastEmptyGroup", "()I"⟩, 4) := ⟨⟨by decide +kernel, by decide +kernel⟩, List.mem_of_getElem? (i := 43) (by decide +kernel), List.mem_of_getElem? (i := 287) (by decide +kernel), List.mem_of_getElem? (i := 288) (by decide +kernel)⟩
theorem lw_p4 : lw_okq (⟨"WordGroups$Nodes", "add", "(I)V"⟩, 4) := ⟨⟨by decide +kernel, by decide +kernel⟩, List.mem_of_getElem? (i := 96) (by decide +kernel), List.mem_of_getElem? (i := 383) (by decide +kernel), List.mem_of_getElem? (i := 384) (by decide +kernel)⟩
theorem lw_p5 : lw_okq (⟨"WordGroups$Nodes", "addBeginnings", "(I)V"⟩, 4) := ⟨⟨by decide +kernel, by decide +kernel⟩, List.mem_of_getElem? (i := 96) (by decide +kernel), List.mem_of_getElem? (i := 391) (by decide +kernel), List.mem_of_getElem? (i := 392) (by decide +kernel)⟩
theorem lw_p6 : lw_okq (⟨"WordGroups$Nodes", "failureOf", "(I)I"⟩, 4) := ⟨⟨by decide +kernel, by decide +kernel⟩, List.mem_of_getElem? (i := 96) (by decide +kernel), List.mem_of_getElem? (i := 407) (by decide +kernel), List.mem_of_getElem? (i := 408) (by decide +kernel)⟩
theorem lw_p7 : lw_okq (⟨"WordGroups$Text", "matchAt", "(IILWordGroups$Items;)I"⟩, 4) := ⟨⟨by decide +kernel, by decide +kernel⟩, List.mem_of_getElem? (i := 17) (by decide +kernel), List.mem_of_getElem? (i := 436) (by decide +kernel), List.mem_of_getElem? (i := 437) (by decide +kernel)⟩
theorem lw_p8 : lw_okq (⟨"WordGroups$Text", "longestAt", "(ILWordGroups$Items;)I"⟩, 4) := ⟨⟨by decide +kernel, by decide +kernel⟩, List.mem_of_getElem? (i := 17) (by decide +kernel), List.mem_of_getElem? (i := 450) (by decide +kernel), List.mem_of_getElem? (i := 451) (by decide +kernel)⟩
theorem lw_p9 : lw_okq (⟨"WordGroups$Text", "divide", "(LWordGroups$Items;)V"⟩, 4) := ⟨⟨by decide +kernel, by decide +kernel⟩, List.mem_of_getElem? (i := 17) (by decide +kernel), List.mem_of_getElem? (i := 492) (by decide +kernel), List.mem_of_getElem? (i := 493) (by decide +kernel)⟩
theorem lw_p10 : lw_okq (⟨"WordGroups$Text", "offer", "(III)V"⟩, 4) := ⟨⟨by decide +kernel, by decide +kernel⟩, List.mem_of_getElem? (i := 17) (by decide +kernel), List.mem_of_getElem? (i := 496) (by decide +kernel), List.mem_of_getElem? (i := 497) (by decide +kernel)⟩
def lw_privs_1 : List (MethodName × Nat) := [(⟨"WordGroups$Items", "moveDown", "(I)V"⟩, 4), (⟨"WordGroups$Items", "isLess", "(II)Z"⟩, 4), (⟨"WordGroups$Items", "swap", "(II)V"⟩, 4), (⟨"WordGroups$Items", "leastEmptyGroup", "()I"⟩, 4), (⟨"WordGroups$Nodes", "add", "(I)V"⟩, 4), (⟨"WordGroups$Nodes", "addBeginnings", "(I)V"⟩, 4), (⟨"WordGroups$Nodes", "failureOf", "(I)I"⟩, 4), (⟨"WordGroups$Text", "matchAt", "(IILWordGroups$Items;)I"⟩, 4), (⟨"WordGroups$Text", "longestAt", "(ILWordGroups$Items;)I"⟩, 4), (⟨"WordGroups$Text", "divide", "(LWordGroups$Items;)V"⟩, 4), (⟨"WordGroups$Text", "offer", "(III)V"⟩, 4)]
theorem lw_r1 : ∀ q ∈ lw_privs_1, lw_okq q := List.forall_mem_cons.mpr ⟨lw_p0, List.forall_mem_cons.mpr ⟨lw_p1, List.forall_mem_cons.mpr ⟨lw_p2, List.forall_mem_cons.mpr ⟨lw_p3, List.forall_mem_cons.mpr ⟨lw_p4, List.forall_mem_cons.mpr ⟨lw_p5, List.forall_mem_cons.mpr ⟨lw_p6, List.forall_mem_cons.mpr ⟨lw_p7, List.forall_mem_cons.mpr ⟨lw_p8, List.forall_mem_cons.mpr ⟨lw_p9, List.forall_mem_cons.mpr ⟨lw_p10, fun _ h => absurd h List.not_mem_nil⟩⟩⟩⟩⟩⟩⟩⟩⟩⟩⟩
def lw_privs : List (MethodName × Nat) := lw_privs_1
def lw_tbl : List Cond := k2_sels lw_privs ++ tables_1
theorem lw_privs_ok : ∀ q ∈ lw_privs, lw_okq q := lw_r1
/-- the streams that the claim lets the run draw from -/
abbrev lw_cs : List Choice := [Jvm.Choice.named "NaN.bits"]
theorem lw_bits : nanBits ∈ lw_cs := by first | decide | exact List.mem_cons_self | simp [lw_cs, nanBits]
def RX0 : String := "WordGroups$Dictionary"
def TX0 : u_T := fun k => match k with
  | 0 => ("WordGroups$Dictionary", "live", "LWordGroups$Items;", true)
  | 1 => ("WordGroups$Dictionary", "inserted", "LWordGroups$Items;", true)
  | 2 => ("WordGroups$Dictionary", "removed", "LWordGroups$Items;", true)
  | 3 => ("WordGroups$Dictionary", "costs", "I", false)
  | _ => ("WordGroups$Dictionary", "rebuildings", "I", false)
def tyX0 : Nat → FieldType := fun k => match k with
  | 0 => .object "WordGroups$Items"
  | 1 => .object "WordGroups$Items"
  | 2 => .object "WordGroups$Items"
  | 3 => .int
  | _ => .int
theorem nmX0 : ∀ a, a < 5 → ∀ b, b < 5 → a ≠ b → (TX0 a).2.1 ≠ (TX0 b).2.1 := by decide +kernel
theorem tyX0_ok : ∀ k, k < 5 → parseFieldDescriptor (TX0 k).2.2.1 = some (tyX0 k) := by decide +kernel
def RX1 : String := "WordGroups$History"
def TX1 : u_T := fun k => match k with
  | 0 => ("WordGroups$History", "states", "[LWordGroups$Dictionary;", true)
  | 1 => ("WordGroups$History", "next", "I", false)
  | _ => ("WordGroups$History", "size", "I", false)
def tyX1 : Nat → FieldType := fun k => match k with
  | 0 => .array (.object "WordGroups$Dictionary")
  | 1 => .int
  | _ => .int
theorem nmX1 : ∀ a, a < 3 → ∀ b, b < 3 → a ≠ b → (TX1 a).2.1 ≠ (TX1 b).2.1 := by decide +kernel
theorem tyX1_ok : ∀ k, k < 3 → parseFieldDescriptor (TX1 k).2.2.1 = some (tyX1 k) := by decide +kernel
def RX2 : String := "WordGroups$Items"
def TX2 : u_T := fun k => match k with
  | 0 => ("WordGroups$Items", "groups", "[I", true)
  | 1 => ("WordGroups$Items", "codes", "[I", true)
  | 2 => ("WordGroups$Items", "weights", "[I", true)
  | _ => ("WordGroups$Items", "size", "I", false)
def tyX2 : Nat → FieldType := fun k => match k with
  | 0 => .array .int
  | 1 => .array .int
  | 2 => .array .int
  | _ => .int
theorem nmX2 : ∀ a, a < 4 → ∀ b, b < 4 → a ≠ b → (TX2 a).2.1 ≠ (TX2 b).2.1 := by decide +kernel
theorem tyX2_ok : ∀ k, k < 4 → parseFieldDescriptor (TX2 k).2.2.1 = some (tyX2 k) := by decide +kernel
def RX3 : String := "WordGroups$Nodes"
def TX3 : u_T := fun k => match k with
  | 0 => ("WordGroups$Nodes", "readingOf", "[I", true)
  | 1 => ("WordGroups$Nodes", "codes", "[I", true)
  | 2 => ("WordGroups$Nodes", "reading", "I", false)
  | _ => ("WordGroups$Nodes", "size", "I", false)
def tyX3 : Nat → FieldType := fun k => match k with
  | 0 => .array .int
  | 1 => .array .int
  | 2 => .int
  | _ => .int
theorem nmX3 : ∀ a, a < 4 → ∀ b, b < 4 → a ≠ b → (TX3 a).2.1 ≠ (TX3 b).2.1 := by decide +kernel
theorem tyX3_ok : ∀ k, k < 4 → parseFieldDescriptor (TX3 k).2.2.1 = some (tyX3 k) := by decide +kernel
def RX4 : String := "WordGroups$Text"
def TX4 : u_T := fun k => match k with
  | 0 => ("WordGroups$Text", "letters", "[I", true)
  | 1 => ("WordGroups$Text", "length", "I", false)
  | 2 => ("WordGroups$Text", "bestWeights", "[I", true)
  | _ => ("WordGroups$Text", "fewestMatches", "[I", true)
def tyX4 : Nat → FieldType := fun k => match k with
  | 0 => .array .int
  | 1 => .int
  | 2 => .array .int
  | _ => .array .int
theorem nmX4 : ∀ a, a < 4 → ∀ b, b < 4 → a ≠ b → (TX4 a).2.1 ≠ (TX4 b).2.1 := by decide +kernel
theorem tyX4_ok : ∀ k, k < 4 → parseFieldDescriptor (TX4 k).2.2.1 = some (tyX4 k) := by decide +kernel
def RX5 : String := "WordGroups"
def TX5 : u_T := fun k => match k with
  | 0 => ("WordGroups", "text", "LWordGroups$Text;", true)
  | 1 => ("WordGroups", "present", "LWordGroups$Dictionary;", true)
  | 2 => ("WordGroups", "history", "LWordGroups$History;", true)
  | 3 => ("WordGroups", "images", "[LWordGroups$Dictionary;", true)
  | 4 => ("WordGroups", "nodes", "LWordGroups$Nodes;", true)
  | _ => ("WordGroups", "pattern", "I", false)
def tyX5 : Nat → FieldType := fun k => match k with
  | 0 => .object "WordGroups$Text"
  | 1 => .object "WordGroups$Dictionary"
  | 2 => .object "WordGroups$History"
  | 3 => .array (.object "WordGroups$Dictionary")
  | 4 => .object "WordGroups$Nodes"
  | _ => .int
theorem nmX5 : ∀ a, a < 6 → ∀ b, b < 6 → a ≠ b → (TX5 a).2.1 ≠ (TX5 b).2.1 := by decide +kernel
theorem tyX5_ok : ∀ k, k < 6 → parseFieldDescriptor (TX5 k).2.2.1 = some (tyX5 k) := by decide +kernel
def RJ9 : String := "java/lang/Math"
def RL : String := "WordGroupsLaw"
abbrev cX0_init : ByteArray := prog_2_method_1_code
def yX0_init : MethodName := ⟨RX0, "<init>", "()V"⟩
abbrev cX0_live : ByteArray := prog_2_method_2_code
def yX0_live : MethodName := ⟨RX0, "live", "()LWordGroups$Items;"⟩
abbrev cX0_family : ByteArray := prog_2_method_3_code
def yX0_family : MethodName := ⟨RX0, "family", "(I)LWordGroups$Items;"⟩
abbrev cX0_costs : ByteArray := prog_2_method_4_code
def yX0_costs : MethodName := ⟨RX0, "costs", "()I"⟩
abbrev cX0_rebuildings : ByteArray := prog_2_method_5_code
def yX0_rebuildings : MethodName := ⟨RX0, "rebuildings", "()I"⟩
abbrev cX0_copy : ByteArray := prog_2_method_6_code
def yX0_copy : MethodName := ⟨RX0, "copy", "(LWordGroups$Dictionary;)V"⟩
abbrev cX0_enter : ByteArray := prog_2_method_7_code
def yX0_enter : MethodName := ⟨RX0, "enter", "(II)I"⟩
abbrev cX0_drop : ByteArray := prog_2_method_8_code
def yX0_drop : MethodName := ⟨RX0, "drop", "(I)I"⟩
abbrev cX0_renew : ByteArray := prog_2_method_9_code
def yX0_renew : MethodName := ⟨RX0, "renew", "()I"⟩
abbrev cX0_leastGroupFor : ByteArray := prog_2_method_10_code
def yX0_leastGroupFor : MethodName := ⟨RX0, "leastGroupFor", "(I)I"⟩
abbrev cX1_init : ByteArray := prog_3_method_1_code
def yX1_init : MethodName := ⟨RX1, "<init>", "()V"⟩
abbrev cX1_size : ByteArray := prog_3_method_2_code
def yX1_size : MethodName := ⟨RX1, "size", "()I"⟩
abbrev cX1_record : ByteArray := prog_3_method_3_code
def yX1_record : MethodName := ⟨RX1, "record", "(LWordGroups$Dictionary;)V"⟩
abbrev cX1_restore : ByteArray := prog_3_method_4_code
def yX1_restore : MethodName := ⟨RX1, "restore", "(LWordGroups$Dictionary;)V"⟩
abbrev cX2_init : ByteArray := prog_4_method_1_code
def yX2_init : MethodName := ⟨RX2, "<init>", "()V"⟩
abbrev cX2_size : ByteArray := prog_4_method_2_code
def yX2_size : MethodName := ⟨RX2, "size", "()I"⟩
abbrev cX2_codeAt : ByteArray := prog_4_method_3_code
def yX2_codeAt : MethodName := ⟨RX2, "codeAt", "(I)I"⟩
abbrev cX2_weightAt : ByteArray := prog_4_method_4_code
def yX2_weightAt : MethodName := ⟨RX2, "weightAt", "(I)I"⟩
abbrev cX2_indexOf : ByteArray := prog_4_method_5_code
def yX2_indexOf : MethodName := ⟨RX2, "indexOf", "(I)I"⟩
abbrev cX2_startOf : ByteArray := prog_4_method_6_code
def yX2_startOf : MethodName := ⟨RX2, "startOf", "(I)I"⟩
abbrev cX2_sizeOf : ByteArray := prog_4_method_7_code
def yX2_sizeOf : MethodName := ⟨RX2, "sizeOf", "(I)I"⟩
abbrev cX2_lettersIn : ByteArray := prog_4_method_8_code
def yX2_lettersIn : MethodName := ⟨RX2, "lettersIn", "(I)I"⟩
abbrev cX2_weightsIn : ByteArray := prog_4_method_9_code
def yX2_weightsIn : MethodName := ⟨RX2, "weightsIn", "(I)I"⟩
abbrev cX2_groupsInUse : ByteArray := prog_4_method_10_code
def yX2_groupsInUse : MethodName := ⟨RX2, "groupsInUse", "()I"⟩
abbrev cX2_makeEmpty : ByteArray := prog_4_method_11_code
def yX2_makeEmpty : MethodName := ⟨RX2, "makeEmpty", "()V"⟩
abbrev cX2_copy : ByteArray := prog_4_method_12_code
def yX2_copy : MethodName := ⟨RX2, "copy", "(LWordGroups$Items;)V"⟩
abbrev cX2_add : ByteArray := prog_4_method_13_code
def yX2_add : MethodName := ⟨RX2, "add", "(III)V"⟩
abbrev cX2_takeOut : ByteArray := prog_4_method_14_code
def yX2_takeOut : MethodName := ⟨RX2, "takeOut", "(I)V"⟩
abbrev cX2_put : ByteArray := prog_4_method_15_code
def yX2_put : MethodName := ⟨RX2, "put", "(II)I"⟩
abbrev cX2_leastEmptyGroup : ByteArray := prog_4_method_16_code
def yX2_leastEmptyGroup : MethodName := ⟨RX2, "leastEmptyGroup", "()I"⟩
abbrev cX2_moveDown : ByteArray := prog_4_method_17_code
def yX2_moveDown : MethodName := ⟨RX2, "moveDown", "(I)V"⟩
abbrev cX2_isLess : ByteArray := prog_4_method_18_code
def yX2_isLess : MethodName := ⟨RX2, "isLess", "(II)Z"⟩
abbrev cX2_swap : ByteArray := prog_4_method_19_code
def yX2_swap : MethodName := ⟨RX2, "swap", "(II)V"⟩
abbrev cX3_init : ByteArray := prog_5_method_1_code
def yX3_init : MethodName := ⟨RX3, "<init>", "()V"⟩
abbrev cX3_size : ByteArray := prog_5_method_2_code
def yX3_size : MethodName := ⟨RX3, "size", "()I"⟩
abbrev cX3_read : ByteArray := prog_5_method_3_code
def yX3_read : MethodName := ⟨RX3, "read", "(LWordGroups$Items;I)V"⟩
abbrev cX3_has : ByteArray := prog_5_method_4_code
def yX3_has : MethodName := ⟨RX3, "has", "(I)Z"⟩
abbrev cX3_failureLetters : ByteArray := prog_5_method_5_code
def yX3_failureLetters : MethodName := ⟨RX3, "failureLetters", "()I"⟩
abbrev cX3_failureOf : ByteArray := prog_5_method_6_code
def yX3_failureOf : MethodName := ⟨RX3, "failureOf", "(I)I"⟩
abbrev cX3_addBeginnings : ByteArray := prog_5_method_7_code
def yX3_addBeginnings : MethodName := ⟨RX3, "addBeginnings", "(I)V"⟩
abbrev cX3_add : ByteArray := prog_5_method_8_code
def yX3_add : MethodName := ⟨RX3, "add", "(I)V"⟩
abbrev cX3_numberOf : ByteArray := prog_5_method_9_code
def yX3_numberOf : MethodName := ⟨RX3, "numberOf", "(I)I"⟩
abbrev cX4_init : ByteArray := prog_6_method_1_code
def yX4_init : MethodName := ⟨RX4, "<init>", "()V"⟩
abbrev cX4_length : ByteArray := prog_6_method_2_code
def yX4_length : MethodName := ⟨RX4, "length", "()I"⟩
abbrev cX4_makeEmpty : ByteArray := prog_6_method_3_code
def yX4_makeEmpty : MethodName := ⟨RX4, "makeEmpty", "()V"⟩
abbrev cX4_append : ByteArray := prog_6_method_4_code
def yX4_append : MethodName := ⟨RX4, "append", "(I)V"⟩
abbrev cX4_letterAt : ByteArray := prog_6_method_5_code
def yX4_letterAt : MethodName := ⟨RX4, "letterAt", "(I)I"⟩
abbrev cX4_ending : ByteArray := prog_6_method_6_code
def yX4_ending : MethodName := ⟨RX4, "ending", "(II)I"⟩
abbrev cX4_hasEnding : ByteArray := prog_6_method_7_code
def yX4_hasEnding : MethodName := ⟨RX4, "hasEnding", "(II)Z"⟩
abbrev cX4_occurrences : ByteArray := prog_6_method_8_code
def yX4_occurrences : MethodName := ⟨RX4, "occurrences", "(I)I"⟩
abbrev cX4_matchesAt : ByteArray := prog_6_method_9_code
def yX4_matchesAt : MethodName := ⟨RX4, "matchesAt", "(ILWordGroups$Items;)I"⟩
abbrev cX4_weightAt : ByteArray := prog_6_method_10_code
def yX4_weightAt : MethodName := ⟨RX4, "weightAt", "(ILWordGroups$Items;)I"⟩
abbrev cX4_longestCodeAt : ByteArray := prog_6_method_11_code
def yX4_longestCodeAt : MethodName := ⟨RX4, "longestCodeAt", "(ILWordGroups$Items;)I"⟩
abbrev cX4_covers : ByteArray := prog_6_method_12_code
def yX4_covers : MethodName := ⟨RX4, "covers", "(ILWordGroups$Items;)Z"⟩
abbrev cX4_matches : ByteArray := prog_6_method_13_code
def yX4_matches : MethodName := ⟨RX4, "matches", "(LWordGroups$Items;)I"⟩
abbrev cX4_weightOfMatches : ByteArray := prog_6_method_14_code
def yX4_weightOfMatches : MethodName := ⟨RX4, "weightOfMatches", "(LWordGroups$Items;)I"⟩
abbrev cX4_coveredLetters : ByteArray := prog_6_method_15_code
def yX4_coveredLetters : MethodName := ⟨RX4, "coveredLetters", "(LWordGroups$Items;)I"⟩
abbrev cX4_heaviestPosition : ByteArray := prog_6_method_16_code
def yX4_heaviestPosition : MethodName := ⟨RX4, "heaviestPosition", "(LWordGroups$Items;)I"⟩
abbrev cX4_divisionWeight : ByteArray := prog_6_method_17_code
def yX4_divisionWeight : MethodName := ⟨RX4, "divisionWeight", "(LWordGroups$Items;)I"⟩
abbrev cX4_divisionMatches : ByteArray := prog_6_method_18_code
def yX4_divisionMatches : MethodName := ⟨RX4, "divisionMatches", "(LWordGroups$Items;)I"⟩
abbrev cX4_divide : ByteArray := prog_6_method_19_code
def yX4_divide : MethodName := ⟨RX4, "divide", "(LWordGroups$Items;)V"⟩
abbrev cX4_offer : ByteArray := prog_6_method_20_code
def yX4_offer : MethodName := ⟨RX4, "offer", "(III)V"⟩
abbrev cX4_longestAt : ByteArray := prog_6_method_21_code
def yX4_longestAt : MethodName := ⟨RX4, "longestAt", "(ILWordGroups$Items;)I"⟩
abbrev cX4_matchAt : ByteArray := prog_6_method_22_code
def yX4_matchAt : MethodName := ⟨RX4, "matchAt", "(IILWordGroups$Items;)I"⟩
abbrev cX5_init : ByteArray := prog_1_method_1_code
def yX5_init : MethodName := ⟨RX5, "<init>", "()V"⟩
abbrev cX5_spell : ByteArray := prog_1_method_4_code
def yX5_spell : MethodName := ⟨RX5, "spell", "(I)I"⟩
abbrev cX5_type : ByteArray := prog_1_method_5_code
def yX5_type : MethodName := ⟨RX5, "type", "()I"⟩
abbrev cX5_clear : ByteArray := prog_1_method_6_code
def yX5_clear : MethodName := ⟨RX5, "clear", "()I"⟩
abbrev cX5_insert : ByteArray := prog_1_method_7_code
def yX5_insert : MethodName := ⟨RX5, "insert", "(I)I"⟩
abbrev cX5_remove : ByteArray := prog_1_method_8_code
def yX5_remove : MethodName := ⟨RX5, "remove", "()I"⟩
abbrev cX5_weigh : ByteArray := prog_1_method_9_code
def yX5_weigh : MethodName := ⟨RX5, "weigh", "(I)I"⟩
abbrev cX5_rebuild : ByteArray := prog_1_method_10_code
def yX5_rebuild : MethodName := ⟨RX5, "rebuild", "()I"⟩
abbrev cX5_undo : ByteArray := prog_1_method_11_code
def yX5_undo : MethodName := ⟨RX5, "undo", "()I"⟩
abbrev cX5_told : ByteArray := prog_1_method_12_code
def yX5_told : MethodName := ⟨RX5, "told", "(I)I"⟩
abbrev cX5_word : ByteArray := prog_1_method_13_code
def yX5_word : MethodName := ⟨RX5, "word", "(II)I"⟩
abbrev cX5_group : ByteArray := prog_1_method_14_code
def yX5_group : MethodName := ⟨RX5, "group", "(III)I"⟩
abbrev cX5_item : ByteArray := prog_1_method_15_code
def yX5_item : MethodName := ⟨RX5, "item", "(IIII)I"⟩
abbrev cX5_at : ByteArray := prog_1_method_17_code
def yX5_at : MethodName := ⟨RX5, "at", "(II)I"⟩
abbrev cX5_total : ByteArray := prog_1_method_18_code
def yX5_total : MethodName := ⟨RX5, "total", "(I)I"⟩
abbrev cX5_find : ByteArray := prog_1_method_19_code
def yX5_find : MethodName := ⟨RX5, "find", "(II)I"⟩
abbrev cX5_mean : ByteArray := prog_1_method_20_code
def yX5_mean : MethodName := ⟨RX5, "mean", "()F"⟩
abbrev cX5_keep : ByteArray := prog_1_method_21_code
def yX5_keep : MethodName := ⟨RX5, "keep", "(I)I"⟩
abbrev cX5_back : ByteArray := prog_1_method_22_code
def yX5_back : MethodName := ⟨RX5, "back", "(I)I"⟩
abbrev cX5_isWeight : ByteArray := prog_1_method_23_code
def yX5_isWeight : MethodName := ⟨RX5, "isWeight", "(I)Z"⟩
abbrev cX5_isGroup : ByteArray := prog_1_method_24_code
def yX5_isGroup : MethodName := ⟨RX5, "isGroup", "(II)Z"⟩
abbrev cX5_isWord : ByteArray := prog_1_method_25_code
def yX5_isWord : MethodName := ⟨RX5, "isWord", "(I)Z"⟩
abbrev cX5_lettersOf : ByteArray := prog_1_method_26_code
def yX5_lettersOf : MethodName := ⟨RX5, "lettersOf", "(I)I"⟩
abbrev cL_cell : ByteArray := method_2_code
def yL_cell : MethodName := ⟨RL, "cell", "([II)I"⟩
abbrev cL_low : ByteArray := method_3_code
def yL_low : MethodName := ⟨RL, "low", "(II)I"⟩
abbrev cL_spell : ByteArray := method_4_code
def yL_spell : MethodName := ⟨RL, "spell", "(LWordGroups;I)I"⟩
abbrev cL_change : ByteArray := method_5_code
def yL_change : MethodName := ⟨RL, "change", "(LWordGroups;II)I"⟩
abbrev cL_areGroups : ByteArray := method_6_code
def yL_areGroups : MethodName := ⟨RL, "areGroups", "(LWordGroups;)Z"⟩
abbrev cL_size : ByteArray := method_7_code
def yL_size : MethodName := ⟨RL, "size", "(I)I"⟩
abbrev cL_isLive : ByteArray := method_8_code
def yL_isLive : MethodName := ⟨RL, "isLive", "(LWordGroups;II)Z"⟩
abbrev cL_areMatches : ByteArray := method_9_code
def yL_areMatches : MethodName := ⟨RL, "areMatches", "(LWordGroups;)Z"⟩
abbrev cL_areAlike : ByteArray := method_10_code
def yL_areAlike : MethodName := ⟨RL, "areAlike", "(LWordGroups;LWordGroups;)Z"⟩
abbrev cL_law : ByteArray := code
def yL_law : MethodName := ⟨RL, "law", "([I)Z"⟩
abbrev vwCl : List vw_C := [(RX0, TX0, 5), (RX1, TX1, 3), (RX2, TX2, 4), (RX3, TX3, 4), (RX4, TX4, 4), (RX5, TX5, 6)]
def cN : List String := [RX0, RX1, RX2, RX3, RX4, RX5, RJ9, RL]
abbrev MI : Type := MethodName × ByteArray × Nat × Option FieldType × Nat × Nat
def mtab_0 : List (MI) := [(yX0_init, cX0_init, 1, none, 0, 2),
  (yX0_live, cX0_live, 1, (some (.object "WordGroups$Items")), 0, 1),
  (yX0_family, cX0_family, 2, (some (.object "WordGroups$Items")), 0, 1),
  (yX0_costs, cX0_costs, 1, (some .int), 0, 1),
  (yX0_rebuildings, cX0_rebuildings, 1, (some .int), 0, 1),
  (yX0_copy, cX0_copy, 2, none, 0, 1),
  (yX0_enter, cX0_enter, 4, (some .int), 0, 1),
  (yX0_drop, cX0_drop, 3, (some .int), 0, 1),
  (yX0_renew, cX0_renew, 3, (some .int), 0, 1),
  (yX0_leastGroupFor, cX0_leastGroupFor, 2, (some .int), 0, 0),
  (yX1_init, cX1_init, 1, none, 1, 2),
  (yX1_size, cX1_size, 1, (some .int), 1, 1),
  (yX1_record, cX1_record, 3, none, 1, 1),
  (yX1_restore, cX1_restore, 3, none, 1, 1),
  (yX2_init, cX2_init, 1, none, 2, 2),
  (yX2_size, cX2_size, 1, (some .int), 2, 1),
  (yX2_codeAt, cX2_codeAt, 2, (some .int), 2, 1),
  (yX2_weightAt, cX2_weightAt, 2, (some .int), 2, 1),
  (yX2_indexOf, cX2_indexOf, 3, (some .int), 2, 1),
  (yX2_startOf, cX2_startOf, 4, (some .int), 2, 1),
  (yX2_sizeOf, cX2_sizeOf, 2, (some .int), 2, 1),
  (yX2_lettersIn, cX2_lettersIn, 4, (some .int), 2, 1),
  (yX2_weightsIn, cX2_weightsIn, 4, (some .int), 2, 1),
  (yX2_groupsInUse, cX2_groupsInUse, 3, (some .int), 2, 1),
  (yX2_makeEmpty, cX2_makeEmpty, 1, none, 2, 1),
  (yX2_copy, cX2_copy, 3, none, 2, 1),
  (yX2_add, cX2_add, 4, none, 2, 1),
  (yX2_takeOut, cX2_takeOut, 3, none, 2, 1),
  (yX2_put, cX2_put, 5, (some .int), 2, 1),
  (yX2_leastEmptyGroup, cX2_leastEmptyGroup, 2, (some .int), 2, 1),
  (yX2_moveDown, cX2_moveDown, 3, none, 2, 1),
  (yX2_isLess, cX2_isLess, 3, (some .boolean), 2, 1),
  (yX2_swap, cX2_swap, 6, none, 2, 1),
  (yX3_init, cX3_init, 1, none, 3, 2),
  (yX3_size, cX3_size, 1, (some .int), 3, 1),
  (yX3_read, cX3_read, 6, none, 3, 1),
  (yX3_has, cX3_has, 3, (some .boolean), 3, 1),
  (yX3_failureLetters, cX3_failureLetters, 3, (some .int), 3, 1),
  (yX3_failureOf, cX3_failureOf, 3, (some .int), 3, 1),
  (yX3_addBeginnings, cX3_addBeginnings, 3, none, 3, 1)]
def mtab_1 : List (MI) := [(yX3_add, cX3_add, 3, none, 3, 1),
  (yX3_numberOf, cX3_numberOf, 4, (some .int), 3, 0),
  (yX4_init, cX4_init, 1, none, 4, 2),
  (yX4_length, cX4_length, 1, (some .int), 4, 1),
  (yX4_makeEmpty, cX4_makeEmpty, 1, none, 4, 1),
  (yX4_append, cX4_append, 3, none, 4, 1),
  (yX4_letterAt, cX4_letterAt, 2, (some .int), 4, 1),
  (yX4_ending, cX4_ending, 5, (some .int), 4, 1),
  (yX4_hasEnding, cX4_hasEnding, 3, (some .boolean), 4, 1),
  (yX4_occurrences, cX4_occurrences, 4, (some .int), 4, 1),
  (yX4_matchesAt, cX4_matchesAt, 5, (some .int), 4, 1),
  (yX4_weightAt, cX4_weightAt, 6, (some .int), 4, 1),
  (yX4_longestCodeAt, cX4_longestCodeAt, 4, (some .int), 4, 1),
  (yX4_covers, cX4_covers, 4, (some .boolean), 4, 1),
  (yX4_matches, cX4_matches, 4, (some .int), 4, 1),
  (yX4_weightOfMatches, cX4_weightOfMatches, 4, (some .int), 4, 1),
  (yX4_coveredLetters, cX4_coveredLetters, 5, (some .int), 4, 1),
  (yX4_heaviestPosition, cX4_heaviestPosition, 6, (some .int), 4, 1),
  (yX4_divisionWeight, cX4_divisionWeight, 2, (some .int), 4, 1),
  (yX4_divisionMatches, cX4_divisionMatches, 2, (some .int), 4, 1),
  (yX4_divide, cX4_divide, 5, none, 4, 1),
  (yX4_offer, cX4_offer, 6, none, 4, 1),
  (yX4_longestAt, cX4_longestAt, 4, (some .int), 4, 1),
  (yX4_matchAt, cX4_matchAt, 4, (some .int), 4, 1),
  (yX5_init, cX5_init, 1, none, 5, 2),
  (yX5_spell, cX5_spell, 2, (some .int), 5, 1),
  (yX5_type, cX5_type, 1, (some .int), 5, 1),
  (yX5_clear, cX5_clear, 2, (some .int), 5, 1),
  (yX5_insert, cX5_insert, 2, (some .int), 5, 1),
  (yX5_remove, cX5_remove, 2, (some .int), 5, 1),
  (yX5_weigh, cX5_weigh, 4, (some .int), 5, 1),
  (yX5_rebuild, cX5_rebuild, 1, (some .int), 5, 1),
  (yX5_undo, cX5_undo, 1, (some .int), 5, 1),
  (yX5_told, cX5_told, 2, (some .int), 5, 1),
  (yX5_word, cX5_word, 4, (some .int), 5, 1),
  (yX5_group, cX5_group, 5, (some .int), 5, 1),
  (yX5_item, cX5_item, 7, (some .int), 5, 1),
  (yX5_at, cX5_at, 4, (some .int), 5, 1),
  (yX5_total, cX5_total, 3, (some .int), 5, 1),
  (yX5_find, cX5_find, 7, (some .int), 5, 1)]
def mtab_2 : List (MI) := [(yX5_mean, cX5_mean, 2, (some .float), 5, 1),
  (yX5_keep, cX5_keep, 3, (some .int), 5, 1),
  (yX5_back, cX5_back, 3, (some .int), 5, 1),
  (yX5_isWeight, cX5_isWeight, 1, (some .boolean), 5, 0),
  (yX5_isGroup, cX5_isGroup, 2, (some .boolean), 5, 0),
  (yX5_isWord, cX5_isWord, 2, (some .boolean), 5, 0),
  (yX5_lettersOf, cX5_lettersOf, 3, (some .int), 5, 0),
  (yL_cell, cL_cell, 2, (some .int), 7, 0),
  (yL_low, cL_low, 2, (some .int), 7, 0),
  (yL_spell, cL_spell, 5, (some .int), 7, 0),
  (yL_change, cL_change, 5, (some .int), 7, 0),
  (yL_areGroups, cL_areGroups, 11, (some .boolean), 7, 0),
  (yL_size, cL_size, 3, (some .int), 7, 0),
  (yL_isLive, cL_isLive, 9, (some .boolean), 7, 0),
  (yL_areMatches, cL_areMatches, 10, (some .boolean), 7, 0),
  (yL_areAlike, cL_areAlike, 4, (some .boolean), 7, 0),
  (yL_law, cL_law, 8, (some .boolean), 7, 0)]
def mtab : List (MI) := mtab_0 ++ mtab_1 ++ mtab_2
abbrev Op : Type := Nat × Int × Nat × Nat × List (Int × Nat)
def k_0 : List Op := [(4, 0, 0, 0, []), (31, 0, 0, 0, []), (4, 0, 0, 0, []), (17, 0, 2, 0, []), (18, 0, 0, 0, []), (25, 2, 14, 1, []), (9, 0, 0, 0, []), (4, 0, 0, 0, []), (17, 0, 2, 0, []), (18, 0, 0, 0, []), (25, 2, 14, 1, []), (9, 0, 0, 1, []), (4, 0, 0, 0, []), (17, 0, 2, 0, []), (18, 0, 0, 0, []), (25, 2, 14, 1, []), (9, 0, 0, 2, []), (4, 0, 0, 0, []), (0, 0, 0, 0, []), (9, 0, 0, 3, []), (4, 0, 0, 0, []), (0, 0, 0, 0, []), (9, 0, 0, 4, []), (26, 0, 0, 0, [])]
def p_0 : List Nat := [0, 1, 4, 5, 8, 9, 12, 15, 16, 19, 20, 23, 26, 27, 30, 31, 34, 37, 38, 39, 42, 43, 44, 47]
def k_1 : List Op := [(4, 0, 0, 0, []), (8, 0, 0, 0, []), (29, 0, 0, 0, [])]
def p_1 : List Nat := [0, 1, 4]
def k_2 : List Op := [(1, 0, 1, 0, []), (51, 0, 5, 0, []), (4, 0, 0, 0, []), (8, 0, 0, 1, []), (7, 0, 7, 0, []), (4, 0, 0, 0, []), (8, 0, 0, 2, []), (29, 0, 0, 0, [])]
def p_2 : List Nat := [0, 1, 4, 5, 8, 11, 12, 15]
def k_3 : List Op := [(4, 0, 0, 0, []), (8, 0, 0, 3, []), (27, 0, 0, 0, [])]
def p_3 : List Nat := [0, 1, 4]
def k_4 : List Op := [(4, 0, 0, 0, []), (8, 0, 0, 4, []), (27, 0, 0, 0, [])]
def p_4 : List Nat := [0, 1, 4]
def k_5 : List Op := [(4, 0, 0, 0, []), (8, 0, 0, 0, []), (4, 0, 1, 0, []), (8, 0, 0, 0, []), (24, 2, 25, 2, []), (4, 0, 0, 0, []), (8, 0, 0, 1, []), (4, 0, 1, 0, []), (8, 0, 0, 1, []), (24, 2, 25, 2, []), (4, 0, 0, 0, []), (8, 0, 0, 2, []), (4, 0, 1, 0, []), (8, 0, 0, 2, []), (24, 2, 25, 2, []), (4, 0, 0, 0, []), (4, 0, 1, 0, []), (8, 0, 0, 3, []), (9, 0, 0, 3, []), (4, 0, 0, 0, []), (4, 0, 1, 0, []), (8, 0, 0, 4, []), (9, 0, 0, 4, []), (26, 0, 0, 0, [])]
def p_5 : List Nat := [0, 1, 4, 5, 8, 11, 12, 15, 16, 19, 22, 23, 26, 27, 30, 33, 34, 35, 38, 41, 42, 43, 46, 49]
def k_6 : List Op := [(4, 0, 0, 0, []), (8, 0, 0, 0, []), (0, 0, 0, 0, []), (1, 0, 1, 0, []), (1, 0, 2, 0, []), (24, 2, 26, 4, []), (4, 0, 0, 0, []), (8, 0, 0, 1, []), (1, 0, 1, 0, []), (1, 0, 2, 0, []), (24, 2, 28, 3, []), (2, 0, 3, 0, []), (4, 0, 0, 0, []), (18, 0, 0, 0, []), (8, 0, 0, 3, []), (4, 0, 0, 0, []), (8, 0, 0, 1, []), (1, 0, 3, 0, []), (24, 2, 21, 2, []), (40, 0, 0, 0, []), (9, 0, 0, 3, []), (1, 0, 3, 0, []), (27, 0, 0, 0, [])]
def p_6 : List Nat := [0, 1, 4, 5, 6, 7, 10, 11, 14, 15, 16, 19, 20, 21, 22, 25, 26, 29, 30, 33, 34, 37, 38]
def k_7 : List Op := [(4, 0, 0, 0, []), (8, 0, 0, 2, []), (4, 0, 0, 0, []), (8, 0, 0, 0, []), (1, 0, 1, 0, []), (24, 2, 16, 2, []), (4, 0, 0, 0, []), (8, 0, 0, 0, []), (1, 0, 1, 0, []), (24, 2, 17, 2, []), (24, 2, 28, 3, []), (2, 0, 2, 0, []), (4, 0, 0, 0, []), (18, 0, 0, 0, []), (8, 0, 0, 3, []), (4, 0, 0, 0, []), (8, 0, 0, 2, []), (1, 0, 2, 0, []), (24, 2, 21, 2, []), (40, 0, 0, 0, []), (9, 0, 0, 3, []), (4, 0, 0, 0, []), (8, 0, 0, 0, []), (1, 0, 1, 0, []), (24, 2, 27, 2, []), (0, 2, 0, 0, []), (4, 0, 0, 0, []), (8, 0, 0, 2, []), (24, 2, 15, 1, []), (42, 0, 0, 0, []), (4, 0, 0, 0, []), (8, 0, 0, 1, []), (24, 2, 15, 1, []), (64, 0, 36, 0, []), (1, 0, 2, 0, []), (27, 0, 0, 0, []), (4, 0, 0, 0, []), (24, 0, 8, 1, []), (19, 0, 0, 0, []), (4, 0, 0, 0, []), (8, 0, 0, 0, []), (24, 2, 15, 1, []), (51, 0, 45, 0, []), (0, 20, 0, 0, []), (7, 0, 51, 0, []), (0, 10, 0, 0, []), (4, 0, 0, 0, []), (8, 0, 0, 0, []), (24, 2, 15, 1, []), (23, 0, 9, 1, []), (40, 0, 0, 0, []), (27, 0, 0, 0, [])]
def p_7 : List Nat := [0, 1, 4, 5, 8, 9, 12, 13, 16, 17, 20, 23, 24, 25, 26, 29, 30, 33, 34, 37, 38, 41, 42, 45, 46, 49, 50, 51, 54, 57, 58, 59, 62, 65, 68, 69, 70, 71, 74, 75, 76, 79, 82, 85, 87, 90, 92, 93, 96, 99, 102, 103]
def k_8 : List Op := [(4, 0, 0, 0, []), (8, 0, 0, 1, []), (24, 2, 24, 1, []), (4, 0, 0, 0, []), (8, 0, 0, 2, []), (24, 2, 24, 1, []), (4, 0, 0, 0, []), (8, 0, 0, 0, []), (24, 2, 15, 1, []), (23, 0, 9, 1, []), (2, 0, 1, 0, []), (0, 0, 0, 0, []), (2, 0, 2, 0, []), (1, 0, 2, 0, []), (4, 0, 0, 0, []), (8, 0, 0, 0, []), (24, 2, 15, 1, []), (63, 0, 32, 0, []), (4, 0, 0, 0, []), (8, 0, 0, 1, []), (1, 0, 1, 0, []), (4, 0, 0, 0, []), (8, 0, 0, 0, []), (1, 0, 2, 0, []), (24, 2, 16, 2, []), (4, 0, 0, 0, []), (8, 0, 0, 0, []), (1, 0, 2, 0, []), (24, 2, 17, 2, []), (24, 2, 26, 4, []), (3, 1, 2, 0, []), (7, 0, 13, 0, []), (4, 0, 0, 0, []), (8, 0, 0, 1, []), (1, 0, 1, 0, []), (24, 2, 21, 2, []), (2, 0, 2, 0, []), (4, 0, 0, 0, []), (18, 0, 0, 0, []), (8, 0, 0, 3, []), (1, 0, 2, 0, []), (40, 0, 0, 0, []), (9, 0, 0, 3, []), (4, 0, 0, 0, []), (18, 0, 0, 0, []), (8, 0, 0, 4, []), (0, 1, 0, 0, []), (40, 0, 0, 0, []), (9, 0, 0, 4, []), (1, 0, 2, 0, []), (27, 0, 0, 0, [])]
def p_8 : List Nat := [0, 1, 4, 7, 8, 11, 14, 15, 18, 21, 24, 25, 26, 27, 28, 29, 32, 35, 38, 39, 42, 43, 44, 47, 48, 51, 52, 55, 56, 59, 62, 65, 68, 69, 72, 73, 76, 77, 78, 79, 82, 83, 84, 87, 88, 89, 92, 93, 94, 97, 98]
def k_9 : List Op := [(0, 0, 0, 0, []), (2, 0, 1, 0, []), (1, 0, 1, 0, []), (0, 6, 0, 0, []), (63, 0, 12, 0, []), (0, 1, 0, 0, []), (1, 0, 1, 0, []), (47, 0, 0, 0, []), (1, 0, 0, 0, []), (63, 0, 12, 0, []), (3, 1, 1, 0, []), (7, 0, 2, 0, []), (1, 0, 1, 0, []), (27, 0, 0, 0, [])]
def p_9 : List Nat := [0, 1, 2, 3, 5, 8, 9, 10, 11, 12, 15, 18, 21, 22]
def k_10 : List Op := [(4, 0, 0, 0, []), (31, 0, 0, 0, []), (4, 0, 0, 0, []), (0, 8, 0, 0, []), (16, 0, 0, 0, []), (9, 0, 1, 0, []), (4, 0, 0, 0, []), (0, 0, 0, 0, []), (9, 0, 1, 1, []), (4, 0, 0, 0, []), (0, 0, 0, 0, []), (9, 0, 1, 2, []), (26, 0, 0, 0, [])]
def p_10 : List Nat := [0, 1, 4, 5, 7, 10, 13, 14, 15, 18, 19, 20, 23]
def k_11 : List Op := [(4, 0, 0, 0, []), (8, 0, 1, 2, []), (27, 0, 0, 0, [])]
def p_11 : List Nat := [0, 1, 4]
def k_12 : List Op := [(4, 0, 0, 0, []), (8, 0, 1, 0, []), (4, 0, 0, 0, []), (8, 0, 1, 1, []), (12, 0, 0, 0, []), (5, 0, 2, 0, []), (4, 0, 2, 0, []), (22, 0, 18, 0, []), (17, 0, 0, 0, []), (18, 0, 0, 0, []), (25, 0, 0, 1, []), (5, 0, 2, 0, []), (4, 0, 0, 0, []), (8, 0, 1, 0, []), (4, 0, 0, 0, []), (8, 0, 1, 1, []), (4, 0, 2, 0, []), (13, 0, 0, 0, []), (4, 0, 2, 0, []), (4, 0, 1, 0, []), (24, 0, 5, 2, []), (4, 0, 0, 0, []), (4, 0, 0, 0, []), (8, 0, 1, 1, []), (0, 1, 0, 0, []), (40, 0, 0, 0, []), (0, 8, 0, 0, []), (63, 0, 33, 0, []), (4, 0, 0, 0, []), (8, 0, 1, 1, []), (0, 1, 0, 0, []), (40, 0, 0, 0, []), (7, 0, 34, 0, []), (0, 0, 0, 0, []), (9, 0, 1, 1, []), (4, 0, 0, 0, []), (4, 0, 0, 0, []), (8, 0, 1, 2, []), (0, 1, 0, 0, []), (40, 0, 0, 0, []), (0, 8, 0, 0, []), (56, 0, 0, 0, []), (9, 0, 1, 2, []), (26, 0, 0, 0, [])]
def p_12 : List Nat := [0, 1, 4, 5, 8, 9, 10, 11, 14, 17, 18, 21, 22, 23, 26, 27, 30, 31, 32, 33, 34, 37, 38, 39, 42, 43, 44, 46, 49, 50, 53, 54, 55, 58, 59, 62, 63, 64, 67, 68, 69, 71, 74, 77]
def k_13 : List Op := [(4, 0, 0, 0, []), (8, 0, 1, 2, []), (51, 0, 4, 0, []), (26, 0, 0, 0, []), (4, 0, 0, 0, []), (4, 0, 0, 0, []), (8, 0, 1, 1, []), (55, 0, 13, 0, []), (4, 0, 0, 0, []), (8, 0, 1, 1, []), (0, 1, 0, 0, []), (41, 0, 0, 0, []), (7, 0, 14, 0, []), (0, 7, 0, 0, []), (9, 0, 1, 1, []), (4, 0, 0, 0, []), (18, 0, 0, 0, []), (8, 0, 1, 2, []), (0, 1, 0, 0, []), (41, 0, 0, 0, []), (9, 0, 1, 2, []), (4, 0, 0, 0, []), (8, 0, 1, 0, []), (4, 0, 0, 0, []), (8, 0, 1, 1, []), (12, 0, 0, 0, []), (5, 0, 2, 0, []), (4, 0, 2, 0, []), (21, 0, 32, 0, []), (4, 0, 1, 0, []), (4, 0, 2, 0, []), (24, 0, 5, 2, []), (26, 0, 0, 0, [])]
def p_13 : List Nat := [0, 1, 4, 7, 8, 9, 10, 13, 16, 17, 20, 21, 22, 25, 27, 30, 31, 32, 35, 36, 37, 40, 41, 44, 45, 48, 49, 50, 51, 54, 55, 56, 59]
def k_14 : List Op := [(4, 0, 0, 0, []), (31, 0, 0, 0, []), (4, 0, 0, 0, []), (0, 48, 0, 0, []), (15, 0, 0, 0, []), (9, 0, 2, 0, []), (4, 0, 0, 0, []), (0, 48, 0, 0, []), (15, 0, 0, 0, []), (9, 0, 2, 1, []), (4, 0, 0, 0, []), (0, 48, 0, 0, []), (15, 0, 0, 0, []), (9, 0, 2, 2, []), (4, 0, 0, 0, []), (0, 0, 0, 0, []), (9, 0, 2, 3, []), (26, 0, 0, 0, [])]
def p_14 : List Nat := [0, 1, 4, 5, 7, 9, 12, 13, 15, 17, 20, 21, 23, 25, 28, 29, 30, 33]
def k_15 : List Op := [(4, 0, 0, 0, []), (8, 0, 2, 3, []), (27, 0, 0, 0, [])]
def p_15 : List Nat := [0, 1, 4]
def k_16 : List Op := [(1, 0, 1, 0, []), (52, 0, 11, 0, []), (1, 0, 1, 0, []), (4, 0, 0, 0, []), (8, 0, 2, 3, []), (63, 0, 11, 0, []), (4, 0, 0, 0, []), (8, 0, 2, 1, []), (1, 0, 1, 0, []), (10, 0, 0, 0, []), (7, 0, 12, 0, []), (0, 0, 0, 0, []), (27, 0, 0, 0, [])]
def p_16 : List Nat := [0, 1, 4, 5, 6, 9, 12, 13, 16, 17, 18, 21, 22]
def k_17 : List Op := [(1, 0, 1, 0, []), (52, 0, 11, 0, []), (1, 0, 1, 0, []), (4, 0, 0, 0, []), (8, 0, 2, 3, []), (63, 0, 11, 0, []), (4, 0, 0, 0, []), (8, 0, 2, 2, []), (1, 0, 1, 0, []), (10, 0, 0, 0, []), (7, 0, 12, 0, []), (0, 0, 0, 0, []), (27, 0, 0, 0, [])]
def p_17 : List Nat := [0, 1, 4, 5, 6, 9, 12, 13, 16, 17, 18, 21, 22]
def k_18 : List Op := [(0, 0, 0, 0, []), (2, 0, 2, 0, []), (1, 0, 2, 0, []), (4, 0, 0, 0, []), (8, 0, 2, 3, []), (63, 0, 22, 0, []), (4, 0, 0, 0, []), (8, 0, 2, 1, []), (1, 0, 2, 0, []), (10, 0, 0, 0, []), (1, 0, 1, 0, []), (64, 0, 22, 0, []), (4, 0, 0, 0, []), (8, 0, 2, 1, []), (1, 0, 2, 0, []), (10, 0, 0, 0, []), (1, 0, 1, 0, []), (61, 0, 20, 0, []), (1, 0, 2, 0, []), (27, 0, 0, 0, []), (3, 1, 2, 0, []), (7, 0, 2, 0, []), (0, -1, 0, 0, []), (27, 0, 0, 0, [])]
def p_18 : List Nat := [0, 1, 2, 3, 4, 7, 10, 11, 14, 15, 16, 17, 20, 21, 24, 25, 26, 27, 30, 31, 32, 35, 38, 39]
def k_19 : List Op := [(0, 0, 0, 0, []), (2, 0, 2, 0, []), (0, 0, 0, 0, []), (2, 0, 3, 0, []), (1, 0, 3, 0, []), (4, 0, 0, 0, []), (8, 0, 2, 3, []), (63, 0, 17, 0, []), (4, 0, 0, 0, []), (8, 0, 2, 0, []), (1, 0, 3, 0, []), (10, 0, 0, 0, []), (1, 0, 1, 0, []), (63, 0, 17, 0, []), (3, 1, 2, 0, []), (3, 1, 3, 0, []), (7, 0, 4, 0, []), (1, 0, 2, 0, []), (27, 0, 0, 0, [])]
def p_19 : List Nat := [0, 1, 2, 3, 4, 5, 6, 9, 12, 13, 16, 17, 18, 19, 22, 25, 28, 31, 32]
def k_20 : List Op := [(4, 0, 0, 0, []), (1, 0, 1, 0, []), (0, 1, 0, 0, []), (40, 0, 0, 0, []), (24, 2, 19, 2, []), (4, 0, 0, 0, []), (1, 0, 1, 0, []), (24, 2, 19, 2, []), (41, 0, 0, 0, []), (27, 0, 0, 0, [])]
def p_20 : List Nat := [0, 1, 2, 3, 4, 7, 8, 9, 12, 13]
def k_21 : List Op := [(0, 0, 0, 0, []), (2, 0, 2, 0, []), (0, 0, 0, 0, []), (2, 0, 3, 0, []), (1, 0, 3, 0, []), (4, 0, 0, 0, []), (8, 0, 2, 3, []), (63, 0, 24, 0, []), (4, 0, 0, 0, []), (8, 0, 2, 0, []), (1, 0, 3, 0, []), (10, 0, 0, 0, []), (1, 0, 1, 0, []), (61, 0, 22, 0, []), (1, 0, 2, 0, []), (4, 0, 0, 0, []), (8, 0, 2, 1, []), (1, 0, 3, 0, []), (10, 0, 0, 0, []), (23, 0, 86, 1, []), (40, 0, 0, 0, []), (2, 0, 2, 0, []), (3, 1, 3, 0, []), (7, 0, 4, 0, []), (1, 0, 2, 0, []), (27, 0, 0, 0, [])]
def p_21 : List Nat := [0, 1, 2, 3, 4, 5, 6, 9, 12, 13, 16, 17, 18, 19, 22, 23, 24, 27, 28, 29, 32, 33, 34, 37, 40, 41]
def k_22 : List Op := [(0, 0, 0, 0, []), (2, 0, 2, 0, []), (0, 0, 0, 0, []), (2, 0, 3, 0, []), (1, 0, 3, 0, []), (4, 0, 0, 0, []), (8, 0, 2, 3, []), (63, 0, 23, 0, []), (4, 0, 0, 0, []), (8, 0, 2, 0, []), (1, 0, 3, 0, []), (10, 0, 0, 0, []), (1, 0, 1, 0, []), (61, 0, 21, 0, []), (1, 0, 2, 0, []), (4, 0, 0, 0, []), (8, 0, 2, 2, []), (1, 0, 3, 0, []), (10, 0, 0, 0, []), (40, 0, 0, 0, []), (2, 0, 2, 0, []), (3, 1, 3, 0, []), (7, 0, 4, 0, []), (1, 0, 2, 0, []), (27, 0, 0, 0, [])]
def p_22 : List Nat := [0, 1, 2, 3, 4, 5, 6, 9, 12, 13, 16, 17, 18, 19, 22, 23, 24, 27, 28, 29, 30, 31, 34, 37, 38]
def k_23 : List Op := [(0, 0, 0, 0, []), (2, 0, 1, 0, []), (0, 0, 0, 0, []), (2, 0, 2, 0, []), (1, 0, 2, 0, []), (0, 7, 0, 0, []), (63, 0, 14, 0, []), (4, 0, 0, 0, []), (1, 0, 2, 0, []), (24, 2, 20, 2, []), (55, 0, 12, 0, []), (3, 1, 1, 0, []), (3, 1, 2, 0, []), (7, 0, 4, 0, []), (1, 0, 1, 0, []), (27, 0, 0, 0, [])]
def p_23 : List Nat := [0, 1, 2, 3, 4, 5, 7, 10, 11, 12, 15, 18, 21, 24, 27, 28]
def k_24 : List Op := [(4, 0, 0, 0, []), (0, 0, 0, 0, []), (9, 0, 2, 3, []), (26, 0, 0, 0, [])]
def p_24 : List Nat := [0, 1, 2, 5]
def k_25 : List Op := [(4, 0, 0, 0, []), (4, 0, 1, 0, []), (8, 0, 2, 3, []), (9, 0, 2, 3, []), (0, 0, 0, 0, []), (2, 0, 2, 0, []), (1, 0, 2, 0, []), (4, 0, 0, 0, []), (8, 0, 2, 3, []), (63, 0, 36, 0, []), (4, 0, 0, 0, []), (8, 0, 2, 0, []), (1, 0, 2, 0, []), (4, 0, 1, 0, []), (8, 0, 2, 0, []), (1, 0, 2, 0, []), (10, 0, 0, 0, []), (11, 0, 0, 0, []), (4, 0, 0, 0, []), (8, 0, 2, 1, []), (1, 0, 2, 0, []), (4, 0, 1, 0, []), (8, 0, 2, 1, []), (1, 0, 2, 0, []), (10, 0, 0, 0, []), (11, 0, 0, 0, []), (4, 0, 0, 0, []), (8, 0, 2, 2, []), (1, 0, 2, 0, []), (4, 0, 1, 0, []), (8, 0, 2, 2, []), (1, 0, 2, 0, []), (10, 0, 0, 0, []), (11, 0, 0, 0, []), (3, 1, 2, 0, []), (7, 0, 6, 0, []), (26, 0, 0, 0, [])]
def p_25 : List Nat := [0, 1, 2, 5, 8, 9, 10, 11, 12, 15, 18, 19, 22, 23, 24, 27, 28, 29, 30, 31, 34, 35, 36, 39, 40, 41, 42, 43, 46, 47, 48, 51, 52, 53, 54, 57, 60]
def k_26 : List Op := [(4, 0, 0, 0, []), (8, 0, 2, 3, []), (0, 48, 0, 0, []), (62, 0, 5, 0, []), (26, 0, 0, 0, []), (4, 0, 0, 0, []), (8, 0, 2, 0, []), (4, 0, 0, 0, []), (8, 0, 2, 3, []), (1, 0, 1, 0, []), (11, 0, 0, 0, []), (4, 0, 0, 0, []), (8, 0, 2, 1, []), (4, 0, 0, 0, []), (8, 0, 2, 3, []), (1, 0, 2, 0, []), (11, 0, 0, 0, []), (4, 0, 0, 0, []), (8, 0, 2, 2, []), (4, 0, 0, 0, []), (8, 0, 2, 3, []), (1, 0, 3, 0, []), (11, 0, 0, 0, []), (4, 0, 0, 0, []), (18, 0, 0, 0, []), (8, 0, 2, 3, []), (0, 1, 0, 0, []), (40, 0, 0, 0, []), (9, 0, 2, 3, []), (4, 0, 0, 0, []), (4, 0, 0, 0, []), (8, 0, 2, 3, []), (0, 1, 0, 0, []), (41, 0, 0, 0, []), (24, 2, 30, 2, []), (26, 0, 0, 0, [])]
def p_26 : List Nat := [0, 1, 4, 6, 9, 10, 11, 14, 15, 18, 19, 20, 21, 24, 25, 28, 29, 30, 31, 34, 35, 38, 39, 40, 41, 42, 45, 46, 47, 50, 51, 52, 55, 56, 57, 60]
def k_27 : List Op := [(1, 0, 1, 0, []), (52, 0, 6, 0, []), (1, 0, 1, 0, []), (4, 0, 0, 0, []), (8, 0, 2, 3, []), (62, 0, 7, 0, []), (26, 0, 0, 0, []), (1, 0, 1, 0, []), (2, 0, 2, 0, []), (1, 0, 2, 0, []), (0, 1, 0, 0, []), (40, 0, 0, 0, []), (4, 0, 0, 0, []), (8, 0, 2, 3, []), (63, 0, 23, 0, []), (4, 0, 0, 0, []), (1, 0, 2, 0, []), (1, 0, 2, 0, []), (0, 1, 0, 0, []), (40, 0, 0, 0, []), (24, 2, 32, 3, []), (3, 1, 2, 0, []), (7, 0, 9, 0, []), (4, 0, 0, 0, []), (18, 0, 0, 0, []), (8, 0, 2, 3, []), (0, 1, 0, 0, []), (41, 0, 0, 0, []), (9, 0, 2, 3, []), (26, 0, 0, 0, [])]
def p_27 : List Nat := [0, 1, 4, 5, 6, 9, 12, 13, 14, 15, 16, 17, 18, 19, 22, 25, 26, 27, 28, 29, 30, 33, 36, 39, 40, 41, 44, 45, 46, 49]
def k_28 : List Op := [(4, 0, 0, 0, []), (24, 2, 29, 1, []), (2, 0, 3, 0, []), (0, 0, 0, 0, []), (2, 0, 4, 0, []), (1, 0, 4, 0, []), (4, 0, 0, 0, []), (8, 0, 2, 3, []), (63, 0, 25, 0, []), (4, 0, 0, 0, []), (8, 0, 2, 0, []), (1, 0, 4, 0, []), (10, 0, 0, 0, []), (1, 0, 3, 0, []), (63, 0, 23, 0, []), (4, 0, 0, 0, []), (8, 0, 2, 0, []), (1, 0, 4, 0, []), (1, 0, 3, 0, []), (11, 0, 0, 0, []), (4, 0, 0, 0, []), (1, 0, 4, 0, []), (24, 2, 30, 2, []), (3, 1, 4, 0, []), (7, 0, 5, 0, []), (4, 0, 0, 0, []), (1, 0, 3, 0, []), (1, 0, 1, 0, []), (1, 0, 2, 0, []), (24, 2, 26, 4, []), (1, 0, 3, 0, []), (27, 0, 0, 0, [])]
def p_28 : List Nat := [0, 1, 4, 5, 6, 8, 10, 11, 14, 17, 18, 21, 23, 24, 25, 28, 29, 32, 34, 35, 36, 37, 39, 42, 45, 48, 49, 50, 51, 52, 55, 56]
def k_29 : List Op := [(0, 0, 0, 0, []), (2, 0, 1, 0, []), (1, 0, 1, 0, []), (0, 7, 0, 0, []), (63, 0, 13, 0, []), (4, 0, 0, 0, []), (1, 0, 1, 0, []), (24, 2, 20, 2, []), (51, 0, 11, 0, []), (1, 0, 1, 0, []), (27, 0, 0, 0, []), (3, 1, 1, 0, []), (7, 0, 2, 0, []), (0, 6, 0, 0, []), (27, 0, 0, 0, [])]
def p_29 : List Nat := [0, 1, 2, 3, 5, 8, 9, 10, 13, 16, 17, 18, 21, 24, 26]
def k_30 : List Op := [(1, 0, 1, 0, []), (2, 0, 2, 0, []), (1, 0, 2, 0, []), (55, 0, 23, 0, []), (1, 0, 2, 0, []), (4, 0, 0, 0, []), (8, 0, 2, 3, []), (63, 0, 23, 0, []), (4, 0, 0, 0, []), (1, 0, 2, 0, []), (1, 0, 2, 0, []), (0, 1, 0, 0, []), (41, 0, 0, 0, []), (24, 2, 31, 3, []), (50, 0, 23, 0, []), (4, 0, 0, 0, []), (1, 0, 2, 0, []), (1, 0, 2, 0, []), (0, 1, 0, 0, []), (41, 0, 0, 0, []), (24, 2, 32, 3, []), (3, -1, 2, 0, []), (7, 0, 2, 0, []), (26, 0, 0, 0, [])]
def p_30 : List Nat := [0, 1, 2, 3, 6, 7, 8, 11, 14, 15, 16, 17, 18, 19, 22, 25, 26, 27, 28, 29, 30, 33, 36, 39]
def k_31 : List Op := [(4, 0, 0, 0, []), (8, 0, 2, 0, []), (1, 0, 1, 0, []), (10, 0, 0, 0, []), (4, 0, 0, 0, []), (8, 0, 2, 0, []), (1, 0, 2, 0, []), (10, 0, 0, 0, []), (60, 0, 22, 0, []), (4, 0, 0, 0, []), (8, 0, 2, 0, []), (1, 0, 1, 0, []), (10, 0, 0, 0, []), (4, 0, 0, 0, []), (8, 0, 2, 0, []), (1, 0, 2, 0, []), (10, 0, 0, 0, []), (63, 0, 20, 0, []), (0, 1, 0, 0, []), (7, 0, 21, 0, []), (0, 0, 0, 0, []), (28, 0, 0, 0, []), (4, 0, 0, 0, []), (8, 0, 2, 1, []), (1, 0, 1, 0, []), (10, 0, 0, 0, []), (4, 0, 0, 0, []), (8, 0, 2, 1, []), (1, 0, 2, 0, []), (10, 0, 0, 0, []), (60, 0, 44, 0, []), (4, 0, 0, 0, []), (8, 0, 2, 1, []), (1, 0, 1, 0, []), (10, 0, 0, 0, []), (4, 0, 0, 0, []), (8, 0, 2, 1, []), (1, 0, 2, 0, []), (10, 0, 0, 0, []), (63, 0, 42, 0, []), (0, 1, 0, 0, []), (7, 0, 43, 0, []), (0, 0, 0, 0, []), (28, 0, 0, 0, []), (4, 0, 0, 0, []), (8, 0, 2, 2, []), (1, 0, 1, 0, []), (10, 0, 0, 0, []), (4, 0, 0, 0, []), (8, 0, 2, 2, []), (1, 0, 2, 0, []), (10, 0, 0, 0, []), (63, 0, 55, 0, []), (0, 1, 0, 0, []), (7, 0, 56, 0, []), (0, 0, 0, 0, []), (28, 0, 0, 0, [])]
def p_31 : List Nat := [0, 1, 4, 5, 6, 7, 10, 11, 12, 15, 16, 19, 20, 21, 22, 25, 26, 27, 30, 31, 34, 35, 36, 37, 40, 41, 42, 43, 46, 47, 48, 51, 52, 55, 56, 57, 58, 61, 62, 63, 66, 67, 70, 71, 72, 73, 76, 77, 78, 79, 82, 83, 84, 87, 88, 91, 92]
def k_32 : List Op := [(4, 0, 0, 0, []), (8, 0, 2, 0, []), (1, 0, 1, 0, []), (10, 0, 0, 0, []), (2, 0, 3, 0, []), (4, 0, 0, 0, []), (8, 0, 2, 1, []), (1, 0, 1, 0, []), (10, 0, 0, 0, []), (2, 0, 4, 0, []), (4, 0, 0, 0, []), (8, 0, 2, 2, []), (1, 0, 1, 0, []), (10, 0, 0, 0, []), (2, 0, 5, 0, []), (4, 0, 0, 0, []), (8, 0, 2, 0, []), (1, 0, 1, 0, []), (4, 0, 0, 0, []), (8, 0, 2, 0, []), (1, 0, 2, 0, []), (10, 0, 0, 0, []), (11, 0, 0, 0, []), (4, 0, 0, 0, []), (8, 0, 2, 1, []), (1, 0, 1, 0, []), (4, 0, 0, 0, []), (8, 0, 2, 1, []), (1, 0, 2, 0, []), (10, 0, 0, 0, []), (11, 0, 0, 0, []), (4, 0, 0, 0, []), (8, 0, 2, 2, []), (1, 0, 1, 0, []), (4, 0, 0, 0, []), (8, 0, 2, 2, []), (1, 0, 2, 0, []), (10, 0, 0, 0, []), (11, 0, 0, 0, []), (4, 0, 0, 0, []), (8, 0, 2, 0, []), (1, 0, 2, 0, []), (1, 0, 3, 0, []), (11, 0, 0, 0, []), (4, 0, 0, 0, []), (8, 0, 2, 1, []), (1, 0, 2, 0, []), (1, 0, 4, 0, []), (11, 0, 0, 0, []), (4, 0, 0, 0, []), (8, 0, 2, 2, []), (1, 0, 2, 0, []), (1, 0, 5, 0, []), (11, 0, 0, 0, []), (26, 0, 0, 0, [])]
def p_32 : List Nat := [0, 1, 4, 5, 6, 7, 8, 11, 12, 13, 15, 16, 19, 20, 21, 23, 24, 27, 28, 29, 32, 33, 34, 35, 36, 39, 40, 41, 44, 45, 46, 47, 48, 51, 52, 53, 56, 57, 58, 59, 60, 63, 64, 65, 66, 67, 70, 71, 73, 74, 75, 78, 79, 81, 82]
def k_33 : List Op := [(4, 0, 0, 0, []), (31, 0, 0, 0, []), (4, 0, 0, 0, []), (0, 5461, 0, 0, []), (15, 0, 0, 0, []), (9, 0, 3, 0, []), (4, 0, 0, 0, []), (0, 289, 0, 0, []), (15, 0, 0, 0, []), (9, 0, 3, 1, []), (4, 0, 0, 0, []), (0, 0, 0, 0, []), (9, 0, 3, 2, []), (4, 0, 0, 0, []), (0, 0, 0, 0, []), (9, 0, 3, 3, []), (26, 0, 0, 0, [])]
def p_33 : List Nat := [0, 1, 4, 5, 8, 10, 13, 14, 17, 19, 22, 23, 24, 27, 28, 29, 32]
def k_34 : List Op := [(4, 0, 0, 0, []), (8, 0, 3, 3, []), (27, 0, 0, 0, [])]
def p_34 : List Nat := [0, 1, 4]
def k_35 : List Op := [(4, 0, 0, 0, []), (18, 0, 0, 0, []), (8, 0, 3, 2, []), (0, 1, 0, 0, []), (40, 0, 0, 0, []), (9, 0, 3, 2, []), (4, 0, 0, 0, []), (0, 0, 0, 0, []), (9, 0, 3, 3, []), (4, 0, 1, 0, []), (1, 0, 2, 0, []), (24, 2, 19, 2, []), (2, 0, 3, 0, []), (4, 0, 1, 0, []), (1, 0, 2, 0, []), (0, 1, 0, 0, []), (40, 0, 0, 0, []), (24, 2, 19, 2, []), (2, 0, 4, 0, []), (1, 0, 3, 0, []), (1, 0, 4, 0, []), (63, 0, 25, 0, []), (4, 0, 0, 0, []), (0, 0, 0, 0, []), (24, 3, 40, 2, []), (1, 0, 3, 0, []), (2, 0, 5, 0, []), (1, 0, 5, 0, []), (1, 0, 4, 0, []), (63, 0, 37, 0, []), (4, 0, 0, 0, []), (4, 0, 1, 0, []), (1, 0, 5, 0, []), (24, 2, 16, 2, []), (24, 3, 39, 2, []), (3, 1, 5, 0, []), (7, 0, 27, 0, []), (26, 0, 0, 0, [])]
def p_35 : List Nat := [0, 1, 2, 5, 6, 7, 10, 11, 12, 15, 16, 17, 20, 21, 22, 23, 24, 25, 28, 30, 31, 33, 36, 37, 38, 41, 42, 44, 46, 48, 51, 52, 53, 55, 58, 61, 64, 67]
def k_36 : List Op := [(1, 0, 1, 0, []), (23, 0, 41, 1, []), (2, 0, 2, 0, []), (1, 0, 2, 0, []), (52, 0, 17, 0, []), (1, 0, 2, 0, []), (0, 5461, 0, 0, []), (63, 0, 17, 0, []), (4, 0, 0, 0, []), (8, 0, 3, 0, []), (1, 0, 2, 0, []), (10, 0, 0, 0, []), (4, 0, 0, 0, []), (8, 0, 3, 2, []), (61, 0, 17, 0, []), (0, 1, 0, 0, []), (7, 0, 18, 0, []), (0, 0, 0, 0, []), (28, 0, 0, 0, [])]
def p_36 : List Nat := [0, 1, 4, 5, 6, 9, 10, 13, 16, 17, 20, 21, 22, 23, 26, 29, 30, 33, 34]
def k_37 : List Op := [(0, 0, 0, 0, []), (2, 0, 1, 0, []), (0, 0, 0, 0, []), (2, 0, 2, 0, []), (1, 0, 2, 0, []), (4, 0, 0, 0, []), (8, 0, 3, 3, []), (63, 0, 20, 0, []), (1, 0, 1, 0, []), (4, 0, 0, 0, []), (4, 0, 0, 0, []), (8, 0, 3, 1, []), (1, 0, 2, 0, []), (10, 0, 0, 0, []), (24, 3, 38, 2, []), (23, 0, 86, 1, []), (40, 0, 0, 0, []), (2, 0, 1, 0, []), (3, 1, 2, 0, []), (7, 0, 4, 0, []), (1, 0, 1, 0, []), (27, 0, 0, 0, [])]
def p_37 : List Nat := [0, 1, 2, 3, 4, 5, 6, 9, 12, 13, 14, 15, 18, 19, 20, 23, 26, 27, 28, 31, 34, 35]
def k_38 : List Op := [(0, 100000, 0, 0, []), (2, 0, 2, 0, []), (1, 0, 2, 0, []), (0, 1, 0, 0, []), (65, 0, 23, 0, []), (1, 0, 2, 0, []), (1, 0, 1, 0, []), (64, 0, 18, 0, []), (4, 0, 0, 0, []), (1, 0, 1, 0, []), (1, 0, 2, 0, []), (44, 0, 0, 0, []), (24, 3, 36, 2, []), (50, 0, 18, 0, []), (1, 0, 1, 0, []), (1, 0, 2, 0, []), (44, 0, 0, 0, []), (27, 0, 0, 0, []), (1, 0, 2, 0, []), (0, 10, 0, 0, []), (43, 0, 0, 0, []), (2, 0, 2, 0, []), (7, 0, 2, 0, []), (0, 0, 0, 0, []), (27, 0, 0, 0, [])]
def p_38 : List Nat := [0, 2, 3, 4, 5, 8, 9, 10, 13, 14, 15, 16, 17, 20, 23, 24, 25, 26, 27, 28, 30, 31, 32, 35, 36]
def k_39 : List Op := [(1, 0, 1, 0, []), (2, 0, 2, 0, []), (1, 0, 2, 0, []), (55, 0, 16, 0, []), (4, 0, 0, 0, []), (1, 0, 2, 0, []), (24, 3, 36, 2, []), (51, 0, 16, 0, []), (4, 0, 0, 0, []), (1, 0, 2, 0, []), (24, 3, 40, 2, []), (1, 0, 2, 0, []), (0, 10, 0, 0, []), (43, 0, 0, 0, []), (2, 0, 2, 0, []), (7, 0, 2, 0, []), (26, 0, 0, 0, [])]
def p_39 : List Nat := [0, 1, 2, 3, 6, 7, 8, 11, 14, 15, 16, 19, 20, 22, 23, 24, 27]
def k_40 : List Op := [(1, 0, 1, 0, []), (23, 0, 41, 1, []), (2, 0, 2, 0, []), (1, 0, 2, 0, []), (52, 0, 14, 0, []), (1, 0, 2, 0, []), (0, 5461, 0, 0, []), (63, 0, 14, 0, []), (4, 0, 0, 0, []), (8, 0, 3, 3, []), (4, 0, 0, 0, []), (8, 0, 3, 1, []), (14, 0, 0, 0, []), (62, 0, 15, 0, []), (26, 0, 0, 0, []), (4, 0, 0, 0, []), (8, 0, 3, 0, []), (1, 0, 2, 0, []), (4, 0, 0, 0, []), (8, 0, 3, 2, []), (11, 0, 0, 0, []), (4, 0, 0, 0, []), (8, 0, 3, 1, []), (4, 0, 0, 0, []), (8, 0, 3, 3, []), (1, 0, 1, 0, []), (11, 0, 0, 0, []), (4, 0, 0, 0, []), (18, 0, 0, 0, []), (8, 0, 3, 3, []), (0, 1, 0, 0, []), (40, 0, 0, 0, []), (9, 0, 3, 3, []), (26, 0, 0, 0, [])]
def p_40 : List Nat := [0, 1, 4, 5, 6, 9, 10, 13, 16, 17, 20, 21, 24, 25, 28, 29, 30, 33, 34, 35, 38, 39, 40, 43, 44, 47, 48, 49, 50, 51, 54, 55, 56, 59]
def k_41 : List Op := [(0, 0, 0, 0, []), (2, 0, 1, 0, []), (0, 1, 0, 0, []), (2, 0, 2, 0, []), (1, 0, 0, 0, []), (2, 0, 3, 0, []), (1, 0, 3, 0, []), (55, 0, 25, 0, []), (1, 0, 1, 0, []), (1, 0, 3, 0, []), (0, 10, 0, 0, []), (44, 0, 0, 0, []), (1, 0, 2, 0, []), (42, 0, 0, 0, []), (40, 0, 0, 0, []), (2, 0, 1, 0, []), (1, 0, 2, 0, []), (0, 4, 0, 0, []), (42, 0, 0, 0, []), (2, 0, 2, 0, []), (1, 0, 3, 0, []), (0, 10, 0, 0, []), (43, 0, 0, 0, []), (2, 0, 3, 0, []), (7, 0, 6, 0, []), (1, 0, 1, 0, []), (27, 0, 0, 0, [])]
def p_41 : List Nat := [0, 1, 2, 3, 4, 5, 6, 7, 10, 11, 12, 14, 15, 16, 17, 18, 19, 20, 21, 22, 23, 24, 26, 27, 28, 31, 32]
def k_42 : List Op := [(4, 0, 0, 0, []), (31, 0, 0, 0, []), (4, 0, 0, 0, []), (0, 60, 0, 0, []), (15, 0, 0, 0, []), (9, 0, 4, 0, []), (4, 0, 0, 0, []), (0, 0, 0, 0, []), (9, 0, 4, 1, []), (4, 0, 0, 0, []), (0, 61, 0, 0, []), (15, 0, 0, 0, []), (9, 0, 4, 2, []), (4, 0, 0, 0, []), (0, 61, 0, 0, []), (15, 0, 0, 0, []), (9, 0, 4, 3, []), (26, 0, 0, 0, [])]
def p_42 : List Nat := [0, 1, 4, 5, 7, 9, 12, 13, 14, 17, 18, 20, 22, 25, 26, 28, 30, 33]
def k_43 : List Op := [(4, 0, 0, 0, []), (8, 0, 4, 1, []), (27, 0, 0, 0, [])]
def p_43 : List Nat := [0, 1, 4]
def k_44 : List Op := [(4, 0, 0, 0, []), (0, 0, 0, 0, []), (9, 0, 4, 1, []), (26, 0, 0, 0, [])]
def p_44 : List Nat := [0, 1, 2, 5]
def k_45 : List Op := [(0, 100000, 0, 0, []), (2, 0, 2, 0, []), (1, 0, 2, 0, []), (55, 0, 34, 0, []), (1, 0, 2, 0, []), (1, 0, 1, 0, []), (64, 0, 29, 0, []), (4, 0, 0, 0, []), (8, 0, 4, 1, []), (0, 60, 0, 0, []), (63, 0, 29, 0, []), (4, 0, 0, 0, []), (8, 0, 4, 0, []), (4, 0, 0, 0, []), (8, 0, 4, 1, []), (1, 0, 1, 0, []), (1, 0, 2, 0, []), (43, 0, 0, 0, []), (0, 10, 0, 0, []), (44, 0, 0, 0, []), (0, 1, 0, 0, []), (41, 0, 0, 0, []), (11, 0, 0, 0, []), (4, 0, 0, 0, []), (18, 0, 0, 0, []), (8, 0, 4, 1, []), (0, 1, 0, 0, []), (40, 0, 0, 0, []), (9, 0, 4, 1, []), (1, 0, 2, 0, []), (0, 10, 0, 0, []), (43, 0, 0, 0, []), (2, 0, 2, 0, []), (7, 0, 2, 0, []), (26, 0, 0, 0, [])]
def p_45 : List Nat := [0, 2, 3, 4, 7, 8, 9, 12, 13, 16, 18, 21, 22, 25, 26, 29, 30, 31, 32, 34, 35, 36, 37, 38, 39, 40, 43, 44, 45, 48, 49, 51, 52, 53, 56]
def k_46 : List Op := [(1, 0, 1, 0, []), (52, 0, 11, 0, []), (1, 0, 1, 0, []), (4, 0, 0, 0, []), (8, 0, 4, 1, []), (63, 0, 11, 0, []), (4, 0, 0, 0, []), (8, 0, 4, 0, []), (1, 0, 1, 0, []), (10, 0, 0, 0, []), (7, 0, 12, 0, []), (0, 0, 0, 0, []), (27, 0, 0, 0, [])]
def p_46 : List Nat := [0, 1, 4, 5, 6, 9, 12, 13, 16, 17, 18, 21, 22]
def k_47 : List Op := [(1, 0, 2, 0, []), (1, 0, 1, 0, []), (65, 0, 5, 0, []), (0, 0, 0, 0, []), (27, 0, 0, 0, []), (0, 0, 0, 0, []), (2, 0, 3, 0, []), (1, 0, 1, 0, []), (1, 0, 2, 0, []), (41, 0, 0, 0, []), (2, 0, 4, 0, []), (1, 0, 4, 0, []), (1, 0, 1, 0, []), (63, 0, 26, 0, []), (1, 0, 3, 0, []), (0, 10, 0, 0, []), (42, 0, 0, 0, []), (4, 0, 0, 0, []), (1, 0, 4, 0, []), (24, 4, 46, 2, []), (40, 0, 0, 0, []), (0, 1, 0, 0, []), (40, 0, 0, 0, []), (2, 0, 3, 0, []), (3, 1, 4, 0, []), (7, 0, 11, 0, []), (1, 0, 3, 0, []), (27, 0, 0, 0, [])]
def p_47 : List Nat := [0, 1, 2, 5, 6, 7, 8, 9, 10, 11, 12, 14, 16, 17, 20, 21, 23, 24, 25, 27, 30, 31, 32, 33, 34, 37, 40, 41]
def k_48 : List Op := [(4, 0, 0, 0, []), (1, 0, 1, 0, []), (0, 1, 0, 0, []), (40, 0, 0, 0, []), (1, 0, 2, 0, []), (23, 0, 86, 1, []), (24, 4, 47, 3, []), (1, 0, 2, 0, []), (61, 0, 11, 0, []), (0, 1, 0, 0, []), (7, 0, 12, 0, []), (0, 0, 0, 0, []), (28, 0, 0, 0, [])]
def p_48 : List Nat := [0, 1, 2, 3, 4, 5, 8, 11, 12, 15, 16, 19, 20]
def k_49 : List Op := [(0, 0, 0, 0, []), (2, 0, 2, 0, []), (0, 0, 0, 0, []), (2, 0, 3, 0, []), (1, 0, 3, 0, []), (4, 0, 0, 0, []), (8, 0, 4, 1, []), (63, 0, 16, 0, []), (4, 0, 0, 0, []), (1, 0, 3, 0, []), (1, 0, 1, 0, []), (24, 4, 48, 3, []), (50, 0, 14, 0, []), (3, 1, 2, 0, []), (3, 1, 3, 0, []), (7, 0, 4, 0, []), (1, 0, 2, 0, []), (27, 0, 0, 0, [])]
def p_49 : List Nat := [0, 1, 2, 3, 4, 5, 6, 9, 12, 13, 14, 15, 18, 21, 24, 27, 30, 31]
def k_50 : List Op := [(0, 0, 0, 0, []), (2, 0, 3, 0, []), (0, 1, 0, 0, []), (2, 0, 4, 0, []), (1, 0, 4, 0, []), (0, 6, 0, 0, []), (64, 0, 16, 0, []), (4, 0, 0, 0, []), (1, 0, 1, 0, []), (1, 0, 4, 0, []), (4, 0, 2, 0, []), (24, 4, 63, 4, []), (52, 0, 14, 0, []), (3, 1, 3, 0, []), (3, 1, 4, 0, []), (7, 0, 4, 0, []), (1, 0, 3, 0, []), (27, 0, 0, 0, [])]
def p_50 : List Nat := [0, 1, 2, 3, 5, 7, 9, 12, 13, 14, 16, 17, 20, 23, 26, 29, 32, 33]
def k_51 : List Op := [(0, 0, 0, 0, []), (2, 0, 3, 0, []), (0, 1, 0, 0, []), (2, 0, 4, 0, []), (1, 0, 4, 0, []), (0, 6, 0, 0, []), (64, 0, 23, 0, []), (4, 0, 0, 0, []), (1, 0, 1, 0, []), (1, 0, 4, 0, []), (4, 0, 2, 0, []), (24, 4, 63, 4, []), (2, 0, 5, 0, []), (1, 0, 5, 0, []), (52, 0, 21, 0, []), (1, 0, 3, 0, []), (4, 0, 2, 0, []), (1, 0, 5, 0, []), (24, 2, 17, 2, []), (40, 0, 0, 0, []), (2, 0, 3, 0, []), (3, 1, 4, 0, []), (7, 0, 4, 0, []), (1, 0, 3, 0, []), (27, 0, 0, 0, [])]
def p_51 : List Nat := [0, 1, 2, 3, 5, 7, 9, 12, 13, 14, 16, 17, 20, 22, 24, 27, 28, 29, 31, 34, 35, 36, 39, 42, 43]
def k_52 : List Op := [(4, 0, 0, 0, []), (1, 0, 1, 0, []), (4, 0, 2, 0, []), (24, 4, 62, 3, []), (2, 0, 3, 0, []), (1, 0, 3, 0, []), (51, 0, 9, 0, []), (0, -9999, 0, 0, []), (7, 0, 15, 0, []), (4, 0, 0, 0, []), (1, 0, 1, 0, []), (0, 1, 0, 0, []), (40, 0, 0, 0, []), (1, 0, 3, 0, []), (24, 4, 47, 3, []), (27, 0, 0, 0, [])]
def p_52 : List Nat := [0, 1, 2, 3, 6, 7, 8, 11, 14, 17, 18, 19, 20, 21, 22, 25]
def k_53 : List Op := [(1, 0, 1, 0, []), (2, 0, 3, 0, []), (1, 0, 3, 0, []), (1, 0, 1, 0, []), (0, 6, 0, 0, []), (40, 0, 0, 0, []), (63, 0, 23, 0, []), (1, 0, 3, 0, []), (4, 0, 0, 0, []), (8, 0, 4, 1, []), (63, 0, 23, 0, []), (4, 0, 0, 0, []), (1, 0, 3, 0, []), (4, 0, 2, 0, []), (24, 4, 62, 3, []), (1, 0, 3, 0, []), (1, 0, 1, 0, []), (41, 0, 0, 0, []), (65, 0, 21, 0, []), (0, 1, 0, 0, []), (28, 0, 0, 0, []), (3, 1, 3, 0, []), (7, 0, 2, 0, []), (0, 0, 0, 0, []), (28, 0, 0, 0, [])]
def p_53 : List Nat := [0, 1, 2, 3, 4, 6, 7, 10, 11, 12, 15, 18, 19, 20, 21, 24, 25, 26, 27, 30, 31, 32, 35, 38, 39]
def k_54 : List Op := [(0, 0, 0, 0, []), (2, 0, 2, 0, []), (0, 0, 0, 0, []), (2, 0, 3, 0, []), (1, 0, 3, 0, []), (4, 0, 0, 0, []), (8, 0, 4, 1, []), (63, 0, 17, 0, []), (1, 0, 2, 0, []), (4, 0, 0, 0, []), (1, 0, 3, 0, []), (4, 0, 1, 0, []), (24, 4, 50, 3, []), (40, 0, 0, 0, []), (2, 0, 2, 0, []), (3, 1, 3, 0, []), (7, 0, 4, 0, []), (1, 0, 2, 0, []), (27, 0, 0, 0, [])]
def p_54 : List Nat := [0, 1, 2, 3, 4, 5, 6, 9, 12, 13, 14, 15, 16, 19, 20, 21, 24, 27, 28]
def k_55 : List Op := [(0, 0, 0, 0, []), (2, 0, 2, 0, []), (0, 0, 0, 0, []), (2, 0, 3, 0, []), (1, 0, 3, 0, []), (4, 0, 0, 0, []), (8, 0, 4, 1, []), (63, 0, 17, 0, []), (1, 0, 2, 0, []), (4, 0, 0, 0, []), (1, 0, 3, 0, []), (4, 0, 1, 0, []), (24, 4, 51, 3, []), (40, 0, 0, 0, []), (2, 0, 2, 0, []), (3, 1, 3, 0, []), (7, 0, 4, 0, []), (1, 0, 2, 0, []), (27, 0, 0, 0, [])]
def p_55 : List Nat := [0, 1, 2, 3, 4, 5, 6, 9, 12, 13, 14, 15, 16, 19, 20, 21, 24, 27, 28]
def k_56 : List Op := [(0, 0, 0, 0, []), (2, 0, 2, 0, []), (0, 0, 0, 0, []), (2, 0, 3, 0, []), (4, 0, 0, 0, []), (8, 0, 4, 1, []), (0, 1, 0, 0, []), (41, 0, 0, 0, []), (2, 0, 4, 0, []), (1, 0, 4, 0, []), (52, 0, 25, 0, []), (1, 0, 3, 0, []), (0, 1, 0, 0, []), (41, 0, 0, 0, []), (4, 0, 0, 0, []), (1, 0, 4, 0, []), (4, 0, 1, 0, []), (24, 4, 62, 3, []), (49, 0, 0, 0, []), (2, 0, 3, 0, []), (1, 0, 3, 0, []), (55, 0, 23, 0, []), (3, 1, 2, 0, []), (3, -1, 4, 0, []), (7, 0, 9, 0, []), (1, 0, 2, 0, []), (27, 0, 0, 0, [])]
def p_56 : List Nat := [0, 1, 2, 3, 4, 5, 8, 9, 10, 12, 14, 17, 18, 19, 20, 21, 23, 24, 27, 30, 31, 32, 35, 38, 41, 44, 45]
def k_57 : List Op := [(0, -9999, 0, 0, []), (2, 0, 2, 0, []), (0, 0, 0, 0, []), (2, 0, 3, 0, []), (0, 0, 0, 0, []), (2, 0, 4, 0, []), (1, 0, 4, 0, []), (4, 0, 0, 0, []), (8, 0, 4, 1, []), (63, 0, 27, 0, []), (4, 0, 0, 0, []), (1, 0, 4, 0, []), (4, 0, 1, 0, []), (24, 4, 51, 3, []), (2, 0, 5, 0, []), (1, 0, 2, 0, []), (0, -9999, 0, 0, []), (60, 0, 21, 0, []), (1, 0, 5, 0, []), (1, 0, 3, 0, []), (65, 0, 25, 0, []), (1, 0, 4, 0, []), (2, 0, 2, 0, []), (1, 0, 5, 0, []), (2, 0, 3, 0, []), (3, 1, 4, 0, []), (7, 0, 6, 0, []), (1, 0, 2, 0, []), (27, 0, 0, 0, [])]
def p_57 : List Nat := [0, 3, 4, 5, 6, 7, 9, 11, 12, 15, 18, 19, 21, 22, 25, 27, 28, 31, 34, 36, 37, 40, 42, 43, 45, 46, 49, 52, 53]
def k_58 : List Op := [(4, 0, 0, 0, []), (4, 0, 1, 0, []), (24, 4, 60, 2, []), (4, 0, 0, 0, []), (8, 0, 4, 2, []), (4, 0, 0, 0, []), (8, 0, 4, 1, []), (10, 0, 0, 0, []), (27, 0, 0, 0, [])]
def p_58 : List Nat := [0, 1, 2, 5, 6, 9, 10, 13, 14]
def k_59 : List Op := [(4, 0, 0, 0, []), (4, 0, 1, 0, []), (24, 4, 60, 2, []), (4, 0, 0, 0, []), (8, 0, 4, 3, []), (4, 0, 0, 0, []), (8, 0, 4, 1, []), (10, 0, 0, 0, []), (27, 0, 0, 0, [])]
def p_59 : List Nat := [0, 1, 2, 5, 6, 9, 10, 13, 14]
def k_60 : List Op := [(4, 0, 0, 0, []), (8, 0, 4, 2, []), (0, 0, 0, 0, []), (0, 0, 0, 0, []), (11, 0, 0, 0, []), (4, 0, 0, 0, []), (8, 0, 4, 3, []), (0, 0, 0, 0, []), (0, 0, 0, 0, []), (11, 0, 0, 0, []), (0, 1, 0, 0, []), (2, 0, 2, 0, []), (1, 0, 2, 0, []), (4, 0, 0, 0, []), (8, 0, 4, 1, []), (64, 0, 79, 0, []), (4, 0, 0, 0, []), (8, 0, 4, 2, []), (1, 0, 2, 0, []), (4, 0, 0, 0, []), (8, 0, 4, 2, []), (1, 0, 2, 0, []), (0, 1, 0, 0, []), (41, 0, 0, 0, []), (10, 0, 0, 0, []), (11, 0, 0, 0, []), (4, 0, 0, 0, []), (8, 0, 4, 3, []), (1, 0, 2, 0, []), (4, 0, 0, 0, []), (8, 0, 4, 3, []), (1, 0, 2, 0, []), (0, 1, 0, 0, []), (41, 0, 0, 0, []), (10, 0, 0, 0, []), (11, 0, 0, 0, []), (0, 1, 0, 0, []), (2, 0, 3, 0, []), (1, 0, 3, 0, []), (0, 6, 0, 0, []), (64, 0, 77, 0, []), (1, 0, 3, 0, []), (1, 0, 2, 0, []), (64, 0, 77, 0, []), (4, 0, 0, 0, []), (1, 0, 2, 0, []), (0, 1, 0, 0, []), (41, 0, 0, 0, []), (1, 0, 3, 0, []), (4, 0, 1, 0, []), (24, 4, 63, 4, []), (2, 0, 4, 0, []), (1, 0, 4, 0, []), (52, 0, 75, 0, []), (4, 0, 0, 0, []), (1, 0, 2, 0, []), (4, 0, 0, 0, []), (8, 0, 4, 2, []), (1, 0, 2, 0, []), (1, 0, 3, 0, []), (41, 0, 0, 0, []), (10, 0, 0, 0, []), (4, 0, 1, 0, []), (1, 0, 4, 0, []), (24, 2, 17, 2, []), (40, 0, 0, 0, []), (4, 0, 0, 0, []), (8, 0, 4, 3, []), (1, 0, 2, 0, []), (1, 0, 3, 0, []), (41, 0, 0, 0, []), (10, 0, 0, 0, []), (0, 1, 0, 0, []), (40, 0, 0, 0, []), (24, 4, 61, 4, []), (3, 1, 3, 0, []), (7, 0, 38, 0, []), (3, 1, 2, 0, []), (7, 0, 12, 0, []), (26, 0, 0, 0, [])]
def p_60 : List Nat := [0, 1, 4, 5, 6, 7, 8, 11, 12, 13, 14, 15, 16, 17, 18, 21, 24, 25, 28, 29, 30, 33, 34, 35, 36, 37, 38, 39, 42, 43, 44, 47, 48, 49, 50, 51, 52, 53, 54, 55, 57, 60, 61, 62, 65, 66, 67, 68, 69, 70, 71, 74, 76, 78, 81, 82, 83, 84, 87, 88, 89, 90, 91, 92, 94, 97, 98, 99, 102, 103, 104, 105, 106, 107, 108, 111, 114, 117, 120, 123]
def k_61 : List Op := [(1, 0, 2, 0, []), (4, 0, 0, 0, []), (8, 0, 4, 2, []), (1, 0, 1, 0, []), (10, 0, 0, 0, []), (65, 0, 8, 0, []), (0, 1, 0, 0, []), (7, 0, 9, 0, []), (0, 0, 0, 0, []), (2, 0, 4, 0, []), (1, 0, 2, 0, []), (4, 0, 0, 0, []), (8, 0, 4, 2, []), (1, 0, 1, 0, []), (10, 0, 0, 0, []), (61, 0, 24, 0, []), (1, 0, 3, 0, []), (4, 0, 0, 0, []), (8, 0, 4, 3, []), (1, 0, 1, 0, []), (10, 0, 0, 0, []), (63, 0, 24, 0, []), (0, 1, 0, 0, []), (7, 0, 25, 0, []), (0, 0, 0, 0, []), (2, 0, 5, 0, []), (1, 0, 4, 0, []), (51, 0, 30, 0, []), (1, 0, 5, 0, []), (50, 0, 40, 0, []), (4, 0, 0, 0, []), (8, 0, 4, 2, []), (1, 0, 1, 0, []), (1, 0, 2, 0, []), (11, 0, 0, 0, []), (4, 0, 0, 0, []), (8, 0, 4, 3, []), (1, 0, 1, 0, []), (1, 0, 3, 0, []), (11, 0, 0, 0, []), (26, 0, 0, 0, [])]
def p_61 : List Nat := [0, 1, 2, 5, 6, 7, 10, 11, 14, 15, 17, 18, 19, 22, 23, 24, 27, 28, 29, 32, 33, 34, 37, 38, 41, 42, 44, 46, 49, 51, 54, 55, 58, 59, 60, 61, 62, 65, 66, 67, 68]
def k_62 : List Op := [(0, 6, 0, 0, []), (2, 0, 3, 0, []), (1, 0, 3, 0, []), (55, 0, 14, 0, []), (4, 0, 0, 0, []), (1, 0, 1, 0, []), (1, 0, 3, 0, []), (4, 0, 2, 0, []), (24, 4, 63, 4, []), (52, 0, 12, 0, []), (1, 0, 3, 0, []), (27, 0, 0, 0, []), (3, -1, 3, 0, []), (7, 0, 2, 0, []), (0, 0, 0, 0, []), (27, 0, 0, 0, [])]
def p_62 : List Nat := [0, 2, 3, 4, 7, 8, 9, 10, 11, 14, 17, 18, 19, 22, 25, 26]
def k_63 : List Op := [(4, 0, 3, 0, []), (4, 0, 0, 0, []), (1, 0, 1, 0, []), (0, 1, 0, 0, []), (40, 0, 0, 0, []), (1, 0, 2, 0, []), (24, 4, 47, 3, []), (24, 2, 18, 2, []), (27, 0, 0, 0, [])]
def p_63 : List Nat := [0, 1, 2, 3, 4, 5, 6, 9, 12]
def k_64 : List Op := [(4, 0, 0, 0, []), (31, 0, 0, 0, []), (4, 0, 0, 0, []), (17, 0, 4, 0, []), (18, 0, 0, 0, []), (25, 4, 42, 1, []), (9, 0, 5, 0, []), (4, 0, 0, 0, []), (17, 0, 0, 0, []), (18, 0, 0, 0, []), (25, 0, 0, 1, []), (9, 0, 5, 1, []), (4, 0, 0, 0, []), (17, 0, 1, 0, []), (18, 0, 0, 0, []), (25, 1, 10, 1, []), (9, 0, 5, 2, []), (4, 0, 0, 0, []), (0, 2, 0, 0, []), (16, 0, 0, 0, []), (9, 0, 5, 3, []), (4, 0, 0, 0, []), (17, 0, 3, 0, []), (18, 0, 0, 0, []), (25, 3, 33, 1, []), (9, 0, 5, 4, []), (4, 0, 0, 0, []), (0, 0, 0, 0, []), (9, 0, 5, 5, []), (26, 0, 0, 0, [])]
def p_64 : List Nat := [0, 1, 4, 5, 8, 9, 12, 15, 16, 19, 20, 23, 26, 27, 30, 31, 34, 37, 38, 39, 42, 45, 46, 49, 50, 53, 56, 57, 58, 61]
def k_65 : List Op := [(1, 0, 1, 0, []), (23, 0, 85, 1, []), (51, 0, 5, 0, []), (0, -1, 0, 0, []), (27, 0, 0, 0, []), (4, 0, 0, 0, []), (1, 0, 1, 0, []), (9, 0, 5, 5, []), (4, 0, 0, 0, []), (8, 0, 5, 5, []), (23, 0, 86, 1, []), (27, 0, 0, 0, [])]
def p_65 : List Nat := [0, 1, 4, 7, 8, 9, 10, 11, 14, 15, 18, 21]
def k_66 : List Op := [(4, 0, 0, 0, []), (8, 0, 5, 5, []), (51, 0, 5, 0, []), (0, -2, 0, 0, []), (27, 0, 0, 0, []), (4, 0, 0, 0, []), (8, 0, 5, 0, []), (24, 4, 43, 1, []), (4, 0, 0, 0, []), (8, 0, 5, 5, []), (23, 0, 86, 1, []), (40, 0, 0, 0, []), (0, 60, 0, 0, []), (65, 0, 16, 0, []), (0, -3, 0, 0, []), (27, 0, 0, 0, []), (4, 0, 0, 0, []), (8, 0, 5, 0, []), (4, 0, 0, 0, []), (8, 0, 5, 5, []), (24, 4, 45, 2, []), (4, 0, 0, 0, []), (8, 0, 5, 0, []), (24, 4, 43, 1, []), (27, 0, 0, 0, [])]
def p_66 : List Nat := [0, 1, 4, 7, 9, 10, 11, 14, 17, 18, 21, 24, 25, 27, 30, 32, 33, 34, 37, 38, 41, 44, 45, 48, 51]
def k_67 : List Op := [(4, 0, 0, 0, []), (8, 0, 5, 0, []), (24, 4, 43, 1, []), (2, 0, 1, 0, []), (4, 0, 0, 0, []), (8, 0, 5, 0, []), (24, 4, 44, 1, []), (1, 0, 1, 0, []), (27, 0, 0, 0, [])]
def p_67 : List Nat := [0, 1, 4, 7, 8, 9, 12, 15, 16]
def k_68 : List Op := [(1, 0, 1, 0, []), (23, 0, 83, 1, []), (51, 0, 5, 0, []), (0, -1, 0, 0, []), (27, 0, 0, 0, []), (4, 0, 0, 0, []), (8, 0, 5, 5, []), (50, 0, 15, 0, []), (4, 0, 0, 0, []), (8, 0, 5, 1, []), (24, 0, 1, 1, []), (4, 0, 0, 0, []), (8, 0, 5, 5, []), (24, 2, 18, 2, []), (52, 0, 17, 0, []), (0, -2, 0, 0, []), (27, 0, 0, 0, []), (4, 0, 0, 0, []), (8, 0, 5, 1, []), (24, 0, 1, 1, []), (24, 2, 15, 1, []), (0, 24, 0, 0, []), (62, 0, 25, 0, []), (0, -3, 0, 0, []), (27, 0, 0, 0, []), (4, 0, 0, 0, []), (8, 0, 5, 2, []), (4, 0, 0, 0, []), (8, 0, 5, 1, []), (24, 1, 12, 2, []), (4, 0, 0, 0, []), (8, 0, 5, 1, []), (4, 0, 0, 0, []), (8, 0, 5, 5, []), (1, 0, 1, 0, []), (24, 0, 6, 3, []), (27, 0, 0, 0, [])]
def p_68 : List Nat := [0, 1, 4, 7, 8, 9, 10, 13, 16, 17, 20, 23, 24, 27, 30, 33, 35, 36, 37, 40, 43, 46, 48, 51, 53, 54, 55, 58, 59, 62, 65, 66, 69, 70, 73, 74, 77]
def k_69 : List Op := [(4, 0, 0, 0, []), (8, 0, 5, 1, []), (24, 0, 1, 1, []), (4, 0, 0, 0, []), (8, 0, 5, 5, []), (24, 2, 18, 2, []), (2, 0, 1, 0, []), (1, 0, 1, 0, []), (53, 0, 11, 0, []), (0, -2, 0, 0, []), (27, 0, 0, 0, []), (4, 0, 0, 0, []), (8, 0, 5, 2, []), (4, 0, 0, 0, []), (8, 0, 5, 1, []), (24, 1, 12, 2, []), (4, 0, 0, 0, []), (8, 0, 5, 1, []), (1, 0, 1, 0, []), (24, 0, 7, 2, []), (27, 0, 0, 0, [])]
def p_69 : List Nat := [0, 1, 4, 7, 8, 11, 14, 15, 16, 19, 21, 22, 23, 26, 27, 30, 33, 34, 37, 38, 41]
def k_70 : List Op := [(1, 0, 1, 0, []), (23, 0, 83, 1, []), (51, 0, 5, 0, []), (0, -1, 0, 0, []), (27, 0, 0, 0, []), (4, 0, 0, 0, []), (8, 0, 5, 1, []), (24, 0, 1, 1, []), (4, 0, 0, 0, []), (8, 0, 5, 5, []), (24, 2, 18, 2, []), (2, 0, 2, 0, []), (1, 0, 2, 0, []), (53, 0, 16, 0, []), (0, -2, 0, 0, []), (27, 0, 0, 0, []), (4, 0, 0, 0, []), (8, 0, 5, 1, []), (24, 0, 1, 1, []), (1, 0, 2, 0, []), (24, 2, 17, 2, []), (2, 0, 3, 0, []), (4, 0, 0, 0, []), (8, 0, 5, 2, []), (4, 0, 0, 0, []), (8, 0, 5, 1, []), (24, 1, 12, 2, []), (4, 0, 0, 0, []), (8, 0, 5, 1, []), (1, 0, 2, 0, []), (24, 0, 7, 2, []), (19, 0, 0, 0, []), (4, 0, 0, 0, []), (8, 0, 5, 1, []), (4, 0, 0, 0, []), (8, 0, 5, 5, []), (1, 0, 1, 0, []), (24, 0, 6, 3, []), (19, 0, 0, 0, []), (0, 100, 0, 0, []), (1, 0, 3, 0, []), (40, 0, 0, 0, []), (27, 0, 0, 0, [])]
def p_70 : List Nat := [0, 1, 4, 7, 8, 9, 10, 13, 16, 17, 20, 23, 24, 25, 28, 30, 31, 32, 35, 38, 39, 42, 43, 44, 47, 48, 51, 54, 55, 58, 59, 62, 63, 64, 67, 68, 71, 72, 75, 76, 78, 79, 80]
def k_71 : List Op := [(4, 0, 0, 0, []), (8, 0, 5, 2, []), (4, 0, 0, 0, []), (8, 0, 5, 1, []), (24, 1, 12, 2, []), (4, 0, 0, 0, []), (8, 0, 5, 1, []), (24, 0, 8, 1, []), (27, 0, 0, 0, [])]
def p_71 : List Nat := [0, 1, 4, 5, 8, 11, 12, 15, 18]
def k_72 : List Op := [(4, 0, 0, 0, []), (8, 0, 5, 2, []), (24, 1, 11, 1, []), (51, 0, 6, 0, []), (0, -2, 0, 0, []), (27, 0, 0, 0, []), (4, 0, 0, 0, []), (8, 0, 5, 2, []), (4, 0, 0, 0, []), (8, 0, 5, 1, []), (24, 1, 13, 2, []), (4, 0, 0, 0, []), (8, 0, 5, 2, []), (24, 1, 11, 1, []), (27, 0, 0, 0, [])]
def p_72 : List Nat := [0, 1, 4, 7, 10, 12, 13, 14, 17, 18, 21, 24, 25, 28, 31]
def k_73 : List Op := [(1, 0, 1, 0, []), (32, 0, 57, 0, [(0, 2), (1, 7), (2, 13), (3, 19), (4, 23), (5, 27), (6, 33), (7, 37), (8, 41), (9, 45)]), (4, 0, 0, 0, []), (8, 0, 5, 1, []), (24, 0, 1, 1, []), (24, 2, 15, 1, []), (27, 0, 0, 0, []), (4, 0, 0, 0, []), (8, 0, 5, 1, []), (0, 0, 0, 0, []), (24, 0, 2, 2, []), (24, 2, 15, 1, []), (27, 0, 0, 0, []), (4, 0, 0, 0, []), (8, 0, 5, 1, []), (0, 1, 0, 0, []), (24, 0, 2, 2, []), (24, 2, 15, 1, []), (27, 0, 0, 0, []), (4, 0, 0, 0, []), (8, 0, 5, 1, []), (24, 0, 3, 1, []), (27, 0, 0, 0, []), (4, 0, 0, 0, []), (8, 0, 5, 1, []), (24, 0, 4, 1, []), (27, 0, 0, 0, []), (4, 0, 0, 0, []), (8, 0, 5, 1, []), (24, 0, 1, 1, []), (0, 0, 0, 0, []), (24, 2, 22, 2, []), (27, 0, 0, 0, []), (4, 0, 0, 0, []), (8, 0, 5, 5, []), (23, 0, 86, 1, []), (27, 0, 0, 0, []), (4, 0, 0, 0, []), (8, 0, 5, 0, []), (24, 4, 43, 1, []), (27, 0, 0, 0, []), (4, 0, 0, 0, []), (8, 0, 5, 2, []), (24, 1, 11, 1, []), (27, 0, 0, 0, []), (4, 0, 0, 0, []), (8, 0, 5, 1, []), (0, 0, 0, 0, []), (24, 0, 2, 2, []), (24, 2, 23, 1, []), (4, 0, 0, 0, []), (8, 0, 5, 1, []), (0, 1, 0, 0, []), (24, 0, 2, 2, []), (24, 2, 23, 1, []), (40, 0, 0, 0, []), (27, 0, 0, 0, []), (0, -1, 0, 0, []), (27, 0, 0, 0, [])]
def p_73 : List Nat := [0, 1, 56, 57, 60, 63, 66, 67, 68, 71, 72, 75, 78, 79, 80, 83, 84, 87, 90, 91, 92, 95, 98, 99, 100, 103, 106, 107, 108, 111, 114, 115, 118, 119, 120, 123, 126, 127, 128, 131, 134, 135, 136, 139, 142, 143, 144, 147, 148, 151, 154, 155, 158, 159, 162, 165, 166, 167, 168]
def k_74 : List Op := [(1, 0, 1, 0, []), (52, 0, 7, 0, []), (1, 0, 2, 0, []), (52, 0, 7, 0, []), (1, 0, 2, 0, []), (0, 2, 0, 0, []), (65, 0, 9, 0, []), (0, -1, 0, 0, []), (27, 0, 0, 0, []), (4, 0, 0, 0, []), (8, 0, 5, 1, []), (24, 0, 1, 1, []), (5, 0, 3, 0, []), (1, 0, 1, 0, []), (4, 0, 3, 0, []), (24, 2, 15, 1, []), (62, 0, 19, 0, []), (0, -9999, 0, 0, []), (27, 0, 0, 0, []), (1, 0, 2, 0, []), (32, 0, 29, 1, [(0, 21), (1, 25)]), (4, 0, 3, 0, []), (1, 0, 1, 0, []), (24, 2, 16, 2, []), (27, 0, 0, 0, []), (4, 0, 3, 0, []), (1, 0, 1, 0, []), (24, 2, 17, 2, []), (27, 0, 0, 0, []), (4, 0, 0, 0, []), (8, 0, 5, 0, []), (4, 0, 3, 0, []), (1, 0, 1, 0, []), (24, 2, 16, 2, []), (24, 4, 49, 2, []), (27, 0, 0, 0, [])]
def p_74 : List Nat := [0, 1, 4, 5, 8, 9, 10, 13, 14, 15, 16, 19, 22, 23, 24, 25, 28, 31, 34, 35, 36, 64, 65, 66, 69, 70, 71, 72, 75, 76, 77, 80, 81, 82, 85, 88]
def k_75 : List Op := [(1, 0, 1, 0, []), (1, 0, 2, 0, []), (23, 0, 84, 2, []), (50, 0, 9, 0, []), (1, 0, 3, 0, []), (52, 0, 9, 0, []), (1, 0, 3, 0, []), (0, 4, 0, 0, []), (65, 0, 11, 0, []), (0, -1, 0, 0, []), (27, 0, 0, 0, []), (4, 0, 0, 0, []), (8, 0, 5, 1, []), (1, 0, 1, 0, []), (24, 0, 2, 2, []), (5, 0, 4, 0, []), (1, 0, 3, 0, []), (32, 0, 30, 0, [(0, 18), (1, 30), (2, 22), (3, 30), (4, 26)]), (4, 0, 4, 0, []), (1, 0, 2, 0, []), (24, 2, 20, 2, []), (27, 0, 0, 0, []), (4, 0, 4, 0, []), (1, 0, 2, 0, []), (24, 2, 21, 2, []), (27, 0, 0, 0, []), (4, 0, 4, 0, []), (1, 0, 2, 0, []), (24, 2, 22, 2, []), (27, 0, 0, 0, []), (4, 0, 0, 0, []), (8, 0, 5, 4, []), (4, 0, 4, 0, []), (1, 0, 2, 0, []), (24, 3, 35, 3, []), (1, 0, 3, 0, []), (0, 1, 0, 0, []), (61, 0, 42, 0, []), (4, 0, 0, 0, []), (8, 0, 5, 4, []), (24, 3, 34, 1, []), (7, 0, 45, 0, []), (4, 0, 0, 0, []), (8, 0, 5, 4, []), (24, 3, 37, 1, []), (27, 0, 0, 0, [])]
def p_75 : List Nat := [0, 1, 2, 5, 8, 9, 12, 13, 14, 17, 18, 19, 20, 23, 24, 27, 29, 30, 64, 66, 67, 70, 71, 73, 74, 77, 78, 80, 81, 84, 85, 86, 89, 91, 92, 95, 96, 97, 100, 101, 104, 107, 110, 111, 114, 117]
def k_76 : List Op := [(1, 0, 1, 0, []), (1, 0, 2, 0, []), (23, 0, 84, 2, []), (50, 0, 11, 0, []), (1, 0, 3, 0, []), (52, 0, 11, 0, []), (1, 0, 4, 0, []), (52, 0, 11, 0, []), (1, 0, 4, 0, []), (0, 1, 0, 0, []), (65, 0, 13, 0, []), (0, -1, 0, 0, []), (27, 0, 0, 0, []), (4, 0, 0, 0, []), (8, 0, 5, 1, []), (1, 0, 1, 0, []), (24, 0, 2, 2, []), (5, 0, 5, 0, []), (1, 0, 3, 0, []), (4, 0, 5, 0, []), (1, 0, 2, 0, []), (24, 2, 20, 2, []), (62, 0, 25, 0, []), (0, -9999, 0, 0, []), (27, 0, 0, 0, []), (4, 0, 5, 0, []), (1, 0, 2, 0, []), (24, 2, 19, 2, []), (1, 0, 3, 0, []), (40, 0, 0, 0, []), (2, 0, 6, 0, []), (1, 0, 4, 0, []), (51, 0, 37, 0, []), (4, 0, 5, 0, []), (1, 0, 6, 0, []), (24, 2, 16, 2, []), (7, 0, 40, 0, []), (4, 0, 5, 0, []), (1, 0, 6, 0, []), (24, 2, 17, 2, []), (27, 0, 0, 0, [])]
def p_76 : List Nat := [0, 1, 2, 5, 8, 9, 12, 14, 17, 19, 20, 23, 24, 25, 26, 29, 30, 33, 35, 36, 38, 39, 42, 45, 48, 49, 51, 52, 55, 56, 57, 59, 61, 64, 66, 68, 71, 74, 76, 78, 81]
def k_77 : List Op := [(1, 0, 1, 0, []), (52, 0, 7, 0, []), (1, 0, 1, 0, []), (4, 0, 0, 0, []), (8, 0, 5, 0, []), (24, 4, 43, 1, []), (62, 0, 9, 0, []), (0, -1, 0, 0, []), (27, 0, 0, 0, []), (4, 0, 0, 0, []), (8, 0, 5, 1, []), (24, 0, 1, 1, []), (5, 0, 3, 0, []), (1, 0, 2, 0, []), (32, 0, 48, 0, [(0, 15), (1, 20), (2, 26), (3, 32), (4, 38)]), (4, 0, 0, 0, []), (8, 0, 5, 0, []), (1, 0, 1, 0, []), (24, 4, 46, 2, []), (27, 0, 0, 0, []), (4, 0, 0, 0, []), (8, 0, 5, 0, []), (1, 0, 1, 0, []), (4, 0, 3, 0, []), (24, 4, 50, 3, []), (27, 0, 0, 0, []), (4, 0, 0, 0, []), (8, 0, 5, 0, []), (1, 0, 1, 0, []), (4, 0, 3, 0, []), (24, 4, 51, 3, []), (27, 0, 0, 0, []), (4, 0, 0, 0, []), (8, 0, 5, 0, []), (1, 0, 1, 0, []), (4, 0, 3, 0, []), (24, 4, 52, 3, []), (27, 0, 0, 0, []), (4, 0, 0, 0, []), (8, 0, 5, 0, []), (1, 0, 1, 0, []), (4, 0, 3, 0, []), (24, 4, 53, 3, []), (50, 0, 46, 0, []), (0, 1, 0, 0, []), (7, 0, 47, 0, []), (0, 0, 0, 0, []), (27, 0, 0, 0, []), (0, -1, 0, 0, []), (27, 0, 0, 0, [])]
def p_77 : List Nat := [0, 1, 4, 5, 6, 9, 12, 15, 16, 17, 18, 21, 24, 25, 26, 60, 61, 64, 65, 68, 69, 70, 73, 74, 75, 78, 79, 80, 83, 84, 85, 88, 89, 90, 93, 94, 95, 98, 99, 100, 103, 104, 105, 108, 111, 112, 115, 116, 117, 118]
def k_78 : List Op := [(4, 0, 0, 0, []), (8, 0, 5, 1, []), (24, 0, 1, 1, []), (5, 0, 2, 0, []), (1, 0, 1, 0, []), (32, 0, 36, 0, [(0, 6), (1, 11), (2, 16), (3, 21), (4, 26), (5, 31)]), (4, 0, 0, 0, []), (8, 0, 5, 0, []), (4, 0, 2, 0, []), (24, 4, 54, 2, []), (27, 0, 0, 0, []), (4, 0, 0, 0, []), (8, 0, 5, 0, []), (4, 0, 2, 0, []), (24, 4, 55, 2, []), (27, 0, 0, 0, []), (4, 0, 0, 0, []), (8, 0, 5, 0, []), (4, 0, 2, 0, []), (24, 4, 56, 2, []), (27, 0, 0, 0, []), (4, 0, 0, 0, []), (8, 0, 5, 0, []), (4, 0, 2, 0, []), (24, 4, 57, 2, []), (27, 0, 0, 0, []), (4, 0, 0, 0, []), (8, 0, 5, 0, []), (4, 0, 2, 0, []), (24, 4, 58, 2, []), (27, 0, 0, 0, []), (4, 0, 0, 0, []), (8, 0, 5, 0, []), (4, 0, 2, 0, []), (24, 4, 59, 2, []), (27, 0, 0, 0, []), (0, -1, 0, 0, []), (27, 0, 0, 0, [])]
def p_78 : List Nat := [0, 1, 4, 7, 8, 9, 48, 49, 52, 53, 56, 57, 58, 61, 62, 65, 66, 67, 70, 71, 74, 75, 76, 79, 80, 83, 84, 85, 88, 89, 92, 93, 94, 97, 98, 101, 102, 103]
def k_79 : List Op := [(1, 0, 1, 0, []), (52, 0, 7, 0, []), (1, 0, 2, 0, []), (52, 0, 7, 0, []), (1, 0, 2, 0, []), (0, 1, 0, 0, []), (65, 0, 9, 0, []), (0, -1, 0, 0, []), (27, 0, 0, 0, []), (1, 0, 2, 0, []), (51, 0, 16, 0, []), (4, 0, 0, 0, []), (8, 0, 5, 5, []), (51, 0, 16, 0, []), (0, -2, 0, 0, []), (27, 0, 0, 0, []), (4, 0, 0, 0, []), (8, 0, 5, 1, []), (24, 0, 1, 1, []), (5, 0, 3, 0, []), (0, 0, 0, 0, []), (2, 0, 4, 0, []), (0, 0, 0, 0, []), (2, 0, 5, 0, []), (1, 0, 5, 0, []), (4, 0, 0, 0, []), (8, 0, 5, 0, []), (24, 4, 43, 1, []), (63, 0, 60, 0, []), (1, 0, 2, 0, []), (51, 0, 38, 0, []), (4, 0, 0, 0, []), (8, 0, 5, 0, []), (1, 0, 5, 0, []), (4, 0, 0, 0, []), (8, 0, 5, 5, []), (24, 4, 48, 3, []), (7, 0, 47, 0, []), (4, 0, 0, 0, []), (8, 0, 5, 0, []), (1, 0, 5, 0, []), (4, 0, 3, 0, []), (24, 4, 50, 3, []), (55, 0, 46, 0, []), (0, 1, 0, 0, []), (7, 0, 47, 0, []), (0, 0, 0, 0, []), (2, 0, 6, 0, []), (1, 0, 6, 0, []), (50, 0, 55, 0, []), (1, 0, 4, 0, []), (1, 0, 1, 0, []), (61, 0, 55, 0, []), (1, 0, 5, 0, []), (27, 0, 0, 0, []), (1, 0, 6, 0, []), (50, 0, 58, 0, []), (3, 1, 4, 0, []), (3, 1, 5, 0, []), (7, 0, 24, 0, []), (0, -9999, 0, 0, []), (27, 0, 0, 0, [])]
def p_79 : List Nat := [0, 1, 4, 5, 8, 9, 10, 13, 14, 15, 16, 19, 20, 23, 26, 28, 29, 30, 33, 36, 37, 38, 40, 41, 43, 45, 46, 49, 52, 55, 56, 59, 60, 63, 65, 66, 69, 72, 75, 76, 79, 81, 82, 85, 88, 89, 92, 93, 95, 97, 100, 102, 103, 106, 108, 109, 111, 114, 117, 120, 123, 126]
def k_80 : List Op := [(4, 0, 0, 0, []), (8, 0, 5, 0, []), (4, 0, 0, 0, []), (8, 0, 5, 1, []), (24, 0, 1, 1, []), (24, 4, 54, 2, []), (2, 0, 1, 0, []), (1, 0, 1, 0, []), (51, 0, 11, 0, []), (37, 0, 0, 0, []), (30, 0, 0, 0, []), (4, 0, 0, 0, []), (8, 0, 5, 0, []), (4, 0, 0, 0, []), (8, 0, 5, 1, []), (24, 0, 1, 1, []), (24, 4, 55, 2, []), (33, 0, 0, 0, []), (1, 0, 1, 0, []), (33, 0, 0, 0, []), (34, 0, 0, 0, []), (30, 0, 0, 0, [])]
def p_80 : List Nat := [0, 1, 4, 5, 8, 11, 14, 15, 16, 19, 20, 21, 22, 25, 26, 29, 32, 35, 36, 37, 38, 39]
def k_81 : List Op := [(1, 0, 1, 0, []), (52, 0, 5, 0, []), (1, 0, 1, 0, []), (0, 2, 0, 0, []), (62, 0, 7, 0, []), (0, -1, 0, 0, []), (27, 0, 0, 0, []), (4, 0, 0, 0, []), (8, 0, 5, 3, []), (1, 0, 1, 0, []), (12, 0, 0, 0, []), (5, 0, 2, 0, []), (4, 0, 2, 0, []), (22, 0, 23, 0, []), (17, 0, 0, 0, []), (18, 0, 0, 0, []), (25, 0, 0, 1, []), (5, 0, 2, 0, []), (4, 0, 0, 0, []), (8, 0, 5, 3, []), (1, 0, 1, 0, []), (4, 0, 2, 0, []), (13, 0, 0, 0, []), (4, 0, 2, 0, []), (4, 0, 0, 0, []), (8, 0, 5, 1, []), (24, 0, 5, 2, []), (4, 0, 0, 0, []), (8, 0, 5, 1, []), (24, 0, 1, 1, []), (24, 2, 15, 1, []), (27, 0, 0, 0, [])]
def p_81 : List Nat := [0, 1, 4, 5, 6, 9, 10, 11, 12, 15, 16, 17, 18, 19, 22, 25, 26, 29, 30, 31, 34, 35, 36, 37, 38, 39, 42, 45, 46, 49, 52, 55]
def k_82 : List Op := [(1, 0, 1, 0, []), (52, 0, 5, 0, []), (1, 0, 1, 0, []), (0, 2, 0, 0, []), (62, 0, 7, 0, []), (0, -1, 0, 0, []), (27, 0, 0, 0, []), (4, 0, 0, 0, []), (8, 0, 5, 3, []), (1, 0, 1, 0, []), (12, 0, 0, 0, []), (5, 0, 2, 0, []), (4, 0, 2, 0, []), (22, 0, 16, 0, []), (0, -2, 0, 0, []), (27, 0, 0, 0, []), (4, 0, 0, 0, []), (8, 0, 5, 2, []), (4, 0, 0, 0, []), (8, 0, 5, 1, []), (24, 1, 12, 2, []), (4, 0, 0, 0, []), (8, 0, 5, 1, []), (4, 0, 2, 0, []), (24, 0, 5, 2, []), (4, 0, 0, 0, []), (8, 0, 5, 1, []), (24, 0, 1, 1, []), (24, 2, 15, 1, []), (27, 0, 0, 0, [])]
def p_82 : List Nat := [0, 1, 4, 5, 6, 9, 10, 11, 12, 15, 16, 17, 18, 19, 22, 24, 25, 26, 29, 30, 33, 36, 37, 40, 41, 44, 45, 48, 51, 54]
def k_83 : List Op := [(1, 0, 0, 0, []), (0, -99, 0, 0, []), (62, 0, 8, 0, []), (1, 0, 0, 0, []), (0, 99, 0, 0, []), (64, 0, 8, 0, []), (0, 1, 0, 0, []), (7, 0, 9, 0, []), (0, 0, 0, 0, []), (28, 0, 0, 0, [])]
def p_83 : List Nat := [0, 1, 3, 6, 7, 9, 12, 13, 16, 17]
def k_84 : List Op := [(1, 0, 0, 0, []), (52, 0, 12, 0, []), (1, 0, 0, 0, []), (0, 2, 0, 0, []), (63, 0, 12, 0, []), (1, 0, 1, 0, []), (52, 0, 12, 0, []), (1, 0, 1, 0, []), (0, 7, 0, 0, []), (63, 0, 12, 0, []), (0, 1, 0, 0, []), (7, 0, 13, 0, []), (0, 0, 0, 0, []), (28, 0, 0, 0, [])]
def p_84 : List Nat := [0, 1, 4, 5, 6, 9, 10, 13, 14, 16, 19, 20, 23, 24]
def k_85 : List Op := [(1, 0, 0, 0, []), (0, 1, 0, 0, []), (62, 0, 6, 0, []), (1, 0, 0, 0, []), (0, 444444, 0, 0, []), (65, 0, 8, 0, []), (0, 0, 0, 0, []), (28, 0, 0, 0, []), (1, 0, 0, 0, []), (2, 0, 1, 0, []), (1, 0, 1, 0, []), (55, 0, 29, 0, []), (1, 0, 1, 0, []), (0, 10, 0, 0, []), (44, 0, 0, 0, []), (0, 1, 0, 0, []), (62, 0, 22, 0, []), (1, 0, 1, 0, []), (0, 10, 0, 0, []), (44, 0, 0, 0, []), (0, 4, 0, 0, []), (65, 0, 24, 0, []), (0, 0, 0, 0, []), (28, 0, 0, 0, []), (1, 0, 1, 0, []), (0, 10, 0, 0, []), (43, 0, 0, 0, []), (2, 0, 1, 0, []), (7, 0, 10, 0, []), (0, 1, 0, 0, []), (28, 0, 0, 0, [])]
def p_85 : List Nat := [0, 1, 2, 5, 6, 8, 11, 12, 13, 14, 15, 16, 19, 20, 22, 23, 24, 27, 28, 30, 31, 32, 35, 36, 37, 38, 40, 41, 42, 45, 46]
def k_86 : List Op := [(0, 0, 0, 0, []), (2, 0, 1, 0, []), (1, 0, 0, 0, []), (2, 0, 2, 0, []), (1, 0, 2, 0, []), (55, 0, 12, 0, []), (3, 1, 1, 0, []), (1, 0, 2, 0, []), (0, 10, 0, 0, []), (43, 0, 0, 0, []), (2, 0, 2, 0, []), (7, 0, 4, 0, []), (1, 0, 1, 0, []), (27, 0, 0, 0, [])]
def p_86 : List Nat := [0, 1, 2, 3, 4, 5, 8, 11, 12, 14, 15, 16, 19, 20]
def k_87 : List Op := [(1, 0, 1, 0, []), (4, 0, 0, 0, []), (14, 0, 0, 0, []), (63, 0, 8, 0, []), (4, 0, 0, 0, []), (1, 0, 1, 0, []), (10, 0, 0, 0, []), (7, 0, 13, 0, []), (0, 747796405, 0, 0, []), (1, 0, 1, 0, []), (0, 1, 0, 0, []), (40, 0, 0, 0, []), (42, 0, 0, 0, []), (27, 0, 0, 0, [])]
def p_87 : List Nat := [0, 1, 2, 3, 6, 7, 8, 9, 12, 14, 15, 16, 17, 18]
def k_88 : List Op := [(1, 0, 0, 0, []), (0, 2147483647, 0, 0, []), (45, 0, 0, 0, []), (1, 0, 1, 0, []), (44, 0, 0, 0, []), (27, 0, 0, 0, [])]
def p_88 : List Nat := [0, 1, 3, 4, 5, 6]
def k_89 : List Op := [(0, 1, 0, 0, []), (1, 0, 1, 0, []), (0, 4, 0, 0, []), (23, 0, 88, 2, []), (40, 0, 0, 0, []), (2, 0, 2, 0, []), (0, 0, 0, 0, []), (2, 0, 3, 0, []), (0, 0, 0, 0, []), (2, 0, 4, 0, []), (1, 0, 4, 0, []), (1, 0, 2, 0, []), (63, 0, 39, 0, []), (0, 10, 0, 0, []), (1, 0, 3, 0, []), (42, 0, 0, 0, []), (0, 1, 0, 0, []), (40, 0, 0, 0, []), (1, 0, 1, 0, []), (0, 2, 0, 0, []), (0, 2, 0, 0, []), (1, 0, 4, 0, []), (42, 0, 0, 0, []), (40, 0, 0, 0, []), (48, 0, 0, 0, []), (1, 0, 1, 0, []), (0, 12, 0, 0, []), (48, 0, 0, 0, []), (0, 3, 0, 0, []), (23, 0, 88, 2, []), (51, 0, 33, 0, []), (0, 4, 0, 0, []), (7, 0, 34, 0, []), (0, 2, 0, 0, []), (23, 0, 88, 2, []), (40, 0, 0, 0, []), (2, 0, 3, 0, []), (3, 1, 4, 0, []), (7, 0, 10, 0, []), (4, 0, 0, 0, []), (1, 0, 3, 0, []), (24, 5, 65, 2, []), (27, 0, 0, 0, [])]
def p_89 : List Nat := [0, 1, 2, 3, 6, 7, 8, 9, 10, 11, 13, 15, 16, 19, 21, 22, 23, 24, 25, 26, 27, 28, 30, 31, 32, 33, 34, 36, 37, 38, 41, 44, 45, 48, 49, 52, 53, 54, 57, 60, 61, 62, 65]
def k_90 : List Op := [(4, 0, 0, 0, []), (1, 0, 1, 0, []), (0, 4, 0, 0, []), (48, 0, 0, 0, []), (23, 0, 89, 2, []), (2, 0, 3, 0, []), (1, 0, 1, 0, []), (0, 14, 0, 0, []), (23, 0, 88, 2, []), (32, 0, 86, 0, [(0, 10), (1, 10), (2, 10), (3, 10), (4, 10), (5, 10), (6, 18), (7, 18), (8, 18), (9, 38), (10, 46), (11, 56), (12, 76)]), (4, 0, 0, 0, []), (1, 0, 2, 0, []), (0, 199, 0, 0, []), (23, 0, 88, 2, []), (0, 99, 0, 0, []), (41, 0, 0, 0, []), (24, 5, 68, 2, []), (27, 0, 0, 0, []), (4, 0, 0, 0, []), (0, 0, 0, 0, []), (24, 5, 73, 2, []), (2, 0, 4, 0, []), (1, 0, 4, 0, []), (51, 0, 26, 0, []), (1, 0, 3, 0, []), (7, 0, 34, 0, []), (4, 0, 0, 0, []), (4, 0, 0, 0, []), (1, 0, 2, 0, []), (1, 0, 4, 0, []), (23, 0, 88, 2, []), (0, 0, 0, 0, []), (24, 5, 74, 3, []), (24, 5, 65, 2, []), (2, 0, 3, 0, []), (4, 0, 0, 0, []), (24, 5, 69, 1, []), (27, 0, 0, 0, []), (4, 0, 0, 0, []), (1, 0, 2, 0, []), (0, 199, 0, 0, []), (23, 0, 88, 2, []), (0, 99, 0, 0, []), (41, 0, 0, 0, []), (24, 5, 70, 2, []), (27, 0, 0, 0, []), (1, 0, 2, 0, []), (0, 4, 0, 0, []), (23, 0, 88, 2, []), (51, 0, 53, 0, []), (4, 0, 0, 0, []), (24, 5, 71, 1, []), (7, 0, 55, 0, []), (4, 0, 0, 0, []), (24, 5, 72, 1, []), (27, 0, 0, 0, []), (1, 0, 2, 0, []), (0, 2, 0, 0, []), (23, 0, 88, 2, []), (51, 0, 68, 0, []), (4, 0, 0, 0, []), (1, 0, 2, 0, []), (0, 1, 0, 0, []), (48, 0, 0, 0, []), (0, 2, 0, 0, []), (23, 0, 88, 2, []), (24, 5, 81, 2, []), (7, 0, 75, 0, []), (4, 0, 0, 0, []), (1, 0, 2, 0, []), (0, 1, 0, 0, []), (48, 0, 0, 0, []), (0, 2, 0, 0, []), (23, 0, 88, 2, []), (24, 5, 82, 2, []), (27, 0, 0, 0, []), (1, 0, 2, 0, []), (0, 9, 0, 0, []), (23, 0, 88, 2, []), (51, 0, 83, 0, []), (4, 0, 0, 0, []), (24, 5, 67, 1, []), (7, 0, 85, 0, []), (4, 0, 0, 0, []), (24, 5, 66, 1, []), (27, 0, 0, 0, []), (4, 0, 0, 0, []), (24, 5, 66, 1, []), (27, 0, 0, 0, [])]
def p_90 : List Nat := [0, 1, 2, 3, 4, 7, 8, 9, 11, 14, 80, 81, 82, 85, 88, 90, 91, 94, 95, 96, 97, 100, 102, 104, 107, 108, 111, 112, 113, 114, 116, 119, 120, 123, 126, 127, 128, 131, 132, 133, 134, 137, 140, 142, 143, 146, 147, 148, 149, 152, 155, 156, 159, 162, 163, 166, 167, 168, 169, 172, 175, 176, 177, 178, 179, 180, 183, 186, 189, 190, 191, 192, 193, 194, 197, 200, 201, 202, 204, 207, 210, 211, 214, 217, 218, 221, 222, 223, 226]
def k_91_0 : List Op := [(0, 0, 0, 0, []), (2, 0, 1, 0, []), (0, 0, 0, 0, []), (2, 0, 2, 0, []), (1, 0, 2, 0, []), (0, 2, 0, 0, []), (63, 0, 179, 0, []), (0, 0, 0, 0, []), (2, 0, 3, 0, []), (0, 0, 0, 0, []), (2, 0, 4, 0, []), (1, 0, 4, 0, []), (0, 7, 0, 0, []), (63, 0, 168, 0, []), (4, 0, 0, 0, []), (1, 0, 2, 0, []), (1, 0, 4, 0, []), (0, 0, 0, 0, []), (24, 5, 75, 4, []), (2, 0, 5, 0, []), (0, 0, 0, 0, []), (2, 0, 6, 0, []), (0, 0, 0, 0, []), (2, 0, 7, 0, []), (1, 0, 3, 0, []), (1, 0, 5, 0, []), (40, 0, 0, 0, []), (2, 0, 3, 0, []), (1, 0, 5, 0, []), (55, 0, 34, 0, []), (1, 0, 1, 0, []), (0, 1, 0, 0, []), (40, 0, 0, 0, []), (7, 0, 35, 0, []), (1, 0, 1, 0, []), (2, 0, 1, 0, []), (0, 0, 0, 0, []), (2, 0, 8, 0, []), (1, 0, 8, 0, []), (1, 0, 5, 0, []), (63, 0, 100, 0, []), (4, 0, 0, 0, []), (1, 0, 2, 0, []), (1, 0, 4, 0, []), (1, 0, 8, 0, []), (0, 0, 0, 0, []), (24, 5, 76, 5, []), (2, 0, 9, 0, []), (4, 0, 0, 0, []), (1, 0, 2, 0, []), (1, 0, 4, 0, []), (1, 0, 8, 0, []), (0, 1, 0, 0, []), (24, 5, 76, 5, []), (2, 0, 10, 0, []), (1, 0, 6, 0, []), (1, 0, 9, 0, []), (23, 0, 92, 1, []), (40, 0, 0, 0, []), (2, 0, 6, 0, []), (1, 0, 7, 0, []), (1, 0, 10, 0, []), (40, 0, 0, 0, []), (2, 0, 7, 0, []), (1, 0, 8, 0, []), (55, 0, 98, 0, []), (4, 0, 0, 0, []), (1, 0, 2, 0, []), (1, 0, 4, 0, []), (1, 0, 8, 0, []), (0, 1, 0, 0, []), (41, 0, 0, 0, []), (0, 0, 0, 0, []), (24, 5, 76, 5, []), (1, 0, 9, 0, []), (64, 0, 96, 0, []), (4, 0, 0, 0, []), (1, 0, 2, 0, []), (1, 0, 4, 0, []), (1, 0, 8, 0, []), (0, 1, 0, 0, []), (41, 0, 0, 0, []), (0, 0, 0, 0, []), (24, 5, 76, 5, []), (1, 0, 9, 0, []), (61, 0, 98, 0, []), (4, 0, 0, 0, []), (1, 0, 2, 0, []), (1, 0, 4, 0, []), (1, 0, 8, 0, []), (0, 1, 0, 0, []), (41, 0, 0, 0, []), (0, 1, 0, 0, []), (24, 5, 76, 5, []), (1, 0, 10, 0, []), (65, 0, 98, 0, []), (0, 0, 0, 0, []), (28, 0, 0, 0, []), (3, 1, 8, 0, []), (7, 0, 38, 0, [])]
def k_91_1 : List Op := [(4, 0, 0, 0, []), (1, 0, 2, 0, []), (1, 0, 4, 0, []), (0, 1, 0, 0, []), (24, 5, 75, 4, []), (2, 0, 8, 0, []), (1, 0, 5, 0, []), (0, 1, 0, 0, []), (1, 0, 4, 0, []), (47, 0, 0, 0, []), (64, 0, 135, 0, []), (4, 0, 0, 0, []), (1, 0, 2, 0, []), (1, 0, 4, 0, []), (0, 2, 0, 0, []), (24, 5, 75, 4, []), (1, 0, 6, 0, []), (61, 0, 135, 0, []), (4, 0, 0, 0, []), (1, 0, 2, 0, []), (1, 0, 4, 0, []), (0, 4, 0, 0, []), (24, 5, 75, 4, []), (1, 0, 7, 0, []), (61, 0, 135, 0, []), (4, 0, 0, 0, []), (1, 0, 2, 0, []), (1, 0, 4, 0, []), (1, 0, 5, 0, []), (0, 0, 0, 0, []), (24, 5, 76, 5, []), (0, -9999, 0, 0, []), (61, 0, 135, 0, []), (0, 1, 0, 0, []), (7, 0, 136, 0, []), (0, 0, 0, 0, []), (2, 0, 9, 0, []), (1, 0, 9, 0, []), (50, 0, 164, 0, []), (1, 0, 5, 0, []), (51, 0, 143, 0, []), (0, 1, 0, 0, []), (7, 0, 144, 0, []), (0, 0, 0, 0, []), (1, 0, 8, 0, []), (51, 0, 148, 0, []), (0, 1, 0, 0, []), (7, 0, 149, 0, []), (0, 0, 0, 0, []), (61, 0, 164, 0, []), (1, 0, 8, 0, []), (1, 0, 6, 0, []), (0, 1, 0, 0, []), (40, 0, 0, 0, []), (64, 0, 164, 0, []), (4, 0, 0, 0, []), (1, 0, 2, 0, []), (1, 0, 4, 0, []), (0, 3, 0, 0, []), (24, 5, 75, 4, []), (0, 5, 0, 0, []), (1, 0, 8, 0, []), (42, 0, 0, 0, []), (65, 0, 166, 0, []), (0, 0, 0, 0, []), (28, 0, 0, 0, []), (3, 1, 4, 0, []), (7, 0, 11, 0, []), (4, 0, 0, 0, []), (0, 1, 0, 0, []), (1, 0, 2, 0, []), (40, 0, 0, 0, []), (24, 5, 73, 2, []), (1, 0, 3, 0, []), (60, 0, 177, 0, []), (0, 0, 0, 0, []), (28, 0, 0, 0, []), (3, 1, 2, 0, []), (7, 0, 4, 0, []), (4, 0, 0, 0, []), (0, 9, 0, 0, []), (24, 5, 73, 2, []), (1, 0, 1, 0, []), (61, 0, 206, 0, []), (0, 2, 0, 0, []), (4, 0, 0, 0, []), (0, 2, 0, 0, []), (24, 5, 73, 2, []), (42, 0, 0, 0, []), (4, 0, 0, 0, []), (0, 1, 0, 0, []), (24, 5, 73, 2, []), (64, 0, 206, 0, []), (4, 0, 0, 0, []), (0, 1, 0, 0, []), (24, 5, 73, 2, []), (4, 0, 0, 0, []), (0, 2, 0, 0, []), (24, 5, 73, 2, []), (41, 0, 0, 0, [])]
def k_91_2 : List Op := [(4, 0, 0, 0, []), (0, 0, 0, 0, []), (24, 5, 73, 2, []), (61, 0, 206, 0, []), (0, 1, 0, 0, []), (7, 0, 207, 0, []), (0, 0, 0, 0, []), (28, 0, 0, 0, [])]
def k_91 : List Op := k_91_0 ++ k_91_1 ++ k_91_2
def p_91 : List Nat := [0, 1, 2, 3, 4, 5, 6, 9, 10, 11, 12, 14, 16, 18, 21, 22, 23, 25, 26, 29, 31, 32, 34, 35, 37, 38, 40, 41, 42, 44, 47, 48, 49, 50, 53, 54, 55, 56, 58, 60, 62, 65, 66, 67, 69, 71, 72, 75, 77, 78, 79, 81, 83, 84, 87, 89, 91, 93, 96, 97, 99, 101, 103, 104, 106, 108, 111, 112, 113, 115, 117, 118, 119, 120, 123, 125, 128, 129, 130, 132, 134, 135, 136, 137, 140, 142, 145, 146, 147, 149, 151, 152, 153, 154, 157, 159, 162, 163, 164, 167, 170, 171, 172, 174, 175, 178, 180, 182, 183, 185, 186, 189, 190, 191, 193, 194, 197, 199, 202, 203, 204, 206, 207, 210, 212, 215, 216, 217, 219, 221, 222, 225, 228, 231, 232, 235, 236, 238, 240, 243, 245, 248, 249, 252, 253, 255, 258, 259, 262, 263, 266, 268, 270, 271, 272, 275, 276, 277, 279, 280, 283, 284, 286, 287, 290, 291, 292, 295, 298, 299, 300, 301, 302, 305, 306, 309, 310, 311, 314, 317, 318, 320, 323, 324, 327, 328, 329, 330, 333, 334, 335, 336, 339, 342, 343, 344, 347, 348, 349, 352, 353, 354, 355, 358, 361, 362, 365, 366]
def k_92 : List Op := [(0, 0, 0, 0, []), (2, 0, 1, 0, []), (1, 0, 0, 0, []), (2, 0, 2, 0, []), (1, 0, 2, 0, []), (55, 0, 15, 0, []), (1, 0, 1, 0, []), (0, 1, 0, 0, []), (40, 0, 0, 0, []), (2, 0, 1, 0, []), (1, 0, 2, 0, []), (0, 10, 0, 0, []), (43, 0, 0, 0, []), (2, 0, 2, 0, []), (7, 0, 4, 0, []), (1, 0, 1, 0, []), (27, 0, 0, 0, [])]
def p_92 : List Nat := [0, 1, 2, 3, 4, 5, 8, 9, 10, 11, 12, 13, 15, 16, 17, 20, 21]
def k_93 : List Op := [(0, 0, 0, 0, []), (2, 0, 3, 0, []), (0, 0, 0, 0, []), (2, 0, 4, 0, []), (0, 0, 0, 0, []), (2, 0, 5, 0, []), (1, 0, 5, 0, []), (0, 2, 0, 0, []), (63, 0, 72, 0, []), (0, 0, 0, 0, []), (2, 0, 6, 0, []), (1, 0, 6, 0, []), (0, 7, 0, 0, []), (63, 0, 70, 0, []), (0, 0, 0, 0, []), (2, 0, 7, 0, []), (1, 0, 7, 0, []), (4, 0, 0, 0, []), (1, 0, 5, 0, []), (1, 0, 6, 0, []), (0, 0, 0, 0, []), (24, 5, 75, 4, []), (63, 0, 68, 0, []), (4, 0, 0, 0, []), (1, 0, 5, 0, []), (1, 0, 6, 0, []), (1, 0, 7, 0, []), (0, 0, 0, 0, []), (24, 5, 76, 5, []), (1, 0, 1, 0, []), (61, 0, 33, 0, []), (0, 1, 0, 0, []), (7, 0, 34, 0, []), (0, 0, 0, 0, []), (2, 0, 8, 0, []), (1, 0, 8, 0, []), (50, 0, 45, 0, []), (1, 0, 3, 0, []), (0, 1, 0, 0, []), (40, 0, 0, 0, []), (0, 2, 0, 0, []), (1, 0, 5, 0, []), (42, 0, 0, 0, []), (41, 0, 0, 0, []), (7, 0, 46, 0, []), (1, 0, 3, 0, []), (2, 0, 3, 0, []), (1, 0, 8, 0, []), (50, 0, 64, 0, []), (1, 0, 4, 0, []), (0, 1, 0, 0, []), (0, 2, 0, 0, []), (1, 0, 5, 0, []), (42, 0, 0, 0, []), (41, 0, 0, 0, []), (4, 0, 0, 0, []), (1, 0, 5, 0, []), (1, 0, 6, 0, []), (1, 0, 7, 0, []), (0, 1, 0, 0, []), (24, 5, 76, 5, []), (42, 0, 0, 0, []), (40, 0, 0, 0, []), (7, 0, 65, 0, []), (1, 0, 4, 0, []), (2, 0, 4, 0, []), (3, 1, 7, 0, []), (7, 0, 16, 0, []), (3, 1, 6, 0, []), (7, 0, 11, 0, []), (3, 1, 5, 0, []), (7, 0, 6, 0, []), (1, 0, 3, 0, []), (0, 1, 0, 0, []), (61, 0, 80, 0, []), (1, 0, 4, 0, []), (1, 0, 2, 0, []), (61, 0, 80, 0, []), (0, 1, 0, 0, []), (7, 0, 81, 0, []), (0, 0, 0, 0, []), (28, 0, 0, 0, [])]
def p_93 : List Nat := [0, 1, 2, 3, 5, 6, 8, 10, 11, 14, 15, 17, 19, 21, 24, 25, 27, 29, 30, 32, 34, 35, 38, 41, 42, 44, 46, 48, 49, 52, 53, 56, 57, 60, 61, 63, 65, 68, 69, 70, 71, 72, 74, 75, 76, 79, 80, 81, 83, 86, 88, 89, 90, 92, 93, 94, 95, 97, 99, 101, 102, 105, 106, 107, 110, 112, 114, 117, 120, 123, 126, 129, 132, 133, 134, 137, 139, 140, 143, 144, 147, 148]
def k_94_0 : List Op := [(0, 0, 0, 0, []), (2, 0, 1, 0, []), (0, 0, 0, 0, []), (2, 0, 2, 0, []), (0, 0, 0, 0, []), (2, 0, 3, 0, []), (0, 0, 0, 0, []), (2, 0, 4, 0, []), (1, 0, 4, 0, []), (4, 0, 0, 0, []), (0, 0, 0, 0, []), (24, 5, 73, 2, []), (63, 0, 55, 0, []), (4, 0, 0, 0, []), (1, 0, 4, 0, []), (0, 2, 0, 0, []), (24, 5, 74, 3, []), (2, 0, 5, 0, []), (1, 0, 1, 0, []), (1, 0, 5, 0, []), (40, 0, 0, 0, []), (2, 0, 1, 0, []), (1, 0, 2, 0, []), (1, 0, 5, 0, []), (4, 0, 0, 0, []), (1, 0, 4, 0, []), (0, 1, 0, 0, []), (24, 5, 74, 3, []), (42, 0, 0, 0, []), (40, 0, 0, 0, []), (2, 0, 2, 0, []), (1, 0, 3, 0, []), (4, 0, 0, 0, []), (1, 0, 4, 0, []), (0, 1, 0, 0, []), (24, 5, 74, 3, []), (40, 0, 0, 0, []), (2, 0, 3, 0, []), (1, 0, 4, 0, []), (55, 0, 53, 0, []), (4, 0, 0, 0, []), (1, 0, 4, 0, []), (0, 1, 0, 0, []), (41, 0, 0, 0, []), (0, 0, 0, 0, []), (24, 5, 74, 3, []), (4, 0, 0, 0, []), (1, 0, 4, 0, []), (0, 0, 0, 0, []), (24, 5, 74, 3, []), (62, 0, 53, 0, []), (0, 0, 0, 0, []), (28, 0, 0, 0, []), (3, 1, 4, 0, []), (7, 0, 8, 0, []), (0, 0, 0, 0, []), (2, 0, 4, 0, []), (0, 0, 0, 0, []), (2, 0, 5, 0, []), (0, 0, 0, 0, []), (2, 0, 6, 0, []), (0, 0, 0, 0, []), (2, 0, 7, 0, []), (0, 0, 0, 0, []), (2, 0, 8, 0, []), (1, 0, 8, 0, []), (4, 0, 0, 0, []), (0, 7, 0, 0, []), (24, 5, 73, 2, []), (63, 0, 141, 0, []), (1, 0, 4, 0, []), (4, 0, 0, 0, []), (1, 0, 8, 0, []), (0, 1, 0, 0, []), (24, 5, 77, 3, []), (40, 0, 0, 0, []), (2, 0, 4, 0, []), (1, 0, 6, 0, []), (4, 0, 0, 0, []), (1, 0, 8, 0, []), (0, 2, 0, 0, []), (24, 5, 77, 3, []), (40, 0, 0, 0, []), (2, 0, 6, 0, []), (1, 0, 5, 0, []), (4, 0, 0, 0, []), (1, 0, 8, 0, []), (0, 4, 0, 0, []), (24, 5, 77, 3, []), (40, 0, 0, 0, []), (2, 0, 5, 0, []), (4, 0, 0, 0, []), (1, 0, 8, 0, []), (0, 1, 0, 0, []), (24, 5, 77, 3, []), (55, 0, 98, 0, []), (0, 1, 0, 0, []), (7, 0, 99, 0, []), (0, 0, 0, 0, []), (4, 0, 0, 0, [])]
def k_94_1 : List Op := [(1, 0, 8, 0, []), (0, 3, 0, 0, []), (24, 5, 77, 3, []), (0, -9999, 0, 0, []), (60, 0, 107, 0, []), (0, 1, 0, 0, []), (7, 0, 108, 0, []), (0, 0, 0, 0, []), (61, 0, 126, 0, []), (4, 0, 0, 0, []), (1, 0, 8, 0, []), (0, 1, 0, 0, []), (24, 5, 77, 3, []), (55, 0, 128, 0, []), (4, 0, 0, 0, []), (1, 0, 7, 0, []), (0, 1, 0, 0, []), (24, 5, 79, 3, []), (1, 0, 8, 0, []), (61, 0, 126, 0, []), (4, 0, 0, 0, []), (1, 0, 8, 0, []), (0, 4, 0, 0, []), (24, 5, 77, 3, []), (0, 1, 0, 0, []), (60, 0, 128, 0, []), (0, 0, 0, 0, []), (28, 0, 0, 0, []), (4, 0, 0, 0, []), (1, 0, 8, 0, []), (0, 1, 0, 0, []), (24, 5, 77, 3, []), (55, 0, 137, 0, []), (1, 0, 7, 0, []), (0, 1, 0, 0, []), (40, 0, 0, 0, []), (7, 0, 138, 0, []), (1, 0, 7, 0, []), (2, 0, 7, 0, []), (3, 1, 8, 0, []), (7, 0, 65, 0, []), (4, 0, 0, 0, []), (0, 4, 0, 0, []), (24, 5, 78, 2, []), (2, 0, 8, 0, []), (4, 0, 0, 0, []), (0, 0, 0, 0, []), (24, 5, 78, 2, []), (1, 0, 1, 0, []), (61, 0, 179, 0, []), (1, 0, 4, 0, []), (1, 0, 1, 0, []), (61, 0, 179, 0, []), (4, 0, 0, 0, []), (0, 1, 0, 0, []), (24, 5, 78, 2, []), (1, 0, 2, 0, []), (61, 0, 179, 0, []), (1, 0, 6, 0, []), (1, 0, 2, 0, []), (61, 0, 179, 0, []), (4, 0, 0, 0, []), (0, 5, 0, 0, []), (24, 5, 73, 2, []), (1, 0, 3, 0, []), (61, 0, 179, 0, []), (4, 0, 0, 0, []), (0, 2, 0, 0, []), (24, 5, 78, 2, []), (1, 0, 5, 0, []), (61, 0, 179, 0, []), (4, 0, 0, 0, []), (1, 0, 7, 0, []), (0, 1, 0, 0, []), (24, 5, 79, 3, []), (0, -9999, 0, 0, []), (61, 0, 179, 0, []), (0, 1, 0, 0, []), (7, 0, 180, 0, []), (0, 0, 0, 0, []), (2, 0, 9, 0, []), (1, 0, 9, 0, []), (50, 0, 228, 0, []), (1, 0, 8, 0, []), (52, 0, 228, 0, []), (4, 0, 0, 0, []), (0, 5, 0, 0, []), (24, 5, 78, 2, []), (52, 0, 228, 0, []), (1, 0, 8, 0, []), (54, 0, 195, 0, []), (4, 0, 0, 0, []), (0, 5, 0, 0, []), (24, 5, 78, 2, []), (51, 0, 228, 0, []), (4, 0, 0, 0, []), (4, 0, 0, 0, []), (0, 0, 0, 0, []), (24, 5, 73, 2, []), (0, 0, 0, 0, [])]
def k_94_2 : List Op := [(24, 5, 74, 3, []), (0, -9999, 0, 0, []), (61, 0, 228, 0, []), (4, 0, 0, 0, []), (0, 3, 0, 0, []), (24, 5, 78, 2, []), (0, -9999, 0, 0, []), (61, 0, 210, 0, []), (0, 1, 0, 0, []), (7, 0, 211, 0, []), (0, 0, 0, 0, []), (4, 0, 0, 0, []), (0, 7, 0, 0, []), (24, 5, 73, 2, []), (51, 0, 217, 0, []), (0, 1, 0, 0, []), (7, 0, 218, 0, []), (0, 0, 0, 0, []), (61, 0, 228, 0, []), (1, 0, 1, 0, []), (54, 0, 226, 0, []), (4, 0, 0, 0, []), (24, 5, 80, 1, []), (37, 0, 0, 0, []), (57, 0, 0, 0, []), (51, 0, 228, 0, []), (0, 1, 0, 0, []), (7, 0, 229, 0, []), (0, 0, 0, 0, []), (28, 0, 0, 0, [])]
def k_94 : List Op := k_94_0 ++ k_94_1 ++ k_94_2
def p_94 : List Nat := [0, 1, 2, 3, 4, 5, 6, 7, 9, 11, 12, 13, 16, 19, 20, 22, 23, 26, 28, 29, 31, 32, 33, 34, 36, 37, 39, 40, 43, 44, 45, 46, 47, 48, 50, 51, 54, 55, 56, 58, 61, 62, 64, 65, 66, 67, 70, 71, 73, 74, 77, 80, 81, 82, 85, 88, 89, 91, 92, 94, 95, 97, 98, 100, 101, 103, 105, 106, 108, 111, 114, 116, 117, 119, 120, 123, 124, 126, 128, 129, 131, 132, 135, 136, 138, 140, 141, 143, 144, 147, 148, 150, 151, 153, 154, 157, 160, 161, 164, 165, 166, 168, 169, 172, 175, 178, 179, 182, 183, 186, 187, 189, 190, 193, 196, 197, 199, 200, 203, 205, 208, 209, 211, 212, 215, 216, 219, 220, 221, 222, 224, 225, 228, 231, 233, 234, 235, 238, 240, 242, 245, 248, 249, 250, 253, 255, 256, 257, 260, 261, 264, 266, 267, 270, 271, 272, 275, 276, 279, 281, 282, 285, 286, 287, 290, 291, 294, 295, 296, 299, 301, 304, 305, 307, 308, 311, 314, 317, 318, 321, 322, 324, 326, 329, 331, 334, 335, 336, 339, 342, 344, 347, 348, 349, 352, 355, 356, 357, 358, 361, 362, 365, 368, 371, 372, 373, 376, 379, 382, 383, 386, 387, 388, 390, 393, 396, 397, 400, 401, 404, 405, 408, 409, 412, 413, 414, 417, 418, 421, 422]
def k_95 : List Op := [(0, 1, 0, 0, []), (2, 0, 2, 0, []), (0, 0, 0, 0, []), (2, 0, 3, 0, []), (1, 0, 3, 0, []), (0, 10, 0, 0, []), (63, 0, 25, 0, []), (1, 0, 2, 0, []), (50, 0, 21, 0, []), (1, 0, 3, 0, []), (0, 6, 0, 0, []), (60, 0, 19, 0, []), (4, 0, 0, 0, []), (1, 0, 3, 0, []), (24, 5, 73, 2, []), (4, 0, 1, 0, []), (1, 0, 3, 0, []), (24, 5, 73, 2, []), (61, 0, 21, 0, []), (0, 1, 0, 0, []), (7, 0, 22, 0, []), (0, 0, 0, 0, []), (2, 0, 2, 0, []), (3, 1, 3, 0, []), (7, 0, 4, 0, []), (0, 0, 0, 0, []), (2, 0, 3, 0, []), (1, 0, 3, 0, []), (0, 6, 0, 0, []), (63, 0, 45, 0, []), (1, 0, 2, 0, []), (50, 0, 41, 0, []), (4, 0, 0, 0, []), (1, 0, 3, 0, []), (24, 5, 78, 2, []), (4, 0, 1, 0, []), (1, 0, 3, 0, []), (24, 5, 78, 2, []), (61, 0, 41, 0, []), (0, 1, 0, 0, []), (7, 0, 42, 0, []), (0, 0, 0, 0, []), (2, 0, 2, 0, []), (3, 1, 3, 0, []), (7, 0, 27, 0, []), (1, 0, 2, 0, []), (28, 0, 0, 0, [])]
def p_95 : List Nat := [0, 1, 2, 3, 4, 5, 7, 10, 11, 14, 15, 17, 20, 21, 22, 25, 26, 27, 30, 33, 34, 37, 38, 39, 42, 45, 46, 47, 48, 50, 53, 54, 57, 58, 59, 62, 63, 64, 67, 70, 71, 74, 75, 76, 79, 82, 83]
def k_96 : List Op := [(17, 0, 5, 0, []), (18, 0, 0, 0, []), (25, 5, 64, 1, []), (5, 0, 1, 0, []), (17, 0, 5, 0, []), (18, 0, 0, 0, []), (25, 5, 64, 1, []), (5, 0, 2, 0, []), (0, 0, 0, 0, []), (2, 0, 3, 0, []), (1, 0, 3, 0, []), (0, 28, 0, 0, []), (63, 0, 75, 0, []), (4, 0, 0, 0, []), (0, 2, 0, 0, []), (1, 0, 3, 0, []), (42, 0, 0, 0, []), (23, 0, 87, 2, []), (2, 0, 4, 0, []), (4, 0, 0, 0, []), (0, 2, 0, 0, []), (1, 0, 3, 0, []), (42, 0, 0, 0, []), (0, 1, 0, 0, []), (40, 0, 0, 0, []), (23, 0, 87, 2, []), (2, 0, 5, 0, []), (4, 0, 1, 0, []), (1, 0, 4, 0, []), (1, 0, 5, 0, []), (23, 0, 90, 3, []), (4, 0, 2, 0, []), (1, 0, 4, 0, []), (1, 0, 5, 0, []), (23, 0, 90, 3, []), (61, 0, 42, 0, []), (4, 0, 1, 0, []), (23, 0, 91, 1, []), (50, 0, 42, 0, []), (4, 0, 1, 0, []), (23, 0, 94, 1, []), (51, 0, 44, 0, []), (0, 0, 0, 0, []), (28, 0, 0, 0, []), (4, 0, 1, 0, []), (0, 0, 0, 0, []), (24, 5, 73, 2, []), (2, 0, 6, 0, []), (1, 0, 6, 0, []), (51, 0, 52, 0, []), (0, 0, 0, 0, []), (7, 0, 57, 0, []), (1, 0, 5, 0, []), (0, 3, 0, 0, []), (48, 0, 0, 0, []), (1, 0, 6, 0, []), (23, 0, 88, 2, []), (2, 0, 7, 0, []), (1, 0, 6, 0, []), (55, 0, 73, 0, []), (4, 0, 1, 0, []), (4, 0, 1, 0, []), (1, 0, 7, 0, []), (0, 0, 0, 0, []), (24, 5, 74, 3, []), (4, 0, 1, 0, []), (1, 0, 7, 0, []), (0, 1, 0, 0, []), (24, 5, 74, 3, []), (23, 0, 93, 3, []), (51, 0, 73, 0, []), (0, 0, 0, 0, []), (28, 0, 0, 0, []), (3, 1, 3, 0, []), (7, 0, 10, 0, []), (4, 0, 1, 0, []), (4, 0, 2, 0, []), (23, 0, 95, 2, []), (28, 0, 0, 0, [])]
def p_96 : List Nat := [0, 3, 4, 7, 8, 11, 12, 15, 16, 17, 18, 19, 21, 24, 25, 26, 27, 28, 31, 33, 34, 35, 36, 37, 38, 39, 42, 44, 45, 47, 49, 52, 53, 55, 57, 60, 63, 64, 67, 70, 71, 74, 77, 78, 79, 80, 81, 84, 86, 88, 91, 92, 95, 97, 98, 99, 101, 104, 106, 108, 111, 112, 113, 115, 116, 119, 120, 122, 123, 126, 129, 132, 133, 134, 137, 140, 141, 142, 145]
def pgm : List (List Op) := [k_0, k_1, k_2, k_3, k_4, k_5, k_6, k_7, k_8, k_9, k_10, k_11, k_12, k_13, k_14, k_15, k_16, k_17, k_18, k_19, k_20, k_21, k_22, k_23, k_24, k_25, k_26, k_27, k_28, k_29, k_30, k_31, k_32, k_33, k_34, k_35, k_36, k_37, k_38, k_39, k_40, k_41, k_42, k_43, k_44, k_45, k_46, k_47, k_48, k_49, k_50, k_51, k_52, k_53, k_54, k_55, k_56, k_57, k_58, k_59, k_60, k_61, k_62, k_63, k_64, k_65, k_66, k_67, k_68, k_69, k_70, k_71, k_72, k_73, k_74, k_75, k_76, k_77, k_78, k_79, k_80, k_81, k_82, k_83, k_84, k_85, k_86, k_87, k_88, k_89, k_90, k_91, k_92, k_93, k_94, k_95, k_96]
def ptab : List (List Nat) := [p_0, p_1, p_2, p_3, p_4, p_5, p_6, p_7, p_8, p_9, p_10, p_11, p_12, p_13, p_14, p_15, p_16, p_17, p_18, p_19, p_20, p_21, p_22, p_23, p_24, p_25, p_26, p_27, p_28, p_29, p_30, p_31, p_32, p_33, p_34, p_35, p_36, p_37, p_38, p_39, p_40, p_41, p_42, p_43, p_44, p_45, p_46, p_47, p_48, p_49, p_50, p_51, p_52, p_53, p_54, p_55, p_56, p_57, p_58, p_59, p_60, p_61, p_62, p_63, p_64, p_65, p_66, p_67, p_68, p_69, p_70, p_71, p_72, p_73, p_74, p_75, p_76, p_77, p_78, p_79, p_80, p_81, p_82, p_83, p_84, p_85, p_86, p_87, p_88, p_89, p_90, p_91, p_92, p_93, p_94, p_95, p_96]
def rmF : List Nat := [2, 0, 0, 0, 0, 1, 4, 4, 3, 0, 1, 0, 3, 2, 1, 0, 0, 0, 0, 0, 1, 1, 0, 2, 0, 0, 2, 1, 3, 2, 1, 0, 0, 1, 0, 3, 1, 3, 2, 2, 1, 0, 1, 0, 0, 0, 0, 1, 2, 3, 3, 3, 4, 4, 4, 4, 4, 4, 4, 4, 3, 0, 3, 2, 3, 1, 1, 1, 5, 5, 5, 4, 3, 3, 4, 4, 2, 5, 5, 4, 5, 3, 4, 0, 0, 0, 0, 0, 0, 2, 6, 5, 0, 5, 6, 6, 7]
def rmL : List Nat := [41, 0, 0, 0, 0, 22, 94, 94, 70, 0, 21, 0, 61, 43, 21, 0, 0, 0, 0, 0, 23, 22, 0, 44, 0, 0, 47, 25, 70, 44, 25, 0, 0, 21, 0, 67, 23, 67, 45, 45, 23, 0, 21, 0, 0, 0, 0, 21, 45, 67, 68, 68, 91, 91, 92, 93, 91, 93, 92, 92, 68, 0, 68, 45, 61, 22, 22, 20, 117, 116, 117, 92, 65, 66, 90, 92, 44, 114, 118, 92, 116, 61, 83, 0, 0, 0, 0, 0, 0, 43, 140, 116, 0, 116, 140, 140, 169]
def fkt : List (List Nat) := [[1, 1, 1, 0, 0], [1, 0, 0], [1, 1, 1, 0], [1, 1, 0, 0], [1, 0, 1, 1], [1, 1, 1, 1, 1, 0]]
abbrev CE : Type := Nat × Nat × Nat × Int × Nat
def ctab_0 : List (CE) := [(7, 16, 3, 5, 0),
  (7, 82, 1, 64, 0),
  (5, 3, 5, 0, 0),
  (5, 9, 3, 4, 0),
  (5, 11, 1, 42, 0),
  (4, 3, 5, 0, 0),
  (4, 9, 0, 4, 0),
  (4, 15, 0, 4, 1),
  (4, 19, 0, 4, 2),
  (4, 22, 0, 4, 3),
  (5, 16, 3, 0, 0),
  (5, 18, 1, 0, 0),
  (0, 3, 5, 0, 0),
  (0, 9, 3, 2, 0),
  (0, 11, 1, 14, 0),
  (2, 3, 5, 0, 0),
  (2, 9, 0, 2, 0),
  (2, 15, 0, 2, 1),
  (2, 18, 0, 2, 2),
  (2, 21, 0, 2, 3),
  (0, 12, 0, 0, 0),
  (0, 18, 0, 0, 1),
  (0, 21, 0, 0, 2),
  (0, 24, 0, 0, 3),
  (0, 28, 0, 0, 4),
  (5, 23, 3, 1, 0),
  (5, 25, 1, 10, 0),
  (1, 3, 5, 0, 0),
  (1, 9, 3, 0, 0),
  (1, 11, 0, 1, 0),
  (1, 17, 0, 1, 1),
  (1, 21, 0, 1, 2),
  (5, 34, 3, 3, 0),
  (5, 36, 1, 33, 0),
  (3, 3, 5, 0, 0),
  (3, 11, 0, 3, 0),
  (3, 15, 0, 3, 1),
  (3, 18, 0, 3, 2),
  (3, 22, 0, 3, 3),
  (5, 12, 0, 5, 0),
  (5, 19, 0, 5, 1),
  (5, 26, 0, 5, 2),
  (5, 30, 0, 5, 3),
  (5, 37, 0, 5, 4),
  (5, 41, 0, 5, 5),
  (7, 27, 1, 73, 0),
  (5, 67, 1, 1, 0),
  (5, 76, 1, 15, 0),
  (5, 100, 1, 2, 0),
  (5, 104, 1, 3, 0),
  (5, 107, 1, 4, 0),
  (5, 110, 1, 22, 0),
  (5, 45, 1, 86, 0),
  (5, 53, 1, 43, 0),
  (5, 96, 1, 11, 0),
  (5, 113, 1, 23, 0),
  (2, 32, 1, 20, 0),
  (2, 25, 1, 19, 0),
  (7, 30, 1, 74, 0),
  (5, 116, 1, 16, 0)]
def ctab_1 : List (CE) := [(5, 90, 1, 17, 0),
  (5, 119, 1, 49, 0),
  (4, 37, 1, 48, 0),
  (4, 30, 2, 86, 5),
  (4, 33, 1, 47, 0),
  (4, 26, 1, 46, 0),
  (7, 83, 1, 87, 0),
  (7, 7, 4, 747796405, 0),
  (7, 9, 1, 88, 0),
  (7, 8, 4, 2147483647, 0),
  (7, 87, 1, 90, 0),
  (7, 21, 1, 89, 0),
  (7, 15, 1, 65, 0),
  (5, 49, 1, 85, 0),
  (5, 195, 4, 444444, 0),
  (7, 24, 1, 68, 0),
  (5, 64, 1, 83, 0),
  (5, 71, 1, 18, 0),
  (5, 79, 1, 12, 0),
  (1, 24, 1, 0, 0),
  (1, 25, 1, 5, 0),
  (0, 31, 1, 25, 0),
  (1, 29, 7, 0, 0),
  (5, 83, 1, 6, 0),
  (0, 35, 1, 26, 0),
  (2, 35, 1, 30, 0),
  (2, 51, 1, 31, 0),
  (2, 39, 1, 32, 0),
  (0, 39, 1, 28, 0),
  (2, 43, 1, 29, 0),
  (2, 47, 1, 26, 0),
  (0, 43, 1, 21, 0),
  (2, 29, 2, 86, 5),
  (7, 33, 1, 69, 0),
  (5, 87, 1, 7, 0),
  (0, 47, 1, 16, 0),
  (0, 50, 1, 17, 0),
  (0, 53, 1, 27, 0),
  (0, 57, 1, 15, 0),
  (0, 61, 1, 8, 0),
  (0, 67, 1, 24, 0),
  (0, 64, 1, 9, 0),
  (7, 37, 1, 70, 0),
  (7, 40, 1, 71, 0),
  (5, 93, 1, 8, 0),
  (7, 43, 1, 72, 0),
  (5, 97, 1, 13, 0),
  (7, 46, 1, 81, 0),
  (5, 192, 1, 5, 0),
  (7, 49, 1, 82, 0),
  (7, 52, 1, 67, 0),
  (5, 61, 1, 44, 0),
  (7, 55, 1, 66, 0),
  (5, 57, 1, 45, 0),
  (4, 25, 4, 100000, 0),
  (7, 91, 1, 91, 0),
  (7, 58, 1, 75, 0),
  (5, 122, 1, 84, 0),
  (5, 126, 1, 20, 0),
  (5, 129, 1, 21, 0)]
def ctab_2 : List (CE) := [(5, 132, 1, 35, 0),
  (3, 25, 1, 19, 0),
  (3, 31, 1, 40, 0),
  (3, 41, 1, 41, 0),
  (3, 35, 1, 16, 0),
  (3, 38, 1, 39, 0),
  (3, 51, 1, 36, 0),
  (5, 136, 1, 34, 0),
  (5, 137, 1, 37, 0),
  (3, 44, 1, 38, 0),
  (3, 50, 4, 100000, 0),
  (3, 47, 2, 86, 5),
  (7, 62, 1, 76, 0),
  (5, 140, 1, 19, 0),
  (7, 66, 1, 92, 0),
  (7, 98, 1, 93, 0),
  (7, 95, 1, 94, 0),
  (7, 69, 1, 77, 0),
  (5, 154, 1, 46, 0),
  (5, 157, 1, 50, 0),
  (4, 41, 1, 63, 0),
  (4, 72, 1, 18, 0),
  (5, 161, 1, 51, 0),
  (4, 45, 1, 17, 0),
  (5, 163, 1, 52, 0),
  (4, 50, 1, 62, 0),
  (5, 166, 1, 53, 0),
  (7, 72, 1, 79, 0),
  (5, 189, 1, 48, 0),
  (7, 75, 1, 78, 0),
  (5, 170, 1, 54, 0),
  (4, 54, 1, 50, 0),
  (5, 174, 1, 55, 0),
  (4, 57, 1, 51, 0),
  (5, 177, 1, 56, 0),
  (4, 59, 6, 0, 0),
  (5, 180, 1, 57, 0),
  (5, 183, 1, 58, 0),
  (4, 64, 1, 60, 0),
  (4, 68, 1, 61, 0),
  (5, 186, 1, 59, 0),
  (7, 78, 1, 80, 0),
  (7, 102, 1, 95, 0)]
def ctab : List (CE) := ctab_0 ++ ctab_1 ++ ctab_2
def cpos : List Nat := [19, 21, 24, 27, 29, 32, 33, 34, 35, 36, 47, 49, 52, 53, 55, 58, 59, 60, 61, 62, 72, 73, 74, 75, 76, 88, 90, 93, 94, 96, 97, 98, 106, 108, 111, 112, 113, 114, 115, 125, 126, 127, 128, 129, 130, 144, 148, 152, 156, 160, 164, 168, 172, 175, 179, 183, 187, 191, 195, 199, 203, 207, 211, 215, 216, 220, 224, 227, 228, 231, 232, 235, 238, 242, 245, 246, 250, 253, 257, 261, 262, 266, 270, 273, 277, 281, 285, 289, 293, 297, 301, 302, 306, 307, 311, 315, 316, 317, 321, 322, 326, 330, 333, 337, 341, 342, 346, 350, 354, 355, 359, 363, 367, 371, 375, 376, 379, 383, 386, 387, 388, 392, 393, 397, 400, 401, 405, 409, 413, 417, 421, 422, 423, 427, 428, 431, 434, 437, 441, 442, 446, 450, 451, 455, 456, 460, 464, 468, 472, 473, 477, 481, 482, 486, 487, 491, 494, 498, 502, 506, 510, 514, 518]
def mpos : List (List Nat) := [[51, 14, 50], [151, 14, 149, 150], [159, 14, 157, 158], [163, 14, 161, 162], [167, 14, 165, 166], [265, 14, 263, 264], [276, 14, 274, 275], [314, 14, 312, 313], [325, 14, 323, 324], [332, 14, 331], [92, 16, 91], [182, 16, 180, 181], [260, 16, 258, 259], [349, 16, 347, 348], [57, 15, 56], [155, 15, 153, 154], [202, 15, 200, 201], [206, 15, 204, 205], [256, 15, 254, 255], [194, 15, 192, 193], [190, 15, 188, 189], [305, 15, 303, 304], [171, 15, 169, 170], [186, 15, 184, 185], [329, 15, 327, 328], [269, 15, 267, 268], [280, 15, 278, 279], [320, 15, 318, 319], [296, 15, 294, 295], [300, 15, 299, 3], [284, 15, 283, 0], [288, 15, 287, 1], [292, 15, 291, 2], [110, 17, 109], [412, 17, 410, 411], [391, 17, 389, 390], [408, 17, 406, 407], [416, 17, 414, 415], [420, 17, 419, 6], [404, 17, 403, 5], [396, 17, 395, 4], [399, 17, 398], [31, 13, 30], [178, 13, 176, 177], [366, 13, 364, 365], [374, 13, 372, 373], [223, 13, 221, 222], [219, 13, 217, 218], [214, 13, 212, 213], [210, 13, 208, 209], [445, 13, 443, 444], [454, 13, 452, 453], [459, 13, 457, 458], [467, 13, 465, 466], [480, 13, 478, 479], [485, 13, 483, 484], [490, 13, 488, 489], [497, 13, 495, 496], [501, 13, 499, 500], [513, 13, 511, 512], [505, 13, 504, 9], [509, 13, 508, 10], [463, 13, 462, 8], [449, 13, 448, 7], [23, 12, 22], [241, 12, 239, 240], [370, 12, 368, 369], [362, 12, 360, 361], [249, 12, 247, 248], [310, 12, 308, 309], [336, 12, 334, 335], [340, 12, 338, 339], [345, 12, 343, 344], [147, 12, 145, 146], [198, 12, 196, 197], [382, 12, 380, 381], [426, 12, 424, 425], [440, 12, 438, 439], [476, 12, 474, 475], [471, 12, 469, 470], [517, 12, 515, 516], [353, 12, 351, 352], [358, 12, 356, 357], [252, 12, 251], [385, 12, 384], [244, 12, 243], [174, 12, 173], [226, 11, 225], [230, 11, 229], [237, 11, 236], [234, 11, 233], [378, 11, 377], [430, 11, 429], [433, 11, 432], [436, 11, 435], [520, 11, 519], []]
def xpos : List (List Nat) := [[77, 79, 81, 83, 85, 48, 14], [99, 101, 103, 89, 16], [63, 65, 67, 69, 54, 15], [116, 118, 120, 122, 107, 17], [37, 39, 41, 43, 28, 13], [131, 133, 135, 137, 139, 141, 20, 12]]
def opos : List Nat := [25, 26, 46, 95, 492, 493, 271, 272, 18]
