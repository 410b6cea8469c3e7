section
-- ===== PART A: goes FIRST, ahead of the names: the tables' words, and 'selects' of the private methods out of them =====
/-- a private method of a class that the tables say can be made, by its rows of tables_1 -/
def lw_okq (q : MethodName × Nat) : Prop := (q.1.cls ≠ "java/lang/invoke/MethodHandle" ∧ q.1.cls ≠ "java/lang/invoke/VarHandle") ∧ Cond.instantiable q.1.cls q.2 ∈ tables_1 ∧ Cond.privateMethod q.1 ∈ tables_1 ∧ Cond.instanceMethod q.1 ∈ tables_1
theorem lw_p0 : lw_okq (⟨"WordGroups$Items", "moveDown", "(I)V"⟩, 4) := ⟨⟨by decide +kernel, by decide +kernel⟩, List.mem_of_getElem? (i := 43) (by decide +kernel), List.mem_of_getElem? (i := 271) (by decide +kernel), List.mem_of_getElem? (i := 272) (by decide +kernel)⟩
theorem lw_p1 : lw_okq (⟨"WordGroups$Items", "isLess", "(II)Z"⟩, 4) := ⟨⟨by decide +kernel, by decide +kernel⟩, List.mem_of_getElem? (i := 43) (by decide +kernel), List.mem_of_getElem? (i := 275) (by decide +kernel), List.mem_of_getElem? (i := 276) (by decide +kernel)⟩
theorem lw_p2 : lw_okq (⟨"WordGroups$Items", "swap", "(II)V"⟩, 4) := ⟨⟨by decide +kernel, by decide +kernel⟩, List.mem_of_getElem? (i := 43) (by decide +kernel), List.mem_of_getElem? (i := 279) (by decide +kernel), List.mem_of_getElem? (i := 280) (by decide +kernel)⟩
theorem lw_p3 : lw_okq (⟨"WordGroups$Items", "leastEmptyGroup", "()I"⟩, 4) := ⟨⟨by decide +kernel, by decide +kernel⟩, List.mem_of_getElem? (i := 43) (by decide +kernel), List.mem_of_getElem? (i := 287) (by decide +kernel), List.mem_of_getElem? (i := 288) (by decide +kernel)⟩
theorem lw_p4 : lw_okq (⟨"WordGroups$Nodes", "add", "(I)V"⟩, 4) := ⟨⟨by decide +kernel, by decide +kernel⟩, List.mem_of_getElem? (i := 96) (by decide +kernel), List.mem_of_getElem? (i := 383) (by decide +kernel), List.mem_of_getElem? (i := 384) (by decide +kernel)⟩
theorem lw_p5 : lw_okq (⟨"WordGroups$Nodes", "addBeginnings", "(I)V"⟩, 4) := ⟨⟨by decide +kernel, by decide +kernel⟩, List.mem_of_getElem? (i := 96) (by decide +kernel), List.mem_of_getElem? (i := 391) (by decide +kernel), List.mem_of_getElem? (i := 392) (by decide +kernel)⟩
theorem lw_p6 : lw_okq (⟨"WordGroups$Nodes", "failureOf", "(I)I"⟩, 4) := ⟨⟨by decide +kernel, by decide +kernel⟩, List.mem_of_getElem? (i := 96) (by decide +kernel), List.mem_of_getElem? (i := 407) (by decide +kernel), List.mem_of_getElem? (i := 408) (by decide +kernel)⟩
theorem lw_p7 : lw_okq (⟨"WordGroups$Text", "matchAt", "(IILWordGroups$Items;)I"⟩, 4) := ⟨⟨by decide +kernel, by decide +kernel⟩, List.mem_of_getElem? (i := 17) (by decide +kernel), List.mem_of_getElem? (i := 436) (by decide +kernel), List.mem_of_getElem? (i := 437) (by decide +kernel)⟩
theorem lw_p8 : lw_okq (⟨"WordGroups$Text", "longestAt", "(ILWordGroups$Items;)I"⟩, 4) := ⟨⟨by decide +kernel, by decide +kernel⟩, List.mem_of_getElem? (i := 17) (by decide +kernel), List.mem_of_getElem? (i := 450) (by decide +kernel), List.mem_of_getElem? (i := 451) (by decide +kernel)⟩
theorem lw_p9 : lw_okq (⟨"WordGroups$Text", "divide", "(LWordGroups$Items;)V"⟩, 4) := ⟨⟨by decide +kernel, by decide +kernel⟩, List.mem_of_getElem? (i := 17) (by decide +kernel), List.mem_of_getElem? (i := 492) (by decide +kernel), List.mem_of_getElem? (i := 493) (by decide +kernel)⟩
theorem lw_p10 : lw_okq (⟨"WordGroups$Text", "offer", "(III)V"⟩, 4) := ⟨⟨by decide +kernel, by decide +kernel⟩, List.mem_of_getElem? (i := 17) (by decide +kernel), List.mem_of_getElem? (i := 496) (by decide +kernel), List.mem_of_getElem? (i := 497) (by decide +kernel)⟩
def lw_privs_1 : List (MethodName × Nat) := [(⟨"WordGroups$Items", "moveDown", "(I)V"⟩, 4), (⟨"WordGroups$Items", "isLess", "(II)Z"⟩, 4), (⟨"WordGroups$Items", "swap", "(II)V"⟩, 4), (⟨"WordGroups$Items", "leastEmptyGroup", "()I"⟩, 4), (⟨"WordGroups$Nodes", "add", "(I)V"⟩, 4), (⟨"WordGroups$Nodes", "addBeginnings", "(I)V"⟩, 4), (⟨"WordGroups$Nodes", "failureOf", "(I)I"⟩, 4), (⟨"WordGroups$Text", "matchAt", "(IILWordGroups$Items;)I"⟩, 4), (⟨"WordGroups$Text", "longestAt", "(ILWordGroups$Items;)I"⟩, 4), (⟨"WordGroups$Text", "divide", "(LWordGroups$Items;)V"⟩, 4), (⟨"WordGroups$Text", "offer", "(III)V"⟩, 4)]
theorem lw_r1 : ∀ q ∈ lw_privs_1, lw_okq q := List.forall_mem_cons.mpr ⟨lw_p0, List.forall_mem_cons.mpr ⟨lw_p1, List.forall_mem_cons.mpr ⟨lw_p2, List.forall_mem_cons.mpr ⟨lw_p3, List.forall_mem_cons.mpr ⟨lw_p4, List.forall_mem_cons.mpr ⟨lw_p5, List.forall_mem_cons.mpr ⟨lw_p6, List.forall_mem_cons.mpr ⟨lw_p7, List.forall_mem_cons.mpr ⟨lw_p8, List.forall_mem_cons.mpr ⟨lw_p9, List.forall_mem_cons.mpr ⟨lw_p10, fun _ h => absurd h List.not_mem_nil⟩⟩⟩⟩⟩⟩⟩⟩⟩⟩⟩
def lw_privs : List (MethodName × Nat) := lw_privs_1
def lw_tbl : List Cond := k2_sels lw_privs ++ tables_1
theorem lw_privs_ok : ∀ q ∈ lw_privs, lw_okq q := lw_r1
/-- the streams that the claim lets the run draw from -/
abbrev lw_cs : List Choice := [Jvm.Choice.named "NaN.bits"]
theorem lw_bits : nanBits ∈ lw_cs := by first | decide | exact List.mem_cons_self | simp [lw_cs, nanBits]
def RX0 : String := "WordGroups$Dictionary"
def TX0 : u_T := fun k => match k with
  | 0 => ("WordGroups$Dictionary", "live", "LWordGroups$Items;", true)
  | 1 => ("WordGroups$Dictionary", "inserted", "LWordGroups$Items;", true)
  | 2 => ("WordGroups$Dictionary", "removed", "LWordGroups$Items;", true)
  | 3 => ("WordGroups$Dictionary", "costs", "I", false)
  | _ => ("WordGroups$Dictionary", "rebuildings", "I", false)
def tyX0 : Nat → FieldType := fun k => match k with
  | 0 => .object "WordGroups$Items"
  | 1 => .object "WordGroups$Items"
  | 2 => .object "WordGroups$Items"
  | 3 => .int
  | _ => .int
theorem nmX0 : ∀ a, a < 5 → ∀ b, b < 5 → a ≠ b → (TX0 a).2.1 ≠ (TX0 b).2.1 := by decide +kernel
theorem tyX0_ok : ∀ k, k < 5 → parseFieldDescriptor (TX0 k).2.2.1 = some (tyX0 k) := by decide +kernel
def RX1 : String := "WordGroups$History"
def TX1 : u_T := fun k => match k with
  | 0 => ("WordGroups$History", "states", "[LWordGroups$Dictionary;", true)
  | 1 => ("WordGroups$History", "next", "I", false)
  | _ => ("WordGroups$History", "size", "I", false)
def tyX1 : Nat → FieldType := fun k => match k with
  | 0 => .array (.object "WordGroups$Dictionary")
  | 1 => .int
  | _ => .int
theorem nmX1 : ∀ a, a < 3 → ∀ b, b < 3 → a ≠ b → (TX1 a).2.1 ≠ (TX1 b).2.1 := by decide +kernel
theorem tyX1_ok : ∀ k, k < 3 → parseFieldDescriptor (TX1 k).2.2.1 = some (tyX1 k) := by decide +kernel
def RX2 : String := "WordGroups$Items"
def TX2 : u_T := fun k => match k with
  | 0 => ("WordGroups$Items", "groups", "[I", true)
  | 1 => ("WordGroups$Items", "codes", "[I", true)
  | 2 => ("WordGroups$Items", "weights", "[I", true)
  | _ => ("WordGroups$Items", "size", "I", false)
def tyX2 : Nat → FieldType := fun k => match k with
  | 0 => .array .int
  | 1 => .array .int
  | 2 => .array .int
  | _ => .int
theorem nmX2 : ∀ a, a < 4 → ∀ b, b < 4 → a ≠ b → (TX2 a).2.1 ≠ (TX2 b).2.1 := by decide +kernel
theorem tyX2_ok : ∀ k, k < 4 → parseFieldDescriptor (TX2 k).2.2.1 = some (tyX2 k) := by decide +kernel
def RX3 : String := "WordGroups$Nodes"
def TX3 : u_T := fun k => match k with
  | 0 => ("WordGroups$Nodes", "readingOf", "[I", true)
  | 1 => ("WordGroups$Nodes", "codes", "[I", true)
  | 2 => ("WordGroups$Nodes", "reading", "I", false)
  | _ => ("WordGroups$Nodes", "size", "I", false)
def tyX3 : Nat → FieldType := fun k => match k with
  | 0 => .array .int
  | 1 => .array .int
  | 2 => .int
  | _ => .int
theorem nmX3 : ∀ a, a < 4 → ∀ b, b < 4 → a ≠ b → (TX3 a).2.1 ≠ (TX3 b).2.1 := by decide +kernel
theorem tyX3_ok : ∀ k, k < 4 → parseFieldDescriptor (TX3 k).2.2.1 = some (tyX3 k) := by decide +kernel
def RX4 : String := "WordGroups$Text"
def TX4 : u_T := fun k => match k with
  | 0 => ("WordGroups$Text", "letters", "[I", true)
  | 1 => ("WordGroups$Text", "length", "I", false)
  | 2 => ("WordGroups$Text", "bestWeights", "[I", true)
  | _ => ("WordGroups$Text", "fewestMatches", "[I", true)
def tyX4 : Nat → FieldType := fun k => match k with
  | 0 => .array .int
  | 1 => .int
  | 2 => .array .int
  | _ => .array .int
theorem nmX4 : ∀ a, a < 4 → ∀ b, b < 4 → a ≠ b → (TX4 a).2.1 ≠ (TX4 b).2.1 := by decide +kernel
theorem tyX4_ok : ∀ k, k < 4 → parseFieldDescriptor (TX4 k).2.2.1 = some (tyX4 k) := by decide +kernel
def RX5 : String := "WordGroups"
def TX5 : u_T := fun k => match k with
  | 0 => ("WordGroups", "text", "LWordGroups$Text;", true)
  | 1 => ("WordGroups", "present", "LWordGroups$Dictionary;", true)
  | 2 => ("WordGroups", "history", "LWordGroups$History;", true)
  | 3 => ("WordGroups", "images", "[LWordGroups$Dictionary;", true)
  | 4 => ("WordGroups", "nodes", "LWordGroups$Nodes;", true)
  | _ => ("WordGroups", "pattern", "I", false)
def tyX5 : Nat → FieldType := fun k => match k with
  | 0 => .object "WordGroups$Text"
  | 1 => .object "WordGroups$Dictionary"
  | 2 => .object "WordGroups$History"
  | 3 => .array (.object "WordGroups$Dictionary")
  | 4 => .object "WordGroups$Nodes"
  | _ => .int
theorem nmX5 : ∀ a, a < 6 → ∀ b, b < 6 → a ≠ b → (TX5 a).2.1 ≠ (TX5 b).2.1 := by decide +kernel
theorem tyX5_ok : ∀ k, k < 6 → parseFieldDescriptor (TX5 k).2.2.1 = some (tyX5 k) := by decide +kernel
def RJ9 : String := "java/lang/Math"
def RL : String := "WordGroupsLaw"
abbrev cX0_init : ByteArray := prog_2_method_1_code
def yX0_init : MethodName := ⟨RX0, "<init>", "()V"⟩
abbrev cX0_live : ByteArray := prog_2_method_2_code
def yX0_live : MethodName := ⟨RX0, "live", "()LWordGroups$Items;"⟩
abbrev cX0_family : ByteArray := prog_2_method_3_code
def yX0_family : MethodName := ⟨RX0, "family", "(I)LWordGroups$Items;"⟩
abbrev cX0_costs : ByteArray := prog_2_method_4_code
def yX0_costs : MethodName := ⟨RX0, "costs", "()I"⟩
abbrev cX0_rebuildings : ByteArray := prog_2_method_5_code
def yX0_rebuildings : MethodName := ⟨RX0, "rebuildings", "()I"⟩
abbrev cX0_copy : ByteArray := prog_2_method_6_code
def yX0_copy : MethodName := ⟨RX0, "copy", "(LWordGroups$Dictionary;)V"⟩
abbrev cX0_enter : ByteArray := prog_2_method_7_code
def yX0_enter : MethodName := ⟨RX0, "enter", "(II)I"⟩
abbrev cX0_drop : ByteArray := prog_2_method_8_code
def yX0_drop : MethodName := ⟨RX0, "drop", "(I)I"⟩
abbrev cX0_renew : ByteArray := prog_2_method_9_code
def yX0_renew : MethodName := ⟨RX0, "renew", "()I"⟩
abbrev cX0_leastGroupFor : ByteArray := prog_2_method_10_code
def yX0_leastGroupFor : MethodName := ⟨RX0, "leastGroupFor", "(I)I"⟩
abbrev cX1_init : ByteArray := prog_3_method_1_code
def yX1_init : MethodName := ⟨RX1, "<init>", "()V"⟩
abbrev cX1_size : ByteArray := prog_3_method_2_code
def yX1_size : MethodName := ⟨RX1, "size", "()I"⟩
abbrev cX1_record : ByteArray := prog_3_method_3_code
def yX1_record : MethodName := ⟨RX1, "record", "(LWordGroups$Dictionary;)V"⟩
abbrev cX1_restore : ByteArray := prog_3_method_4_code
def yX1_restore : MethodName := ⟨RX1, "restore", "(LWordGroups$Dictionary;)V"⟩
abbrev cX2_init : ByteArray := prog_4_method_1_code
def yX2_init : MethodName := ⟨RX2, "<init>", "()V"⟩
abbrev cX2_size : ByteArray := prog_4_method_2_code
def yX2_size : MethodName := ⟨RX2, "size", "()I"⟩
abbrev cX2_codeAt : ByteArray := prog_4_method_3_code
def yX2_codeAt : MethodName := ⟨RX2, "codeAt", "(I)I"⟩
abbrev cX2_weightAt : ByteArray := prog_4_method_4_code
def yX2_weightAt : MethodName := ⟨RX2, "weightAt", "(I)I"⟩
abbrev cX2_indexOf : ByteArray := prog_4_method_5_code
def yX2_indexOf : MethodName := ⟨RX2, "indexOf", "(I)I"⟩
abbrev cX2_startOf : ByteArray := prog_4_method_6_code
def yX2_startOf : MethodName := ⟨RX2, "startOf", "(I)I"⟩
abbrev cX2_sizeOf : ByteArray := prog_4_method_7_code
def yX2_sizeOf : MethodName := ⟨RX2, "sizeOf", "(I)I"⟩
abbrev cX2_lettersIn : ByteArray := prog_4_method_8_code
def yX2_lettersIn : MethodName := ⟨RX2, "lettersIn", "(I)I"⟩
abbrev cX2_weightsIn : ByteArray := prog_4_method_9_code
def yX2_weightsIn : MethodName := ⟨RX2, "weightsIn", "(I)I"⟩
abbrev cX2_groupsInUse : ByteArray := prog_4_method_10_code
def yX2_groupsInUse : MethodName := ⟨RX2, "groupsInUse", "()I"⟩
abbrev cX2_makeEmpty : ByteArray := prog_4_method_11_code
def yX2_makeEmpty : MethodName := ⟨RX2, "makeEmpty", "()V"⟩
abbrev cX2_copy : ByteArray := prog_4_method_12_code
def yX2_copy : MethodName := ⟨RX2, "copy", "(LWordGroups$Items;)V"⟩
abbrev cX2_add : ByteArray := prog_4_method_13_code
def yX2_add : MethodName := ⟨RX2, "add", "(III)V"⟩
abbrev cX2_takeOut : ByteArray := prog_4_method_14_code
def yX2_takeOut : MethodName := ⟨RX2, "takeOut", "(I)V"⟩
abbrev cX2_put : ByteArray := prog_4_method_15_code
def yX2_put : MethodName := ⟨RX2, "put", "(II)I"⟩
abbrev cX2_leastEmptyGroup : ByteArray := prog_4_method_16_code
def yX2_leastEmptyGroup : MethodName := ⟨RX2, "leastEmptyGroup", "()I"⟩
abbrev cX2_moveDown : ByteArray := prog_4_method_17_code
def yX2_moveDown : MethodName := ⟨RX2, "moveDown", "(I)V"⟩
abbrev cX2_isLess : ByteArray := prog_4_method_18_code
def yX2_isLess : MethodName := ⟨RX2, "isLess", "(II)Z"⟩
abbrev cX2_swap : ByteArray := prog_4_method_19_code
def yX2_swap : MethodName := ⟨RX2, "swap", "(II)V"⟩
abbrev cX3_init : ByteArray := prog_5_method_1_code
def yX3_init : MethodName := ⟨RX3, "<init>", "()V"⟩
abbrev cX3_size : ByteArray := prog_5_method_2_code
def yX3_size : MethodName := ⟨RX3, "size", "()I"⟩
abbrev cX3_read : ByteArray := prog_5_method_3_code
def yX3_read : MethodName := ⟨RX3, "read", "(LWordGroups$Items;I)V"⟩
abbrev cX3_has : ByteArray := prog_5_method_4_code
def yX3_has : MethodName := ⟨RX3, "has", "(I)Z"⟩
abbrev cX3_failureLetters : ByteArray := prog_5_method_5_code
def yX3_failureLetters : MethodName := ⟨RX3, "failureLetters", "()I"⟩
abbrev cX3_failureOf : ByteArray := prog_5_method_6_code
def yX3_failureOf : MethodName := ⟨RX3, "failureOf", "(I)I"⟩
abbrev cX3_addBeginnings : ByteArray := prog_5_method_7_code
def yX3_addBeginnings : MethodName := ⟨RX3, "addBeginnings", "(I)V"⟩
abbrev cX3_add : ByteArray := prog_5_method_8_code
def yX3_add : MethodName := ⟨RX3, "add", "(I)V"⟩
abbrev cX3_numberOf : ByteArray := prog_5_method_9_code
def yX3_numberOf : MethodName := ⟨RX3, "numberOf", "(I)I"⟩
abbrev cX4_init : ByteArray := prog_6_method_1_code
def yX4_init : MethodName := ⟨RX4, "<init>", "()V"⟩
abbrev cX4_length : ByteArray := prog_6_method_2_code
def yX4_length : MethodName := ⟨RX4, "length", "()I"⟩
abbrev cX4_makeEmpty : ByteArray := prog_6_method_3_code
def yX4_makeEmpty : MethodName := ⟨RX4, "makeEmpty", "()V"⟩
abbrev cX4_append : ByteArray := prog_6_method_4_code
def yX4_append : MethodName := ⟨RX4, "append", "(I)V"⟩
abbrev cX4_letterAt : ByteArray := prog_6_method_5_code
def yX4_letterAt : MethodName := ⟨RX4, "letterAt", "(I)I"⟩
abbrev cX4_ending : ByteArray := prog_6_method_6_code
def yX4_ending : MethodName := ⟨RX4, "ending", "(II)I"⟩
abbrev cX4_hasEnding : ByteArray := prog_6_method_7_code
def yX4_hasEnding : MethodName := ⟨RX4, "hasEnding", "(II)Z"⟩
abbrev cX4_occurrences : ByteArray := prog_6_method_8_code
def yX4_occurrences : MethodName := ⟨RX4, "occurrences", "(I)I"⟩
abbrev cX4_matchesAt : ByteArray := prog_6_method_9_code
def yX4_matchesAt : MethodName := ⟨RX4, "matchesAt", "(ILWordGroups$Items;)I"⟩
abbrev cX4_weightAt : ByteArray := prog_6_method_10_code
def yX4_weightAt : MethodName := ⟨RX4, "weightAt", "(ILWordGroups$Items;)I"⟩
abbrev cX4_longestCodeAt : ByteArray := prog_6_method_11_code
def yX4_longestCodeAt : MethodName := ⟨RX4, "longestCodeAt", "(ILWordGroups$Items;)I"⟩
abbrev cX4_covers : ByteArray := prog_6_method_12_code
def yX4_covers : MethodName := ⟨RX4, "covers", "(ILWordGroups$Items;)Z"⟩
abbrev cX4_matches : ByteArray := prog_6_method_13_code
def yX4_matches : MethodName := ⟨RX4, "matches", "(LWordGroups$Items;)I"⟩
abbrev cX4_weightOfMatches : ByteArray := prog_6_method_14_code
def yX4_weightOfMatches : MethodName := ⟨RX4, "weightOfMatches", "(LWordGroups$Items;)I"⟩
abbrev cX4_coveredLetters : ByteArray := prog_6_method_15_code
def yX4_coveredLetters : MethodName := ⟨RX4, "coveredLetters", "(LWordGroups$Items;)I"⟩
abbrev cX4_heaviestPosition : ByteArray := prog_6_method_16_code
def yX4_heaviestPosition : MethodName := ⟨RX4, "heaviestPosition", "(LWordGroups$Items;)I"⟩
abbrev cX4_divisionWeight : ByteArray := prog_6_method_17_code
def yX4_divisionWeight : MethodName := ⟨RX4, "divisionWeight", "(LWordGroups$Items;)I"⟩
abbrev cX4_divisionMatches : ByteArray := prog_6_method_18_code
def yX4_divisionMatches : MethodName := ⟨RX4, "divisionMatches", "(LWordGroups$Items;)I"⟩
abbrev cX4_divide : ByteArray := prog_6_method_19_code
def yX4_divide : MethodName := ⟨RX4, "divide", "(LWordGroups$Items;)V"⟩
abbrev cX4_offer : ByteArray := prog_6_method_20_code
def yX4_offer : MethodName := ⟨RX4, "offer", "(III)V"⟩
abbrev cX4_longestAt : ByteArray := prog_6_method_21_code
def yX4_longestAt : MethodName := ⟨RX4, "longestAt", "(ILWordGroups$Items;)I"⟩
abbrev cX4_matchAt : ByteArray := prog_6_method_22_code
def yX4_matchAt : MethodName := ⟨RX4, "matchAt", "(IILWordGroups$Items;)I"⟩
abbrev cX5_init : ByteArray := prog_1_method_1_code
def yX5_init : MethodName := ⟨RX5, "<init>", "()V"⟩
abbrev cX5_spell : ByteArray := prog_1_method_4_code
def yX5_spell : MethodName := ⟨RX5, "spell", "(I)I"⟩
abbrev cX5_type : ByteArray := prog_1_method_5_code
def yX5_type : MethodName := ⟨RX5, "type", "()I"⟩
abbrev cX5_clear : ByteArray := prog_1_method_6_code
def yX5_clear : MethodName := ⟨RX5, "clear", "()I"⟩
abbrev cX5_insert : ByteArray := prog_1_method_7_code
def yX5_insert : MethodName := ⟨RX5, "insert", "(I)I"⟩
abbrev cX5_remove : ByteArray := prog_1_method_8_code
def yX5_remove : MethodName := ⟨RX5, "remove", "()I"⟩
abbrev cX5_weigh : ByteArray := prog_1_method_9_code
def yX5_weigh : MethodName := ⟨RX5, "weigh", "(I)I"⟩
abbrev cX5_rebuild : ByteArray := prog_1_method_10_code
def yX5_rebuild : MethodName := ⟨RX5, "rebuild", "()I"⟩
abbrev cX5_undo : ByteArray := prog_1_method_11_code
def yX5_undo : MethodName := ⟨RX5, "undo", "()I"⟩
abbrev cX5_told : ByteArray := prog_1_method_12_code
def yX5_told : MethodName := ⟨RX5, "told", "(I)I"⟩
abbrev cX5_word : ByteArray := prog_1_method_13_code
def yX5_word : MethodName := ⟨RX5, "word", "(II)I"⟩
abbrev cX5_group : ByteArray := prog_1_method_14_code
def yX5_group : MethodName := ⟨RX5, "group", "(III)I"⟩
abbrev cX5_item : ByteArray := prog_1_method_15_code
def yX5_item : MethodName := ⟨RX5, "item", "(IIII)I"⟩
abbrev cX5_at : ByteArray := prog_1_method_17_code
def yX5_at : MethodName := ⟨RX5, "at", "(II)I"⟩
abbrev cX5_total : ByteArray := prog_1_method_18_code
def yX5_total : MethodName := ⟨RX5, "total", "(I)I"⟩
abbrev cX5_find : ByteArray := prog_1_method_19_code
def yX5_find : MethodName := ⟨RX5, "find", "(II)I"⟩
abbrev cX5_mean : ByteArray := prog_1_method_20_code
def yX5_mean : MethodName := ⟨RX5, "mean", "()F"⟩
abbrev cX5_keep : ByteArray := prog_1_method_21_code
def yX5_keep : MethodName := ⟨RX5, "keep", "(I)I"⟩
abbrev cX5_back : ByteArray := prog_1_method_22_code
def yX5_back : MethodName := ⟨RX5, "back", "(I)I"⟩
abbrev cX5_isWeight : ByteArray := prog_1_method_23_code
def yX5_isWeight : MethodName := ⟨RX5, "isWeight", "(I)Z"⟩
abbrev cX5_isGroup : ByteArray := prog_1_method_24_code
def yX5_isGroup : MethodName := ⟨RX5, "isGroup", "(II)Z"⟩
abbrev cX5_isWord : ByteArray := prog_1_method_25_code
def yX5_isWord : MethodName := ⟨RX5, "isWord", "(I)Z"⟩
abbrev cX5_lettersOf : ByteArray := prog_1_method_26_code
def yX5_lettersOf : MethodName := ⟨RX5, "lettersOf", "(I)I"⟩
abbrev cL_cell : ByteArray := method_2_code
def yL_cell : MethodName := ⟨RL, "cell", "([II)I"⟩
abbrev cL_low : ByteArray := method_3_code
def yL_low : MethodName := ⟨RL, "low", "(II)I"⟩
abbrev cL_spell : ByteArray := method_4_code
def yL_spell : MethodName := ⟨RL, "spell", "(LWordGroups;I)I"⟩
abbrev cL_change : ByteArray := method_5_code
def yL_change : MethodName := ⟨RL, "change", "(LWordGroups;II)I"⟩
abbrev cL_areGroups : ByteArray := method_6_code
def yL_areGroups : MethodName := ⟨RL, "areGroups", "(LWordGroups;)Z"⟩
abbrev cL_size : ByteArray := method_7_code
def yL_size : MethodName := ⟨RL, "size", "(I)I"⟩
abbrev cL_isLive : ByteArray := method_8_code
def yL_isLive : MethodName := ⟨RL, "isLive", "(LWordGroups;II)Z"⟩
abbrev cL_areMatches : ByteArray := method_9_code
def yL_areMatches : MethodName := ⟨RL, "areMatches", "(LWordGroups;)Z"⟩
abbrev cL_areAlike : ByteArray := method_10_code
def yL_areAlike : MethodName := ⟨RL, "areAlike", "(LWordGroups;LWordGroups;)Z"⟩
abbrev cL_law : ByteArray := code
def yL_law : MethodName := ⟨RL, "law", "([I)Z"⟩
abbrev vwCl : List vw_C := [(RX0, TX0, 5), (RX1, TX1, 3), (RX2, TX2, 4), (RX3, TX3, 4), (RX4, TX4, 4), (RX5, TX5, 6)]
def cN : List String := [RX0, RX1, RX2, RX3, RX4, RX5, RJ9, RL]
abbrev MI : Type := MethodName × ByteArray × Nat × Option FieldType × Nat × Nat
def mtab_0 : List (MI) := [(yX0_init, cX0_init, 1, none, 0, 2),
  (yX0_live, cX0_live, 1, (some (.object "WordGroups$Items")), 0, 1),
  (yX0_family, cX0_family, 2, (some (.object "WordGroups$Items")), 0, 1),
  (yX0_costs, cX0_costs, 1, (some .int), 0, 1),
  (yX0_rebuildings, cX0_rebuildings, 1, (some .int), 0, 1),
  (yX0_copy, cX0_copy, 2, none, 0, 1),
  (yX0_enter, cX0_enter, 4, (some .int), 0, 1),
  (yX0_drop, cX0_drop, 3, (some .int), 0, 1),
  (yX0_renew, cX0_renew, 3, (some .int), 0, 1),
  (yX0_leastGroupFor, cX0_leastGroupFor, 2, (some .int), 0, 0),
  (yX1_init, cX1_init, 1, none, 1, 2),
  (yX1_size, cX1_size, 1, (some .int), 1, 1),
  (yX1_record, cX1_record, 3, none, 1, 1),
  (yX1_restore, cX1_restore, 3, none, 1, 1),
  (yX2_init, cX2_init, 1, none, 2, 2),
  (yX2_size, cX2_size, 1, (some .int), 2, 1),
  (yX2_codeAt, cX2_codeAt, 2, (some .int), 2, 1),
  (yX2_weightAt, cX2_weightAt, 2, (some .int), 2, 1),
  (yX2_indexOf, cX2_indexOf, 3, (some .int), 2, 1),
  (yX2_startOf, cX2_startOf, 4, (some .int), 2, 1),
  (yX2_sizeOf, cX2_sizeOf, 2, (some .int), 2, 1),
  (yX2_lettersIn, cX2_lettersIn, 4, (some .int), 2, 1),
  (yX2_weightsIn, cX2_weightsIn, 4, (some .int), 2, 1),
  (yX2_groupsInUse, cX2_groupsInUse, 3, (some .int), 2, 1),
  (yX2_makeEmpty, cX2_makeEmpty, 1, none, 2, 1),
  (yX2_copy, cX2_copy, 3, none, 2, 1),
  (yX2_add, cX2_add, 4, none, 2, 1),
  (yX2_takeOut, cX2_takeOut, 3, none, 2, 1),
  (yX2_put, cX2_put, 5, (some .int), 2, 1),
  (yX2_leastEmptyGroup, cX2_leastEmptyGroup, 2, (some .int), 2, 1),
  (yX2_moveDown, cX2_moveDown, 3, none, 2, 1),
  (yX2_isLess, cX2_isLess, 3, (some .boolean), 2, 1),
  (yX2_swap, cX2_swap, 6, none, 2, 1),
  (yX3_init, cX3_init, 1, none, 3, 2),
  (yX3_size, cX3_size, 1, (some .int), 3, 1),
  (yX3_read, cX3_read, 6, none, 3, 1),
  (yX3_has, cX3_has, 3, (some .boolean), 3, 1),
  (yX3_failureLetters, cX3_failureLetters, 3, (some .int), 3, 1),
  (yX3_failureOf, cX3_failureOf, 3, (some .int), 3, 1),
  (yX3_addBeginnings, cX3_addBeginnings, 3, none, 3, 1)]
def mtab_1 : List (MI) := [(yX3_add, cX3_add, 3, none, 3, 1),
  (yX3_numberOf, cX3_numberOf, 4, (some .int), 3, 0),
  (yX4_init, cX4_init, 1, none, 4, 2),
  (yX4_length, cX4_length, 1, (some .int), 4, 1),
  (yX4_makeEmpty, cX4_makeEmpty, 1, none, 4, 1),
  (yX4_append, cX4_append, 3, none, 4, 1),
  (yX4_letterAt, cX4_letterAt, 2, (some .int), 4, 1),
  (yX4_ending, cX4_ending, 5, (some .int), 4, 1),
  (yX4_hasEnding, cX4_hasEnding, 3, (some .boolean), 4, 1),
  (yX4_occurrences, cX4_occurrences, 4, (some .int), 4, 1),
  (yX4_matchesAt, cX4_matchesAt, 5, (some .int), 4, 1),
  (yX4_weightAt, cX4_weightAt, 6, (some .int), 4, 1),
  (yX4_longestCodeAt, cX4_longestCodeAt, 4, (some .int), 4, 1),
  (yX4_covers, cX4_covers, 4, (some .boolean), 4, 1),
  (yX4_matches, cX4_matches, 4, (some .int), 4, 1),
  (yX4_weightOfMatches, cX4_weightOfMatches, 4, (some .int), 4, 1),
  (yX4_coveredLetters, cX4_coveredLetters, 5, (some .int), 4, 1),
  (yX4_heaviestPosition, cX4_heaviestPosition, 6, (some .int), 4, 1),
  (yX4_divisionWeight, cX4_divisionWeight, 2, (some .int), 4, 1),
  (yX4_divisionMatches, cX4_divisionMatches, 2, (some .int), 4, 1),
  (yX4_divide, cX4_divide, 5, none, 4, 1),
  (yX4_offer, cX4_offer, 6, none, 4, 1),
  (yX4_longestAt, cX4_longestAt, 4, (some .int), 4, 1),
  (yX4_matchAt, cX4_matchAt, 4, (some .int), 4, 1),
  (yX5_init, cX5_init, 1, none, 5, 2),
  (yX5_spell, cX5_spell, 2, (some .int), 5, 1),
  (yX5_type, cX5_type, 1, (some .int), 5, 1),
  (yX5_clear, cX5_clear, 2, (some .int), 5, 1),
  (yX5_insert, cX5_insert, 2, (some .int), 5, 1),
  (yX5_remove, cX5_remove, 2, (some .int), 5, 1),
  (yX5_weigh, cX5_weigh, 4, (some .int), 5, 1),
  (yX5_rebuild, cX5_rebuild, 1, (some .int), 5, 1),
  (yX5_undo, cX5_undo, 1, (some .int), 5, 1),
  (yX5_told, cX5_told, 2, (some .int), 5, 1),
  (yX5_word, cX5_word, 4, (some .int), 5, 1),
  (yX5_group, cX5_group, 5, (some .int), 5, 1),
  (yX5_item, cX5_item, 7, (some .int), 5, 1),
  (yX5_at, cX5_at, 4, (some .int), 5, 1),
  (yX5_total, cX5_total, 3, (some .int), 5, 1),
  (yX5_find, cX5_find, 7, (some .int), 5, 1)]
def mtab_2 : List (MI) := [(yX5_mean, cX5_mean, 2, (some .float), 5, 1),
  (yX5_keep, cX5_keep, 3, (some .int), 5, 1),
  (yX5_back, cX5_back, 3, (some .int), 5, 1),
  (yX5_isWeight, cX5_isWeight, 1, (some .boolean), 5, 0),
  (yX5_isGroup, cX5_isGroup, 2, (some .boolean), 5, 0),
  (yX5_isWord, cX5_isWord, 2, (some .boolean), 5, 0),
  (yX5_lettersOf, cX5_lettersOf, 3, (some .int), 5, 0),
  (yL_cell, cL_cell, 2, (some .int), 7, 0),
  (yL_low, cL_low, 2, (some .int), 7, 0),
  (yL_spell, cL_spell, 5, (some .int), 7, 0),
  (yL_change, cL_change, 5, (some .int), 7, 0),
  (yL_areGroups, cL_areGroups, 11, (some .boolean), 7, 0),
  (yL_size, cL_size, 3, (some .int), 7, 0),
  (yL_isLive, cL_isLive, 9, (some .boolean), 7, 0),
  (yL_areMatches, cL_areMatches, 10, (some .boolean), 7, 0),
  (yL_areAlike, cL_areAlike, 4, (some .boolean), 7, 0),
  (yL_law, cL_law, 8, (some .boolean), 7, 0)]
def mtab : List (MI) := mtab_0 ++ mtab_1 ++ mtab_2
abbrev Op : Type := Nat × Int × Nat × Nat × List (Int × Nat)
def k_0 : List Op := [(4, 0, 0, 0, []), (31, 0, 0, 0, []), (4, 0, 0, 0, []), (17, 0, 2, 0, []), (18, 0, 0, 0, []), (25, 2, 14, 1, []), (9, 0, 0, 0, []), (4, 0, 0, 0, []), (17, 0, 2, 0, []), (18, 0, 0, 0, []), (25, 2, 14, 1, []), (9, 0, 0, 1, []), (4, 0, 0, 0, []), (17, 0, 2, 0, []), (18, 0, 0, 0, []), (25, 2, 14, 1, []), (9, 0, 0, 2, []), (4, 0, 0, 0, []), (0, 0, 0, 0, []), (9, 0, 0, 3, []), (4, 0, 0, 0, []), (0, 0, 0, 0, []), (9, 0, 0, 4, []), (26, 0, 0, 0, [])]
def p_0 : List Nat := [0, 1, 4, 5, 8, 9, 12, 15, 16, 19, 20, 23, 26, 27, 30, 31, 34, 37, 38, 39, 42, 43, 44, 47]
def k_1 : List Op := [(4, 0, 0, 0, []), (8, 0, 0, 0, []), (29, 0, 0, 0, [])]
def p_1 : List Nat := [0, 1, 4]
def k_2 : List Op := [(1, 0, 1, 0, []), (51, 0, 5, 0, []), (4, 0, 0, 0, []), (8, 0, 0, 1, []), (7, 0, 7, 0, []), (4, 0, 0, 0, []), (8, 0, 0, 2, []), (29, 0, 0, 0, [])]
def p_2 : List Nat := [0, 1, 4, 5, 8, 11, 12, 15]
def k_3 : List Op := [(4, 0, 0, 0, []), (8, 0, 0, 3, []), (27, 0, 0, 0, [])]
def p_3 : List Nat := [0, 1, 4]
def k_4 : List Op := [(4, 0, 0, 0, []), (8, 0, 0, 4, []), (27, 0, 0, 0, [])]
def p_4 : List Nat := [0, 1, 4]
def k_5 : List Op := [(4, 0, 0, 0, []), (8, 0, 0, 0, []), (4, 0, 1, 0, []), (8, 0, 0, 0, []), (24, 2, 25, 2, []), (4, 0, 0, 0, []), (8, 0, 0, 1, []), (4, 0, 1, 0, []), (8, 0, 0, 1, []), (24, 2, 25, 2, []), (4, 0, 0, 0, []), (8, 0, 0, 2, []), (4, 0, 1, 0, []), (8, 0, 0, 2, []), (24, 2, 25, 2, []), (4, 0, 0, 0, []), (4, 0, 1, 0, []), (8, 0, 0, 3, []), (9, 0, 0, 3, []), (4, 0, 0, 0, []), (4, 0, 1, 0, []), (8, 0, 0, 4, []), (9, 0, 0, 4, []), (26, 0, 0, 0, [])]
def p_5 : List Nat := [0, 1, 4, 5, 8, 11, 12, 15, 16, 19, 22, 23, 26, 27, 30, 33, 34, 35, 38, 41, 42, 43, 46, 49]
def k_6 : List Op := [(4, 0, 0, 0, []), (8, 0, 0, 0, []), (0, 0, 0, 0, []), (1, 0, 1, 0, []), (1, 0, 2, 0, []), (24, 2, 26, 4, []), (4, 0, 0, 0, []), (8, 0, 0, 1, []), (1, 0, 1, 0, []), (1, 0, 2, 0, []), (24, 2, 28, 3, []), (2, 0, 3, 0, []), (4, 0, 0, 0, []), (18, 0, 0, 0, []), (8, 0, 0, 3, []), (4, 0, 0, 0, []), (8, 0, 0, 1, []), (1, 0, 3, 0, []), (24, 2, 21, 2, []), (40, 0, 0, 0, []), (9, 0, 0, 3, []), (1, 0, 3, 0, []), (27, 0, 0, 0, [])]
def p_6 : List Nat := [0, 1, 4, 5, 6, 7, 10, 11, 14, 15, 16, 19, 20, 21, 22, 25, 26, 29, 30, 33, 34, 37, 38]
def k_7 : List Op := [(4, 0, 0, 0, []), (8, 0, 0, 2, []), (4, 0, 0, 0, []), (8, 0, 0, 0, []), (1, 0, 1, 0, []), (24, 2, 16, 2, []), (4, 0, 0, 0, []), (8, 0, 0, 0, []), (1, 0, 1, 0, []), (24, 2, 17, 2, []), (24, 2, 28, 3, []), (2, 0, 2, 0, []), (4, 0, 0, 0, []), (18, 0, 0, 0, []), (8, 0, 0, 3, []), (4, 0, 0, 0, []), (8, 0, 0, 2, []), (1, 0, 2, 0, []), (24, 2, 21, 2, []), (40, 0, 0, 0, []), (9, 0, 0, 3, []), (4, 0, 0, 0, []), (8, 0, 0, 0, []), (1, 0, 1, 0, []), (24, 2, 27, 2, []), (0, 2, 0, 0, []), (4, 0, 0, 0, []), (8, 0, 0, 2, []), (24, 2, 15, 1, []), (42, 0, 0, 0, []), (4, 0, 0, 0, []), (8, 0, 0, 1, []), (24, 2, 15, 1, []), (64, 0, 36, 0, []), (1, 0, 2, 0, []), (27, 0, 0, 0, []), (4, 0, 0, 0, []), (24, 0, 8, 1, []), (19, 0, 0, 0, []), (4, 0, 0, 0, []), (8, 0, 0, 0, []), (24, 2, 15, 1, []), (51, 0, 45, 0, []), (0, 20, 0, 0, []), (7, 0, 51, 0, []), (0, 10, 0, 0, []), (4, 0, 0, 0, []), (8, 0, 0, 0, []), (24, 2, 15, 1, []), (23, 0, 9, 1, []), (40, 0, 0, 0, []), (27, 0, 0, 0, [])]
def p_7 : List Nat := [0, 1, 4, 5, 8, 9, 12, 13, 16, 17, 20, 23, 24, 25, 26, 29, 30, 33, 34, 37, 38, 41, 42, 45, 46, 49, 50, 51, 54, 57, 58, 59, 62, 65, 68, 69, 70, 71, 74, 75, 76, 79, 82, 85, 87, 90, 92, 93, 96, 99, 102, 103]
def k_8 : List Op := [(4, 0, 0, 0, []), (8, 0, 0, 1, []), (24, 2, 24, 1, []), (4, 0, 0, 0, []), (8, 0, 0, 2, []), (24, 2, 24, 1, []), (4, 0, 0, 0, []), (8, 0, 0, 0, []), (24, 2, 15, 1, []), (23, 0, 9, 1, []), (2, 0, 1, 0, []), (0, 0, 0, 0, []), (2, 0, 2, 0, []), (1, 0, 2, 0, []), (4, 0, 0, 0, []), (8, 0, 0, 0, []), (24, 2, 15, 1, []), (63, 0, 32, 0, []), (4, 0, 0, 0, []), (8, 0, 0, 1, []), (1, 0, 1, 0, []), (4, 0, 0, 0, []), (8, 0, 0, 0, []), (1, 0, 2, 0, []), (24, 2, 16, 2, []), (4, 0, 0, 0, []), (8, 0, 0, 0, []), (1, 0, 2, 0, []), (24, 2, 17, 2, []), (24, 2, 26, 4, []), (3, 1, 2, 0, []), (7, 0, 13, 0, []), (4, 0, 0, 0, []), (8, 0, 0, 1, []), (1, 0, 1, 0, []), (24, 2, 21, 2, []), (2, 0, 2, 0, []), (4, 0, 0, 0, []), (18, 0, 0, 0, []), (8, 0, 0, 3, []), (1, 0, 2, 0, []), (40, 0, 0, 0, []), (9, 0, 0, 3, []), (4, 0, 0, 0, []), (18, 0, 0, 0, []), (8, 0, 0, 4, []), (0, 1, 0, 0, []), (40, 0, 0, 0, []), (9, 0, 0, 4, []), (1, 0, 2, 0, []), (27, 0, 0, 0, [])]
def p_8 : List Nat := [0, 1, 4, 7, 8, 11, 14, 15, 18, 21, 24, 25, 26, 27, 28, 29, 32, 35, 38, 39, 42, 43, 44, 47, 48, 51, 52, 55, 56, 59, 62, 65, 68, 69, 72, 73, 76, 77, 78, 79, 82, 83, 84, 87, 88, 89, 92, 93, 94, 97, 98]
def k_9 : List Op := [(0, 0, 0, 0, []), (2, 0, 1, 0, []), (1, 0, 1, 0, []), (0, 6, 0, 0, []), (63, 0, 12, 0, []), (0, 1, 0, 0, []), (1, 0, 1, 0, []), (47, 0, 0, 0, []), (1, 0, 0, 0, []), (63, 0, 12, 0, []), (3, 1, 1, 0, []), (7, 0, 2, 0, []), (1, 0, 1, 0, []), (27, 0, 0, 0, [])]
def p_9 : List Nat := [0, 1, 2, 3, 5, 8, 9, 10, 11, 12, 15, 18, 21, 22]
def k_10 : List Op := [(4, 0, 0, 0, []), (31, 0, 0, 0, []), (4, 0, 0, 0, []), (0, 8, 0, 0, []), (16, 0, 0, 0, []), (9, 0, 1, 0, []), (4, 0, 0, 0, []), (0, 0, 0, 0, []), (9, 0, 1, 1, []), (4, 0, 0, 0, []), (0, 0, 0, 0, []), (9, 0, 1, 2, []), (26, 0, 0, 0, [])]
def p_10 : List Nat := [0, 1, 4, 5, 7, 10, 13, 14, 15, 18, 19, 20, 23]
def k_11 : List Op := [(4, 0, 0, 0, []), (8, 0, 1, 2, []), (27, 0, 0, 0, [])]
def p_11 : List Nat := [0, 1, 4]
def k_12 : List Op := [(4, 0, 0, 0, []), (8, 0, 1, 0, []), (4, 0, 0, 0, []), (8, 0, 1, 1, []), (12, 0, 0, 0, []), (5, 0, 2, 0, []), (4, 0, 2, 0, []), (22, 0, 18, 0, []), (17, 0, 0, 0, []), (18, 0, 0, 0, []), (25, 0, 0, 1, []), (5, 0, 2, 0, []), (4, 0, 0, 0, []), (8, 0, 1, 0, []), (4, 0, 0, 0, []), (8, 0, 1, 1, []), (4, 0, 2, 0, []), (13, 0, 0, 0, []), (4, 0, 2, 0, []), (4, 0, 1, 0, []), (24, 0, 5, 2, []), (4, 0, 0, 0, []), (4, 0, 0, 0, []), (8, 0, 1, 1, []), (0, 1, 0, 0, []), (40, 0, 0, 0, []), (0, 8, 0, 0, []), (63, 0, 33, 0, []), (4, 0, 0, 0, []), (8, 0, 1, 1, []), (0, 1, 0, 0, []), (40, 0, 0, 0, []), (7, 0, 34, 0, []), (0, 0, 0, 0, []), (9, 0, 1, 1, []), (4, 0, 0, 0, []), (4, 0, 0, 0, []), (8, 0, 1, 2, []), (0, 1, 0, 0, []), (40, 0, 0, 0, []), (0, 8, 0, 0, []), (56, 0, 0, 0, []), (9, 0, 1, 2, []), (26, 0, 0, 0, [])]
def p_12 : List Nat := [0, 1, 4, 5, 8, 9, 10, 11, 14, 17, 18, 21, 22, 23, 26, 27, 30, 31, 32, 33, 34, 37, 38, 39, 42, 43, 44, 46, 49, 50, 53, 54, 55, 58, 59, 62, 63, 64, 67, 68, 69, 71, 74, 77]
def k_13 : List Op := [(4, 0, 0, 0, []), (8, 0, 1, 2, []), (51, 0, 4, 0, []), (26, 0, 0, 0, []), (4, 0, 0, 0, []), (4, 0, 0, 0, []), (8, 0, 1, 1, []), (55, 0, 13, 0, []), (4, 0, 0, 0, []), (8, 0, 1, 1, []), (0, 1, 0, 0, []), (41, 0, 0, 0, []), (7, 0, 14, 0, []), (0, 7, 0, 0, []), (9, 0, 1, 1, []), (4, 0, 0, 0, []), (18, 0, 0, 0, []), (8, 0, 1, 2, []), (0, 1, 0, 0, []), (41, 0, 0, 0, []), (9, 0, 1, 2, []), (4, 0, 0, 0, []), (8, 0, 1, 0, []), (4, 0, 0, 0, []), (8, 0, 1, 1, []), (12, 0, 0, 0, []), (5, 0, 2, 0, []), (4, 0, 2, 0, []), (21, 0, 32, 0, []), (4, 0, 1, 0, []), (4, 0, 2, 0, []), (24, 0, 5, 2, []), (26, 0, 0, 0, [])]
def p_13 : List Nat := [0, 1, 4, 7, 8, 9, 10, 13, 16, 17, 20, 21, 22, 25, 27, 30, 31, 32, 35, 36, 37, 40, 41, 44, 45, 48, 49, 50, 51, 54, 55, 56, 59]
def k_14 : List Op := [(4, 0, 0, 0, []), (31, 0, 0, 0, []), (4, 0, 0, 0, []), (0, 48, 0, 0, []), (15, 0, 0, 0, []), (9, 0, 2, 0, []), (4, 0, 0, 0, []), (0, 48, 0, 0, []), (15, 0, 0, 0, []), (9, 0, 2, 1, []), (4, 0, 0, 0, []), (0, 48, 0, 0, []), (15, 0, 0, 0, []), (9, 0, 2, 2, []), (4, 0, 0, 0, []), (0, 0, 0, 0, []), (9, 0, 2, 3, []), (26, 0, 0, 0, [])]
def p_14 : List Nat := [0, 1, 4, 5, 7, 9, 12, 13, 15, 17, 20, 21, 23, 25, 28, 29, 30, 33]
def k_15 : List Op := [(4, 0, 0, 0, []), (8, 0, 2, 3, []), (27, 0, 0, 0, [])]
def p_15 : List Nat := [0, 1, 4]
def k_16 : List Op := [(1, 0, 1, 0, []), (52, 0, 11, 0, []), (1, 0, 1, 0, []), (4, 0, 0, 0, []), (8, 0, 2, 3, []), (63, 0, 11, 0, []), (4, 0, 0, 0, []), (8, 0, 2, 1, []), (1, 0, 1, 0, []), (10, 0, 0, 0, []), (7, 0, 12, 0, []), (0, 0, 0, 0, []), (27, 0, 0, 0, [])]
def p_16 : List Nat := [0, 1, 4, 5, 6, 9, 12, 13, 16, 17, 18, 21, 22]
def k_17 : List Op := [(1, 0, 1, 0, []), (52, 0, 11, 0, []), (1, 0, 1, 0, []), (4, 0, 0, 0, []), (8, 0, 2, 3, []), (63, 0, 11, 0, []), (4, 0, 0, 0, []), (8, 0, 2, 2, []), (1, 0, 1, 0, []), (10, 0, 0, 0, []), (7, 0, 12, 0, []), (0, 0, 0, 0, []), (27, 0, 0, 0, [])]
def p_17 : List Nat := [0, 1, 4, 5, 6, 9, 12, 13, 16, 17, 18, 21, 22]
def k_18 : List Op := [(0, 0, 0, 0, []), (2, 0, 2, 0, []), (1, 0, 2, 0, []), (4, 0, 0, 0, []), (8, 0, 2, 3, []), (63, 0, 22, 0, []), (4, 0, 0, 0, []), (8, 0, 2, 1, []), (1, 0, 2, 0, []), (10, 0, 0, 0, []), (1, 0, 1, 0, []), (64, 0, 22, 0, []), (4, 0, 0, 0, []), (8, 0, 2, 1, []), (1, 0, 2, 0, []), (10, 0, 0, 0, []), (1, 0, 1, 0, []), (61, 0, 20, 0, []), (1, 0, 2, 0, []), (27, 0, 0, 0, []), (3, 1, 2, 0, []), (7, 0, 2, 0, []), (0, -1, 0, 0, []), (27, 0, 0, 0, [])]
def p_18 : List Nat := [0, 1, 2, 3, 4, 7, 10, 11, 14, 15, 16, 17, 20, 21, 24, 25, 26, 27, 30, 31, 32, 35, 38, 39]
def k_19 : List Op := [(0, 0, 0, 0, []), (2, 0, 2, 0, []), (0, 0, 0, 0, []), (2, 0, 3, 0, []), (1, 0, 3, 0, []), (4, 0, 0, 0, []), (8, 0, 2, 3, []), (63, 0, 17, 0, []), (4, 0, 0, 0, []), (8, 0, 2, 0, []), (1, 0, 3, 0, []), (10, 0, 0, 0, []), (1, 0, 1, 0, []), (63, 0, 17, 0, []), (3, 1, 2, 0, []), (3, 1, 3, 0, []), (7, 0, 4, 0, []), (1, 0, 2, 0, []), (27, 0, 0, 0, [])]
def p_19 : List Nat := [0, 1, 2, 3, 4, 5, 6, 9, 12, 13, 16, 17, 18, 19, 22, 25, 28, 31, 32]
def k_20 : List Op := [(4, 0, 0, 0, []), (1, 0, 1, 0, []), (0, 1, 0, 0, []), (40, 0, 0, 0, []), (24, 2, 19, 2, []), (4, 0, 0, 0, []), (1, 0, 1, 0, []), (24, 2, 19, 2, []), (41, 0, 0, 0, []), (27, 0, 0, 0, [])]
def p_20 : List Nat := [0, 1, 2, 3, 4, 7, 8, 9, 12, 13]
def k_21 : List Op := [(0, 0, 0, 0, []), (2, 0, 2, 0, []), (0, 0, 0, 0, []), (2, 0, 3, 0, []), (1, 0, 3, 0, []), (4, 0, 0, 0, []), (8, 0, 2, 3, []), (63, 0, 24, 0, []), (4, 0, 0, 0, []), (8, 0, 2, 0, []), (1, 0, 3, 0, []), (10, 0, 0, 0, []), (1, 0, 1, 0, []), (61, 0, 22, 0, []), (1, 0, 2, 0, []), (4, 0, 0, 0, []), (8, 0, 2, 1, []), (1, 0, 3, 0, []), (10, 0, 0, 0, []), (23, 0, 86, 1, []), (40, 0, 0, 0, []), (2, 0, 2, 0, []), (3, 1, 3, 0, []), (7, 0, 4, 0, []), (1, 0, 2, 0, []), (27, 0, 0, 0, [])]
def p_21 : List Nat := [0, 1, 2, 3, 4, 5, 6, 9, 12, 13, 16, 17, 18, 19, 22, 23, 24, 27, 28, 29, 32, 33, 34, 37, 40, 41]
def k_22 : List Op := [(0, 0, 0, 0, []), (2, 0, 2, 0, []), (0, 0, 0, 0, []), (2, 0, 3, 0, []), (1, 0, 3, 0, []), (4, 0, 0, 0, []), (8, 0, 2, 3, []), (63, 0, 23, 0, []), (4, 0, 0, 0, []), (8, 0, 2, 0, []), (1, 0, 3, 0, []), (10, 0, 0, 0, []), (1, 0, 1, 0, []), (61, 0, 21, 0, []), (1, 0, 2, 0, []), (4, 0, 0, 0, []), (8, 0, 2, 2, []), (1, 0, 3, 0, []), (10, 0, 0, 0, []), (40, 0, 0, 0, []), (2, 0, 2, 0, []), (3, 1, 3, 0, []), (7, 0, 4, 0, []), (1, 0, 2, 0, []), (27, 0, 0, 0, [])]
def p_22 : List Nat := [0, 1, 2, 3, 4, 5, 6, 9, 12, 13, 16, 17, 18, 19, 22, 23, 24, 27, 28, 29, 30, 31, 34, 37, 38]
def k_23 : List Op := [(0, 0, 0, 0, []), (2, 0, 1, 0, []), (0, 0, 0, 0, []), (2, 0, 2, 0, []), (1, 0, 2, 0, []), (0, 7, 0, 0, []), (63, 0, 14, 0, []), (4, 0, 0, 0, []), (1, 0, 2, 0, []), (24, 2, 20, 2, []), (55, 0, 12, 0, []), (3, 1, 1, 0, []), (3, 1, 2, 0, []), (7, 0, 4, 0, []), (1, 0, 1, 0, []), (27, 0, 0, 0, [])]
def p_23 : List Nat := [0, 1, 2, 3, 4, 5, 7, 10, 11, 12, 15, 18, 21, 24, 27, 28]
def k_24 : List Op := [(4, 0, 0, 0, []), (0, 0, 0, 0, []), (9, 0, 2, 3, []), (26, 0, 0, 0, [])]
def p_24 : List Nat := [0, 1, 2, 5]
def k_25 : List Op := [(4, 0, 0, 0, []), (4, 0, 1, 0, []), (8, 0, 2, 3, []), (9, 0, 2, 3, []), (0, 0, 0, 0, []), (2, 0, 2, 0, []), (1, 0, 2, 0, []), (4, 0, 0, 0, []), (8, 0, 2, 3, []), (63, 0, 36, 0, []), (4, 0, 0, 0, []), (8, 0, 2, 0, []), (1, 0, 2, 0, []), (4, 0, 1, 0, []), (8, 0, 2, 0, []), (1, 0, 2, 0, []), (10, 0, 0, 0, []), (11, 0, 0, 0, []), (4, 0, 0, 0, []), (8, 0, 2, 1, []), (1, 0, 2, 0, []), (4, 0, 1, 0, []), (8, 0, 2, 1, []), (1, 0, 2, 0, []), (10, 0, 0, 0, []), (11, 0, 0, 0, []), (4, 0, 0, 0, []), (8, 0, 2, 2, []), (1, 0, 2, 0, []), (4, 0, 1, 0, []), (8, 0, 2, 2, []), (1, 0, 2, 0, []), (10, 0, 0, 0, []), (11, 0, 0, 0, []), (3, 1, 2, 0, []), (7, 0, 6, 0, []), (26, 0, 0, 0, [])]
def p_25 : List Nat := [0, 1, 2, 5, 8, 9, 10, 11, 12, 15, 18, 19, 22, 23, 24, 27, 28, 29, 30, 31, 34, 35, 36, 39, 40, 41, 42, 43, 46, 47, 48, 51, 52, 53, 54, 57, 60]
def k_26 : List Op := [(4, 0, 0, 0, []), (8, 0, 2, 3, []), (0, 48, 0, 0, []), (62, 0, 5, 0, []), (26, 0, 0, 0, []), (4, 0, 0, 0, []), (8, 0, 2, 0, []), (4, 0, 0, 0, []), (8, 0, 2, 3, []), (1, 0, 1, 0, []), (11, 0, 0, 0, []), (4, 0, 0, 0, []), (8, 0, 2, 1, []), (4, 0, 0, 0, []), (8, 0, 2, 3, []), (1, 0, 2, 0, []), (11, 0, 0, 0, []), (4, 0, 0, 0, []), (8, 0, 2, 2, []), (4, 0, 0, 0, []), (8, 0, 2, 3, []), (1, 0, 3, 0, []), (11, 0, 0, 0, []), (4, 0, 0, 0, []), (18, 0, 0, 0, []), (8, 0, 2, 3, []), (0, 1, 0, 0, []), (40, 0, 0, 0, []), (9, 0, 2, 3, []), (4, 0, 0, 0, []), (4, 0, 0, 0, []), (8, 0, 2, 3, []), (0, 1, 0, 0, []), (41, 0, 0, 0, []), (24, 2, 30, 2, []), (26, 0, 0, 0, [])]
def p_26 : List Nat := [0, 1, 4, 6, 9, 10, 11, 14, 15, 18, 19, 20, 21, 24, 25, 28, 29, 30, 31, 34, 35, 38, 39, 40, 41, 42, 45, 46, 47, 50, 51, 52, 55, 56, 57, 60]
def k_27 : List Op := [(1, 0, 1, 0, []), (52, 0, 6, 0, []), (1, 0, 1, 0, []), (4, 0, 0, 0, []), (8, 0, 2, 3, []), (62, 0, 7, 0, []), (26, 0, 0, 0, []), (1, 0, 1, 0, []), (2, 0, 2, 0, []), (1, 0, 2, 0, []), (0, 1, 0, 0, []), (40, 0, 0, 0, []), (4, 0, 0, 0, []), (8, 0, 2, 3, []), (63, 0, 23, 0, []), (4, 0, 0, 0, []), (1, 0, 2, 0, []), (1, 0, 2, 0, []), (0, 1, 0, 0, []), (40, 0, 0, 0, []), (24, 2, 32, 3, []), (3, 1, 2, 0, []), (7, 0, 9, 0, []), (4, 0, 0, 0, []), (18, 0, 0, 0, []), (8, 0, 2, 3, []), (0, 1, 0, 0, []), (41, 0, 0, 0, []), (9, 0, 2, 3, []), (26, 0, 0, 0, [])]
def p_27 : List Nat := [0, 1, 4, 5, 6, 9, 12, 13, 14, 15, 16, 17, 18, 19, 22, 25, 26, 27, 28, 29, 30, 33, 36, 39, 40, 41, 44, 45, 46, 49]
def k_28 : List Op := [(4, 0, 0, 0, []), (24, 2, 29, 1, []), (2, 0, 3, 0, []), (0, 0, 0, 0, []), (2, 0, 4, 0, []), (1, 0, 4, 0, []), (4, 0, 0, 0, []), (8, 0, 2, 3, []), (63, 0, 25, 0, []), (4, 0, 0, 0, []), (8, 0, 2, 0, []), (1, 0, 4, 0, []), (10, 0, 0, 0, []), (1, 0, 3, 0, []), (63, 0, 23, 0, []), (4, 0, 0, 0, []), (8, 0, 2, 0, []), (1, 0, 4, 0, []), (1, 0, 3, 0, []), (11, 0, 0, 0, []), (4, 0, 0, 0, []), (1, 0, 4, 0, []), (24, 2, 30, 2, []), (3, 1, 4, 0, []), (7, 0, 5, 0, []), (4, 0, 0, 0, []), (1, 0, 3, 0, []), (1, 0, 1, 0, []), (1, 0, 2, 0, []), (24, 2, 26, 4, []), (1, 0, 3, 0, []), (27, 0, 0, 0, [])]
def p_28 : List Nat := [0, 1, 4, 5, 6, 8, 10, 11, 14, 17, 18, 21, 23, 24, 25, 28, 29, 32, 34, 35, 36, 37, 39, 42, 45, 48, 49, 50, 51, 52, 55, 56]
def k_29 : List Op := [(0, 0, 0, 0, []), (2, 0, 1, 0, []), (1, 0, 1, 0, []), (0, 7, 0, 0, []), (63, 0, 13, 0, []), (4, 0, 0, 0, []), (1, 0, 1, 0, []), (24, 2, 20, 2, []), (51, 0, 11, 0, []), (1, 0, 1, 0, []), (27, 0, 0, 0, []), (3, 1, 1, 0, []), (7, 0, 2, 0, []), (0, 6, 0, 0, []), (27, 0, 0, 0, [])]
def p_29 : List Nat := [0, 1, 2, 3, 5, 8, 9, 10, 13, 16, 17, 18, 21, 24, 26]
def k_30 : List Op := [(1, 0, 1, 0, []), (2, 0, 2, 0, []), (1, 0, 2, 0, []), (55, 0, 23, 0, []), (1, 0, 2, 0, []), (4, 0, 0, 0, []), (8, 0, 2, 3, []), (63, 0, 23, 0, []), (4, 0, 0, 0, []), (1, 0, 2, 0, []), (1, 0, 2, 0, []), (0, 1, 0, 0, []), (41, 0, 0, 0, []), (24, 2, 31, 3, []), (50, 0, 23, 0, []), (4, 0, 0, 0, []), (1, 0, 2, 0, []), (1, 0, 2, 0, []), (0, 1, 0, 0, []), (41, 0, 0, 0, []), (24, 2, 32, 3, []), (3, -1, 2, 0, []), (7, 0, 2, 0, []), (26, 0, 0, 0, [])]
def p_30 : List Nat := [0, 1, 2, 3, 6, 7, 8, 11, 14, 15, 16, 17, 18, 19, 22, 25, 26, 27, 28, 29, 30, 33, 36, 39]
def k_31 : List Op := [(4, 0, 0, 0, []), (8, 0, 2, 0, []), (1, 0, 1, 0, []), (10, 0, 0, 0, []), (4, 0, 0, 0, []), (8, 0, 2, 0, []), (1, 0, 2, 0, []), (10, 0, 0, 0, []), (60, 0, 22, 0, []), (4, 0, 0, 0, []), (8, 0, 2, 0, []), (1, 0, 1, 0, []), (10, 0, 0, 0, []), (4, 0, 0, 0, []), (8, 0, 2, 0, []), (1, 0, 2, 0, []), (10, 0, 0, 0, []), (63, 0, 20, 0, []), (0, 1, 0, 0, []), (7, 0, 21, 0, []), (0, 0, 0, 0, []), (28, 0, 0, 0, []), (4, 0, 0, 0, []), (8, 0, 2, 1, []), (1, 0, 1, 0, []), (10, 0, 0, 0, []), (4, 0, 0, 0, []), (8, 0, 2, 1, []), (1, 0, 2, 0, []), (10, 0, 0, 0, []), (60, 0, 44, 0, []), (4, 0, 0, 0, []), (8, 0, 2, 1, []), (1, 0, 1, 0, []), (10, 0, 0, 0, []), (4, 0, 0, 0, []), (8, 0, 2, 1, []), (1, 0, 2, 0, []), (10, 0, 0, 0, []), (63, 0, 42, 0, []), (0, 1, 0, 0, []), (7, 0, 43, 0, []), (0, 0, 0, 0, []), (28, 0, 0, 0, []), (4, 0, 0, 0, []), (8, 0, 2, 2, []), (1, 0, 1, 0, []), (10, 0, 0, 0, []), (4, 0, 0, 0, []), (8, 0, 2, 2, []), (1, 0, 2, 0, []), (10, 0, 0, 0, []), (63, 0, 55, 0, []), (0, 1, 0, 0, []), (7, 0, 56, 0, []), (0, 0, 0, 0, []), (28, 0, 0, 0, [])]
def p_31 : List Nat := [0, 1, 4, 5, 6, 7, 10, 11, 12, 15, 16, 19, 20, 21, 22, 25, 26, 27, 30, 31, 34, 35, 36, 37, 40, 41, 42, 43, 46, 47, 48, 51, 52, 55, 56, 57, 58, 61, 62, 63, 66, 67, 70, 71, 72, 73, 76, 77, 78, 79, 82, 83, 84, 87, 88, 91, 92]
def k_32 : List Op := [(4, 0, 0, 0, []), (8, 0, 2, 0, []), (1, 0, 1, 0, []), (10, 0, 0, 0, []), (2, 0, 3, 0, []), (4, 0, 0, 0, []), (8, 0, 2, 1, []), (1, 0, 1, 0, []), (10, 0, 0, 0, []), (2, 0, 4, 0, []), (4, 0, 0, 0, []), (8, 0, 2, 2, []), (1, 0, 1, 0, []), (10, 0, 0, 0, []), (2, 0, 5, 0, []), (4, 0, 0, 0, []), (8, 0, 2, 0, []), (1, 0, 1, 0, []), (4, 0, 0, 0, []), (8, 0, 2, 0, []), (1, 0, 2, 0, []), (10, 0, 0, 0, []), (11, 0, 0, 0, []), (4, 0, 0, 0, []), (8, 0, 2, 1, []), (1, 0, 1, 0, []), (4, 0, 0, 0, []), (8, 0, 2, 1, []), (1, 0, 2, 0, []), (10, 0, 0, 0, []), (11, 0, 0, 0, []), (4, 0, 0, 0, []), (8, 0, 2, 2, []), (1, 0, 1, 0, []), (4, 0, 0, 0, []), (8, 0, 2, 2, []), (1, 0, 2, 0, []), (10, 0, 0, 0, []), (11, 0, 0, 0, []), (4, 0, 0, 0, []), (8, 0, 2, 0, []), (1, 0, 2, 0, []), (1, 0, 3, 0, []), (11, 0, 0, 0, []), (4, 0, 0, 0, []), (8, 0, 2, 1, []), (1, 0, 2, 0, []), (1, 0, 4, 0, []), (11, 0, 0, 0, []), (4, 0, 0, 0, []), (8, 0, 2, 2, []), (1, 0, 2, 0, []), (1, 0, 5, 0, []), (11, 0, 0, 0, []), (26, 0, 0, 0, [])]
def p_32 : List Nat := [0, 1, 4, 5, 6, 7, 8, 11, 12, 13, 15, 16, 19, 20, 21, 23, 24, 27, 28, 29, 32, 33, 34, 35, 36, 39, 40, 41, 44, 45, 46, 47, 48, 51, 52, 53, 56, 57, 58, 59, 60, 63, 64, 65, 66, 67, 70, 71, 73, 74, 75, 78, 79, 81, 82]
def k_33 : List Op := [(4, 0, 0, 0, []), (31, 0, 0, 0, []), (4, 0, 0, 0, []), (0, 5461, 0, 0, []), (15, 0, 0, 0, []), (9, 0, 3, 0, []), (4, 0, 0, 0, []), (0, 289, 0, 0, []), (15, 0, 0, 0, []), (9, 0, 3, 1, []), (4, 0, 0, 0, []), (0, 0, 0, 0, []), (9, 0, 3, 2, []), (4, 0, 0, 0, []), (0, 0, 0, 0, []), (9, 0, 3, 3, []), (26, 0, 0, 0, [])]
def p_33 : List Nat := [0, 1, 4, 5, 8, 10, 13, 14, 17, 19, 22, 23, 24, 27, 28, 29, 32]
def k_34 : List Op := [(4, 0, 0, 0, []), (8, 0, 3, 3, []), (27, 0, 0, 0, [])]
def p_34 : List Nat := [0, 1, 4]
def k_35 : List Op := [(4, 0, 0, 0, []), (18, 0, 0, 0, []), (8, 0, 3, 2, []), (0, 1, 0, 0, []), (40, 0, 0, 0, []), (9, 0, 3, 2, []), (4, 0, 0, 0, []), (0, 0, 0, 0, []), (9, 0, 3, 3, []), (4, 0, 1, 0, []), (1, 0, 2, 0, []), (24, 2, 19, 2, []), (2, 0, 3, 0, []), (4, 0, 1, 0, []), (1, 0, 2, 0, []), (0, 1, 0, 0, []), (40, 0, 0, 0, []), (24, 2, 19, 2, []), (2, 0, 4, 0, []), (1, 0, 3, 0, []), (1, 0, 4, 0, []), (63, 0, 25, 0, []), (4, 0, 0, 0, []), (0, 0, 0, 0, []), (24, 3, 40, 2, []), (1, 0, 3, 0, []), (2, 0, 5, 0, []), (1, 0, 5, 0, []), (1, 0, 4, 0, []), (63, 0, 37, 0, []), (4, 0, 0, 0, []), (4, 0, 1, 0, []), (1, 0, 5, 0, []), (24, 2, 16, 2, []), (24, 3, 39, 2, []), (3, 1, 5, 0, []), (7, 0, 27, 0, []), (26, 0, 0, 0, [])]
def p_35 : List Nat := [0, 1, 2, 5, 6, 7, 10, 11, 12, 15, 16, 17, 20, 21, 22, 23, 24, 25, 28, 30, 31, 33, 36, 37, 38, 41, 42, 44, 46, 48, 51, 52, 53, 55, 58, 61, 64, 67]
def k_36 : List Op := [(1, 0, 1, 0, []), (23, 0, 41, 1, []), (2, 0, 2, 0, []), (1, 0, 2, 0, []), (52, 0, 17, 0, []), (1, 0, 2, 0, []), (0, 5461, 0, 0, []), (63, 0, 17, 0, []), (4, 0, 0, 0, []), (8, 0, 3, 0, []), (1, 0, 2, 0, []), (10, 0, 0, 0, []), (4, 0, 0, 0, []), (8, 0, 3, 2, []), (61, 0, 17, 0, []), (0, 1, 0, 0, []), (7, 0, 18, 0, []), (0, 0, 0, 0, []), (28, 0, 0, 0, [])]
def p_36 : List Nat := [0, 1, 4, 5, 6, 9, 10, 13, 16, 17, 20, 21, 22, 23, 26, 29, 30, 33, 34]
def k_37 : List Op := [(0, 0, 0, 0, []), (2, 0, 1, 0, []), (0, 0, 0, 0, []), (2, 0, 2, 0, []), (1, 0, 2, 0, []), (4, 0, 0, 0, []), (8, 0, 3, 3, []), (63, 0, 20, 0, []), (1, 0, 1, 0, []), (4, 0, 0, 0, []), (4, 0, 0, 0, []), (8, 0, 3, 1, []), (1, 0, 2, 0, []), (10, 0, 0, 0, []), (24, 3, 38, 2, []), (23, 0, 86, 1, []), (40, 0, 0, 0, []), (2, 0, 1, 0, []), (3, 1, 2, 0, []), (7, 0, 4, 0, []), (1, 0, 1, 0, []), (27, 0, 0, 0, [])]
def p_37 : List Nat := [0, 1, 2, 3, 4, 5, 6, 9, 12, 13, 14, 15, 18, 19, 20, 23, 26, 27, 28, 31, 34, 35]
def k_38 : List Op := [(0, 100000, 0, 0, []), (2, 0, 2, 0, []), (1, 0, 2, 0, []), (0, 1, 0, 0, []), (65, 0, 23, 0, []), (1, 0, 2, 0, []), (1, 0, 1, 0, []), (64, 0, 18, 0, []), (4, 0, 0, 0, []), (1, 0, 1, 0, []), (1, 0, 2, 0, []), (44, 0, 0, 0, []), (24, 3, 36, 2, []), (50, 0, 18, 0, []), (1, 0, 1, 0, []), (1, 0, 2, 0, []), (44, 0, 0, 0, []), (27, 0, 0, 0, []), (1, 0, 2, 0, []), (0, 10, 0, 0, []), (43, 0, 0, 0, []), (2, 0, 2, 0, []), (7, 0, 2, 0, []), (0, 0, 0, 0, []), (27, 0, 0, 0, [])]
def p_38 : List Nat := [0, 2, 3, 4, 5, 8, 9, 10, 13, 14, 15, 16, 17, 20, 23, 24, 25, 26, 27, 28, 30, 31, 32, 35, 36]
def k_39 : List Op := [(1, 0, 1, 0, []), (2, 0, 2, 0, []), (1, 0, 2, 0, []), (55, 0, 16, 0, []), (4, 0, 0, 0, []), (1, 0, 2, 0, []), (24, 3, 36, 2, []), (51, 0, 16, 0, []), (4, 0, 0, 0, []), (1, 0, 2, 0, []), (24, 3, 40, 2, []), (1, 0, 2, 0, []), (0, 10, 0, 0, []), (43, 0, 0, 0, []), (2, 0, 2, 0, []), (7, 0, 2, 0, []), (26, 0, 0, 0, [])]
def p_39 : List Nat := [0, 1, 2, 3, 6, 7, 8, 11, 14, 15, 16, 19, 20, 22, 23, 24, 27]
def k_40 : List Op := [(1, 0, 1, 0, []), (23, 0, 41, 1, []), (2, 0, 2, 0, []), (1, 0, 2, 0, []), (52, 0, 14, 0, []), (1, 0, 2, 0, []), (0, 5461, 0, 0, []), (63, 0, 14, 0, []), (4, 0, 0, 0, []), (8, 0, 3, 3, []), (4, 0, 0, 0, []), (8, 0, 3, 1, []), (14, 0, 0, 0, []), (62, 0, 15, 0, []), (26, 0, 0, 0, []), (4, 0, 0, 0, []), (8, 0, 3, 0, []), (1, 0, 2, 0, []), (4, 0, 0, 0, []), (8, 0, 3, 2, []), (11, 0, 0, 0, []), (4, 0, 0, 0, []), (8, 0, 3, 1, []), (4, 0, 0, 0, []), (8, 0, 3, 3, []), (1, 0, 1, 0, []), (11, 0, 0, 0, []), (4, 0, 0, 0, []), (18, 0, 0, 0, []), (8, 0, 3, 3, []), (0, 1, 0, 0, []), (40, 0, 0, 0, []), (9, 0, 3, 3, []), (26, 0, 0, 0, [])]
def p_40 : List Nat := [0, 1, 4, 5, 6, 9, 10, 13, 16, 17, 20, 21, 24, 25, 28, 29, 30, 33, 34, 35, 38, 39, 40, 43, 44, 47, 48, 49, 50, 51, 54, 55, 56, 59]
def k_41 : List Op := [(0, 0, 0, 0, []), (2, 0, 1, 0, []), (0, 1, 0, 0, []), (2, 0, 2, 0, []), (1, 0, 0, 0, []), (2, 0, 3, 0, []), (1, 0, 3, 0, []), (55, 0, 25, 0, []), (1, 0, 1, 0, []), (1, 0, 3, 0, []), (0, 10, 0, 0, []), (44, 0, 0, 0, []), (1, 0, 2, 0, []), (42, 0, 0, 0, []), (40, 0, 0, 0, []), (2, 0, 1, 0, []), (1, 0, 2, 0, []), (0, 4, 0, 0, []), (42, 0, 0, 0, []), (2, 0, 2, 0, []), (1, 0, 3, 0, []), (0, 10, 0, 0, []), (43, 0, 0, 0, []), (2, 0, 3, 0, []), (7, 0, 6, 0, []), (1, 0, 1, 0, []), (27, 0, 0, 0, [])]
def p_41 : List Nat := [0, 1, 2, 3, 4, 5, 6, 7, 10, 11, 12, 14, 15, 16, 17, 18, 19, 20, 21, 22, 23, 24, 26, 27, 28, 31, 32]
def k_42 : List Op := [(4, 0, 0, 0, []), (31, 0, 0, 0, []), (4, 0, 0, 0, []), (0, 60, 0, 0, []), (15, 0, 0, 0, []), (9, 0, 4, 0, []), (4, 0, 0, 0, []), (0, 0, 0, 0, []), (9, 0, 4, 1, []), (4, 0, 0, 0, []), (0, 61, 0, 0, []), (15, 0, 0, 0, []), (9, 0, 4, 2, []), (4, 0, 0, 0, []), (0, 61, 0, 0, []), (15, 0, 0, 0, []), (9, 0, 4, 3, []), (26, 0, 0, 0, [])]
def p_42 : List Nat := [0, 1, 4, 5, 7, 9, 12, 13, 14, 17, 18, 20, 22, 25, 26, 28, 30, 33]
def k_43 : List Op := [(4, 0, 0, 0, []), (8, 0, 4, 1, []), (27, 0, 0, 0, [])]
def p_43 : List Nat := [0, 1, 4]
def k_44 : List Op := [(4, 0, 0, 0, []), (0, 0, 0, 0, []), (9, 0, 4, 1, []), (26, 0, 0, 0, [])]
def p_44 : List Nat := [0, 1, 2, 5]
def k_45 : List Op := [(0, 100000, 0, 0, []), (2, 0, 2, 0, []), (1, 0, 2, 0, []), (55, 0, 34, 0, []), (1, 0, 2, 0, []), (1, 0, 1, 0, []), (64, 0, 29, 0, []), (4, 0, 0, 0, []), (8, 0, 4, 1, []), (0, 60, 0, 0, []), (63, 0, 29, 0, []), (4, 0, 0, 0, []), (8, 0, 4, 0, []), (4, 0, 0, 0, []), (8, 0, 4, 1, []), (1, 0, 1, 0, []), (1, 0, 2, 0, []), (43, 0, 0, 0, []), (0, 10, 0, 0, []), (44, 0, 0, 0, []), (0, 1, 0, 0, []), (41, 0, 0, 0, []), (11, 0, 0, 0, []), (4, 0, 0, 0, []), (18, 0, 0, 0, []), (8, 0, 4, 1, []), (0, 1, 0, 0, []), (40, 0, 0, 0, []), (9, 0, 4, 1, []), (1, 0, 2, 0, []), (0, 10, 0, 0, []), (43, 0, 0, 0, []), (2, 0, 2, 0, []), (7, 0, 2, 0, []), (26, 0, 0, 0, [])]
def p_45 : List Nat := [0, 2, 3, 4, 7, 8, 9, 12, 13, 16, 18, 21, 22, 25, 26, 29, 30, 31, 32, 34, 35, 36, 37, 38, 39, 40, 43, 44, 45, 48, 49, 51, 52, 53, 56]
def k_46 : List Op := [(1, 0, 1, 0, []), (52, 0, 11, 0, []), (1, 0, 1, 0, []), (4, 0, 0, 0, []), (8, 0, 4, 1, []), (63, 0, 11, 0, []), (4, 0, 0, 0, []), (8, 0, 4, 0, []), (1, 0, 1, 0, []), (10, 0, 0, 0, []), (7, 0, 12, 0, []), (0, 0, 0, 0, []), (27, 0, 0, 0, [])]
def p_46 : List Nat := [0, 1, 4, 5, 6, 9, 12, 13, 16, 17, 18, 21, 22]
def k_47 : List Op := [(1, 0, 2, 0, []), (1, 0, 1, 0, []), (65, 0, 5, 0, []), (0, 0, 0, 0, []), (27, 0, 0, 0, []), (0, 0, 0, 0, []), (2, 0, 3, 0, []), (1, 0, 1, 0, []), (1, 0, 2, 0, []), (41, 0, 0, 0, []), (2, 0, 4, 0, []), (1, 0, 4, 0, []), (1, 0, 1, 0, []), (63, 0, 26, 0, []), (1, 0, 3, 0, []), (0, 10, 0, 0, []), (42, 0, 0, 0, []), (4, 0, 0, 0, []), (1, 0, 4, 0, []), (24, 4, 46, 2, []), (40, 0, 0, 0, []), (0, 1, 0, 0, []), (40, 0, 0, 0, []), (2, 0, 3, 0, []), (3, 1, 4, 0, []), (7, 0, 11, 0, []), (1, 0, 3, 0, []), (27, 0, 0, 0, [])]
def p_47 : List Nat := [0, 1, 2, 5, 6, 7, 8, 9, 10, 11, 12, 14, 16, 17, 20, 21, 23, 24, 25, 27, 30, 31, 32, 33, 34, 37, 40, 41]
def k_48 : List Op := [(4, 0, 0, 0, []), (1, 0, 1, 0, []), (0, 1, 0, 0, []), (40, 0, 0, 0, []), (1, 0, 2, 0, []), (23, 0, 86, 1, []), (24, 4, 47, 3, []), (1, 0, 2, 0, []), (61, 0, 11, 0, []), (0, 1, 0, 0, []), (7, 0, 12, 0, []), (0, 0, 0, 0, []), (28, 0, 0, 0, [])]
def p_48 : List Nat := [0, 1, 2, 3, 4, 5, 8, 11, 12, 15, 16, 19, 20]
def k_49 : List Op := [(0, 0, 0, 0, []), (2, 0, 2, 0, []), (0, 0, 0, 0, []), (2, 0, 3, 0, []), (1, 0, 3, 0, []), (4, 0, 0, 0, []), (8, 0, 4, 1, []), (63, 0, 16, 0, []), (4, 0, 0, 0, []), (1, 0, 3, 0, []), (1, 0, 1, 0, []), (24, 4, 48, 3, []), (50, 0, 14, 0, []), (3, 1, 2, 0, []), (3, 1, 3, 0, []), (7, 0, 4, 0, []), (1, 0, 2, 0, []), (27, 0, 0, 0, [])]
def p_49 : List Nat := [0, 1, 2, 3, 4, 5, 6, 9, 12, 13, 14, 15, 18, 21, 24, 27, 30, 31]
def k_50 : List Op := [(0, 0, 0, 0, []), (2, 0, 3, 0, []), (0, 1, 0, 0, []), (2, 0, 4, 0, []), (1, 0, 4, 0, []), (0, 6, 0, 0, []), (64, 0, 16, 0, []), (4, 0, 0, 0, []), (1, 0, 1, 0, []), (1, 0, 4, 0, []), (4, 0, 2, 0, []), (24, 4, 63, 4, []), (52, 0, 14, 0, []), (3, 1, 3, 0, []), (3, 1, 4, 0, []), (7, 0, 4, 0, []), (1, 0, 3, 0, []), (27, 0, 0, 0, [])]
def p_50 : List Nat := [0, 1, 2, 3, 5, 7, 9, 12, 13, 14, 16, 17, 20, 23, 26, 29, 32, 33]
def k_51 : List Op := [(0, 0, 0, 0, []), (2, 0, 3, 0, []), (0, 1, 0, 0, []), (2, 0, 4, 0, []), (1, 0, 4, 0, []), (0, 6, 0, 0, []), (64, 0, 23, 0, []), (4, 0, 0, 0, []), (1, 0, 1, 0, []), (1, 0, 4, 0, []), (4, 0, 2, 0, []), (24, 4, 63, 4, []), (2, 0, 5, 0, []), (1, 0, 5, 0, []), (52, 0, 21, 0, []), (1, 0, 3, 0, []), (4, 0, 2, 0, []), (1, 0, 5, 0, []), (24, 2, 17, 2, []), (40, 0, 0, 0, []), (2, 0, 3, 0, []), (3, 1, 4, 0, []), (7, 0, 4, 0, []), (1, 0, 3, 0, []), (27, 0, 0, 0, [])]
def p_51 : List Nat := [0, 1, 2, 3, 5, 7, 9, 12, 13, 14, 16, 17, 20, 22, 24, 27, 28, 29, 31, 34, 35, 36, 39, 42, 43]
def k_52 : List Op := [(4, 0, 0, 0, []), (1, 0, 1, 0, []), (4, 0, 2, 0, []), (24, 4, 62, 3, []), (2, 0, 3, 0, []), (1, 0, 3, 0, []), (51, 0, 9, 0, []), (0, -9999, 0, 0, []), (7, 0, 15, 0, []), (4, 0, 0, 0, []), (1, 0, 1, 0, []), (0, 1, 0, 0, []), (40, 0, 0, 0, []), (1, 0, 3, 0, []), (24, 4, 47, 3, []), (27, 0, 0, 0, [])]
def p_52 : List Nat := [0, 1, 2, 3, 6, 7, 8, 11, 14, 17, 18, 19, 20, 21, 22, 25]
def k_53 : List Op := [(1, 0, 1, 0, []), (2, 0, 3, 0, []), (1, 0, 3, 0, []), (1, 0, 1, 0, []), (0, 6, 0, 0, []), (40, 0, 0, 0, []), (63, 0, 23, 0, []), (1, 0, 3, 0, []), (4, 0, 0, 0, []), (8, 0, 4, 1, []), (63, 0, 23, 0, []), (4, 0, 0, 0, []), (1, 0, 3, 0, []), (4, 0, 2, 0, []), (24, 4, 62, 3, []), (1, 0, 3, 0, []), (1, 0, 1, 0, []), (41, 0, 0, 0, []), (65, 0, 21, 0, []), (0, 1, 0, 0, []), (28, 0, 0, 0, []), (3, 1, 3, 0, []), (7, 0, 2, 0, []), (0, 0, 0, 0, []), (28, 0, 0, 0, [])]
def p_53 : List Nat := [0, 1, 2, 3, 4, 6, 7, 10, 11, 12, 15, 18, 19, 20, 21, 24, 25, 26, 27, 30, 31, 32, 35, 38, 39]
def k_54 : List Op := [(0, 0, 0, 0, []), (2, 0, 2, 0, []), (0, 0, 0, 0, []), (2, 0, 3, 0, []), (1, 0, 3, 0, []), (4, 0, 0, 0, []), (8, 0, 4, 1, []), (63, 0, 17, 0, []), (1, 0, 2, 0, []), (4, 0, 0, 0, []), (1, 0, 3, 0, []), (4, 0, 1, 0, []), (24, 4, 50, 3, []), (40, 0, 0, 0, []), (2, 0, 2, 0, []), (3, 1, 3, 0, []), (7, 0, 4, 0, []), (1, 0, 2, 0, []), (27, 0, 0, 0, [])]
def p_54 : List Nat := [0, 1, 2, 3, 4, 5, 6, 9, 12, 13, 14, 15, 16, 19, 20, 21, 24, 27, 28]
def k_55 : List Op := [(0, 0, 0, 0, []), (2, 0, 2, 0, []), (0, 0, 0, 0, []), (2, 0, 3, 0, []), (1, 0, 3, 0, []), (4, 0, 0, 0, []), (8, 0, 4, 1, []), (63, 0, 17, 0, []), (1, 0, 2, 0, []), (4, 0, 0, 0, []), (1, 0, 3, 0, []), (4, 0, 1, 0, []), (24, 4, 51, 3, []), (40, 0, 0, 0, []), (2, 0, 2, 0, []), (3, 1, 3, 0, []), (7, 0, 4, 0, []), (1, 0, 2, 0, []), (27, 0, 0, 0, [])]
def p_55 : List Nat := [0, 1, 2, 3, 4, 5, 6, 9, 12, 13, 14, 15, 16, 19, 20, 21, 24, 27, 28]
def k_56 : List Op := [(0, 0, 0, 0, []), (2, 0, 2, 0, []), (0, 0, 0, 0, []), (2, 0, 3, 0, []), (4, 0, 0, 0, []), (8, 0, 4, 1, []), (0, 1, 0, 0, []), (41, 0, 0, 0, []), (2, 0, 4, 0, []), (1, 0, 4, 0, []), (52, 0, 25, 0, []), (1, 0, 3, 0, []), (0, 1, 0, 0, []), (41, 0, 0, 0, []), (4, 0, 0, 0, []), (1, 0, 4, 0, []), (4, 0, 1, 0, []), (24, 4, 62, 3, []), (49, 0, 0, 0, []), (2, 0, 3, 0, []), (1, 0, 3, 0, []), (55, 0, 23, 0, []), (3, 1, 2, 0, []), (3, -1, 4, 0, []), (7, 0, 9, 0, []), (1, 0, 2, 0, []), (27, 0, 0, 0, [])]
def p_56 : List Nat := [0, 1, 2, 3, 4, 5, 8, 9, 10, 12, 14, 17, 18, 19, 20, 21, 23, 24, 27, 30, 31, 32, 35, 38, 41, 44, 45]
def k_57 : List Op := [(0, -9999, 0, 0, []), (2, 0, 2, 0, []), (0, 0, 0, 0, []), (2, 0, 3, 0, []), (0, 0, 0, 0, []), (2, 0, 4, 0, []), (1, 0, 4, 0, []), (4, 0, 0, 0, []), (8, 0, 4, 1, []), (63, 0, 27, 0, []), (4, 0, 0, 0, []), (1, 0, 4, 0, []), (4, 0, 1, 0, []), (24, 4, 51, 3, []), (2, 0, 5, 0, []), (1, 0, 2, 0, []), (0, -9999, 0, 0, []), (60, 0, 21, 0, []), (1, 0, 5, 0, []), (1, 0, 3, 0, []), (65, 0, 25, 0, []), (1, 0, 4, 0, []), (2, 0, 2, 0, []), (1, 0, 5, 0, []), (2, 0, 3, 0, []), (3, 1, 4, 0, []), (7, 0, 6, 0, []), (1, 0, 2, 0, []), (27, 0, 0, 0, [])]
def p_57 : List Nat := [0, 3, 4, 5, 6, 7, 9, 11, 12, 15, 18, 19, 21, 22, 25, 27, 28, 31, 34, 36, 37, 40, 42, 43, 45, 46, 49, 52, 53]
def k_58 : List Op := [(4, 0, 0, 0, []), (4, 0, 1, 0, []), (24, 4, 60, 2, []), (4, 0, 0, 0, []), (8, 0, 4, 2, []), (4, 0, 0, 0, []), (8, 0, 4, 1, []), (10, 0, 0, 0, []), (27, 0, 0, 0, [])]
def p_58 : List Nat := [0, 1, 2, 5, 6, 9, 10, 13, 14]
def k_59 : List Op := [(4, 0, 0, 0, []), (4, 0, 1, 0, []), (24, 4, 60, 2, []), (4, 0, 0, 0, []), (8, 0, 4, 3, []), (4, 0, 0, 0, []), (8, 0, 4, 1, []), (10, 0, 0, 0, []), (27, 0, 0, 0, [])]
def p_59 : List Nat := [0, 1, 2, 5, 6, 9, 10, 13, 14]
def k_60 : List Op := [(4, 0, 0, 0, []), (8, 0, 4, 2, []), (0, 0, 0, 0, []), (0, 0, 0, 0, []), (11, 0, 0, 0, []), (4, 0, 0, 0, []), (8, 0, 4, 3, []), (0, 0, 0, 0, []), (0, 0, 0, 0, []), (11, 0, 0, 0, []), (0, 1, 0, 0, []), (2, 0, 2, 0, []), (1, 0, 2, 0, []), (4, 0, 0, 0, []), (8, 0, 4, 1, []), (64, 0, 79, 0, []), (4, 0, 0, 0, []), (8, 0, 4, 2, []), (1, 0, 2, 0, []), (4, 0, 0, 0, []), (8, 0, 4, 2, []), (1, 0, 2, 0, []), (0, 1, 0, 0, []), (41, 0, 0, 0, []), (10, 0, 0, 0, []), (11, 0, 0, 0, []), (4, 0, 0, 0, []), (8, 0, 4, 3, []), (1, 0, 2, 0, []), (4, 0, 0, 0, []), (8, 0, 4, 3, []), (1, 0, 2, 0, []), (0, 1, 0, 0, []), (41, 0, 0, 0, []), (10, 0, 0, 0, []), (11, 0, 0, 0, []), (0, 1, 0, 0, []), (2, 0, 3, 0, []), (1, 0, 3, 0, []), (0, 6, 0, 0, []), (64, 0, 77, 0, []), (1, 0, 3, 0, []), (1, 0, 2, 0, []), (64, 0, 77, 0, []), (4, 0, 0, 0, []), (1, 0, 2, 0, []), (0, 1, 0, 0, []), (41, 0, 0, 0, []), (1, 0, 3, 0, []), (4, 0, 1, 0, []), (24, 4, 63, 4, []), (2, 0, 4, 0, []), (1, 0, 4, 0, []), (52, 0, 75, 0, []), (4, 0, 0, 0, []), (1, 0, 2, 0, []), (4, 0, 0, 0, []), (8, 0, 4, 2, []), (1, 0, 2, 0, []), (1, 0, 3, 0, []), (41, 0, 0, 0, []), (10, 0, 0, 0, []), (4, 0, 1, 0, []), (1, 0, 4, 0, []), (24, 2, 17, 2, []), (40, 0, 0, 0, []), (4, 0, 0, 0, []), (8, 0, 4, 3, []), (1, 0, 2, 0, []), (1, 0, 3, 0, []), (41, 0, 0, 0, []), (10, 0, 0, 0, []), (0, 1, 0, 0, []), (40, 0, 0, 0, []), (24, 4, 61, 4, []), (3, 1, 3, 0, []), (7, 0, 38, 0, []), (3, 1, 2, 0, []), (7, 0, 12, 0, []), (26, 0, 0, 0, [])]
def p_60 : List Nat := [0, 1, 4, 5, 6, 7, 8, 11, 12, 13, 14, 15, 16, 17, 18, 21, 24, 25, 28, 29, 30, 33, 34, 35, 36, 37, 38, 39, 42, 43, 44, 47, 48, 49, 50, 51, 52, 53, 54, 55, 57, 60, 61, 62, 65, 66, 67, 68, 69, 70, 71, 74, 76, 78, 81, 82, 83, 84, 87, 88, 89, 90, 91, 92, 94, 97, 98, 99, 102, 103, 104, 105, 106, 107, 108, 111, 114, 117, 120, 123]
def k_61 : List Op := [(1, 0, 2, 0, []), (4, 0, 0, 0, []), (8, 0, 4, 2, []), (1, 0, 1, 0, []), (10, 0, 0, 0, []), (65, 0, 8, 0, []), (0, 1, 0, 0, []), (7, 0, 9, 0, []), (0, 0, 0, 0, []), (2, 0, 4, 0, []), (1, 0, 2, 0, []), (4, 0, 0, 0, []), (8, 0, 4, 2, []), (1, 0, 1, 0, []), (10, 0, 0, 0, []), (61, 0, 24, 0, []), (1, 0, 3, 0, []), (4, 0, 0, 0, []), (8, 0, 4, 3, []), (1, 0, 1, 0, []), (10, 0, 0, 0, []), (63, 0, 24, 0, []), (0, 1, 0, 0, []), (7, 0, 25, 0, []), (0, 0, 0, 0, []), (2, 0, 5, 0, []), (1, 0, 4, 0, []), (51, 0, 30, 0, []), (1, 0, 5, 0, []), (50, 0, 40, 0, []), (4, 0, 0, 0, []), (8, 0, 4, 2, []), (1, 0, 1, 0, []), (1, 0, 2, 0, []), (11, 0, 0, 0, []), (4, 0, 0, 0, []), (8, 0, 4, 3, []), (1, 0, 1, 0, []), (1, 0, 3, 0, []), (11, 0, 0, 0, []), (26, 0, 0, 0, [])]
def p_61 : List Nat := [0, 1, 2, 5, 6, 7, 10, 11, 14, 15, 17, 18, 19, 22, 23, 24, 27, 28, 29, 32, 33, 34, 37, 38, 41, 42, 44, 46, 49, 51, 54, 55, 58, 59, 60, 61, 62, 65, 66, 67, 68]
def k_62 : List Op := [(0, 6, 0, 0, []), (2, 0, 3, 0, []), (1, 0, 3, 0, []), (55, 0, 14, 0, []), (4, 0, 0, 0, []), (1, 0, 1, 0, []), (1, 0, 3, 0, []), (4, 0, 2, 0, []), (24, 4, 63, 4, []), (52, 0, 12, 0, []), (1, 0, 3, 0, []), (27, 0, 0, 0, []), (3, -1, 3, 0, []), (7, 0, 2, 0, []), (0, 0, 0, 0, []), (27, 0, 0, 0, [])]
def p_62 : List Nat := [0, 2, 3, 4, 7, 8, 9, 10, 11, 14, 17, 18, 19, 22, 25, 26]
def k_63 : List Op := [(4, 0, 3, 0, []), (4, 0, 0, 0, []), (1, 0, 1, 0, []), (0, 1, 0, 0, []), (40, 0, 0, 0, []), (1, 0, 2, 0, []), (24, 4, 47, 3, []), (24, 2, 18, 2, []), (27, 0, 0, 0, [])]
def p_63 : List Nat := [0, 1, 2, 3, 4, 5, 6, 9, 12]
def k_64 : List Op := [(4, 0, 0, 0, []), (31, 0, 0, 0, []), (4, 0, 0, 0, []), (17, 0, 4, 0, []), (18, 0, 0, 0, []), (25, 4, 42, 1, []), (9, 0, 5, 0, []), (4, 0, 0, 0, []), (17, 0, 0, 0, []), (18, 0, 0, 0, []), (25, 0, 0, 1, []), (9, 0, 5, 1, []), (4, 0, 0, 0, []), (17, 0, 1, 0, []), (18, 0, 0, 0, []), (25, 1, 10, 1, []), (9, 0, 5, 2, []), (4, 0, 0, 0, []), (0, 2, 0, 0, []), (16, 0, 0, 0, []), (9, 0, 5, 3, []), (4, 0, 0, 0, []), (17, 0, 3, 0, []), (18, 0, 0, 0, []), (25, 3, 33, 1, []), (9, 0, 5, 4, []), (4, 0, 0, 0, []), (0, 0, 0, 0, []), (9, 0, 5, 5, []), (26, 0, 0, 0, [])]
def p_64 : List Nat := [0, 1, 4, 5, 8, 9, 12, 15, 16, 19, 20, 23, 26, 27, 30, 31, 34, 37, 38, 39, 42, 45, 46, 49, 50, 53, 56, 57, 58, 61]
def k_65 : List Op := [(1, 0, 1, 0, []), (23, 0, 85, 1, []), (51, 0, 5, 0, []), (0, -1, 0, 0, []), (27, 0, 0, 0, []), (4, 0, 0, 0, []), (1, 0, 1, 0, []), (9, 0, 5, 5, []), (4, 0, 0, 0, []), (8, 0, 5, 5, []), (23, 0, 86, 1, []), (27, 0, 0, 0, [])]
def p_65 : List Nat := [0, 1, 4, 7, 8, 9, 10, 11, 14, 15, 18, 21]
def k_66 : List Op := [(4, 0, 0, 0, []), (8, 0, 5, 5, []), (51, 0, 5, 0, []), (0, -2, 0, 0, []), (27, 0, 0, 0, []), (4, 0, 0, 0, []), (8, 0, 5, 0, []), (24, 4, 43, 1, []), (4, 0, 0, 0, []), (8, 0, 5, 5, []), (23, 0, 86, 1, []), (40, 0, 0, 0, []), (0, 60, 0, 0, []), (65, 0, 16, 0, []), (0, -3, 0, 0, []), (27, 0, 0, 0, []), (4, 0, 0, 0, []), (8, 0, 5, 0, []), (4, 0, 0, 0, []), (8, 0, 5, 5, []), (24, 4, 45, 2, []), (4, 0, 0, 0, []), (8, 0, 5, 0, []), (24, 4, 43, 1, []), (27, 0, 0, 0, [])]
def p_66 : List Nat := [0, 1, 4, 7, 9, 10, 11, 14, 17, 18, 21, 24, 25, 27, 30, 32, 33, 34, 37, 38, 41, 44, 45, 48, 51]
def k_67 : List Op := [(4, 0, 0, 0, []), (8, 0, 5, 0, []), (24, 4, 43, 1, []), (2, 0, 1, 0, []), (4, 0, 0, 0, []), (8, 0, 5, 0, []), (24, 4, 44, 1, []), (1, 0, 1, 0, []), (27, 0, 0, 0, [])]
def p_67 : List Nat := [0, 1, 4, 7, 8, 9, 12, 15, 16]
def k_68 : List Op := [(1, 0, 1, 0, []), (23, 0, 83, 1, []), (51, 0, 5, 0, []), (0, -1, 0, 0, []), (27, 0, 0, 0, []), (4, 0, 0, 0, []), (8, 0, 5, 5, []), (50, 0, 15, 0, []), (4, 0, 0, 0, []), (8, 0, 5, 1, []), (24, 0, 1, 1, []), (4, 0, 0, 0, []), (8, 0, 5, 5, []), (24, 2, 18, 2, []), (52, 0, 17, 0, []), (0, -2, 0, 0, []), (27, 0, 0, 0, []), (4, 0, 0, 0, []), (8, 0, 5, 1, []), (24, 0, 1, 1, []), (24, 2, 15, 1, []), (0, 24, 0, 0, []), (62, 0, 25, 0, []), (0, -3, 0, 0, []), (27, 0, 0, 0, []), (4, 0, 0, 0, []), (8, 0, 5, 2, []), (4, 0, 0, 0, []), (8, 0, 5, 1, []), (24, 1, 12, 2, []), (4, 0, 0, 0, []), (8, 0, 5, 1, []), (4, 0, 0, 0, []), (8, 0, 5, 5, []), (1, 0, 1, 0, []), (24, 0, 6, 3, []), (27, 0, 0, 0, [])]
def p_68 : List Nat := [0, 1, 4, 7, 8, 9, 10, 13, 16, 17, 20, 23, 24, 27, 30, 33, 35, 36, 37, 40, 43, 46, 48, 51, 53, 54, 55, 58, 59, 62, 65, 66, 69, 70, 73, 74, 77]
def k_69 : List Op := [(4, 0, 0, 0, []), (8, 0, 5, 1, []), (24, 0, 1, 1, []), (4, 0, 0, 0, []), (8, 0, 5, 5, []), (24, 2, 18, 2, []), (2, 0, 1, 0, []), (1, 0, 1, 0, []), (53, 0, 11, 0, []), (0, -2, 0, 0, []), (27, 0, 0, 0, []), (4, 0, 0, 0, []), (8, 0, 5, 2, []), (4, 0, 0, 0, []), (8, 0, 5, 1, []), (24, 1, 12, 2, []), (4, 0, 0, 0, []), (8, 0, 5, 1, []), (1, 0, 1, 0, []), (24, 0, 7, 2, []), (27, 0, 0, 0, [])]
def p_69 : List Nat := [0, 1, 4, 7, 8, 11, 14, 15, 16, 19, 21, 22, 23, 26, 27, 30, 33, 34, 37, 38, 41]
def k_70 : List Op := [(1, 0, 1, 0, []), (23, 0, 83, 1, []), (51, 0, 5, 0, []), (0, -1, 0, 0, []), (27, 0, 0, 0, []), (4, 0, 0, 0, []), (8, 0, 5, 1, []), (24, 0, 1, 1, []), (4, 0, 0, 0, []), (8, 0, 5, 5, []), (24, 2, 18, 2, []), (2, 0, 2, 0, []), (1, 0, 2, 0, []), (53, 0, 16, 0, []), (0, -2, 0, 0, []), (27, 0, 0, 0, []), (4, 0, 0, 0, []), (8, 0, 5, 1, []), (24, 0, 1, 1, []), (1, 0, 2, 0, []), (24, 2, 17, 2, []), (2, 0, 3, 0, []), (4, 0, 0, 0, []), (8, 0, 5, 2, []), (4, 0, 0, 0, []), (8, 0, 5, 1, []), (24, 1, 12, 2, []), (4, 0, 0, 0, []), (8, 0, 5, 1, []), (1, 0, 2, 0, []), (24, 0, 7, 2, []), (19, 0, 0, 0, []), (4, 0, 0, 0, []), (8, 0, 5, 1, []), (4, 0, 0, 0, []), (8, 0, 5, 5, []), (1, 0, 1, 0, []), (24, 0, 6, 3, []), (19, 0, 0, 0, []), (0, 100, 0, 0, []), (1, 0, 3, 0, []), (40, 0, 0, 0, []), (27, 0, 0, 0, [])]
def p_70 : List Nat := [0, 1, 4, 7, 8, 9, 10, 13, 16, 17, 20, 23, 24, 25, 28, 30, 31, 32, 35, 38, 39, 42, 43, 44, 47, 48, 51, 54, 55, 58, 59, 62, 63, 64, 67, 68, 71, 72, 75, 76, 78, 79, 80]
def k_71 : List Op := [(4, 0, 0, 0, []), (8, 0, 5, 2, []), (4, 0, 0, 0, []), (8, 0, 5, 1, []), (24, 1, 12, 2, []), (4, 0, 0, 0, []), (8, 0, 5, 1, []), (24, 0, 8, 1, []), (27, 0, 0, 0, [])]
def p_71 : List Nat := [0, 1, 4, 5, 8, 11, 12, 15, 18]
def k_72 : List Op := [(4, 0, 0, 0, []), (8, 0, 5, 2, []), (24, 1, 11, 1, []), (51, 0, 6, 0, []), (0, -2, 0, 0, []), (27, 0, 0, 0, []), (4, 0, 0, 0, []), (8, 0, 5, 2, []), (4, 0, 0, 0, []), (8, 0, 5, 1, []), (24, 1, 13, 2, []), (4, 0, 0, 0, []), (8, 0, 5, 2, []), (24, 1, 11, 1, []), (27, 0, 0, 0, [])]
def p_72 : List Nat := [0, 1, 4, 7, 10, 12, 13, 14, 17, 18, 21, 24, 25, 28, 31]
def k_73 : List Op := [(1, 0, 1, 0, []), (32, 0, 57, 0, [(0, 2), (1, 7), (2, 13), (3, 19), (4, 23), (5, 27), (6, 33), (7, 37), (8, 41), (9, 45)]), (4, 0, 0, 0, []), (8, 0, 5, 1, []), (24, 0, 1, 1, []), (24, 2, 15, 1, []), (27, 0, 0, 0, []), (4, 0, 0, 0, []), (8, 0, 5, 1, []), (0, 0, 0, 0, []), (24, 0, 2, 2, []), (24, 2, 15, 1, []), (27, 0, 0, 0, []), (4, 0, 0, 0, []), (8, 0, 5, 1, []), (0, 1, 0, 0, []), (24, 0, 2, 2, []), (24, 2, 15, 1, []), (27, 0, 0, 0, []), (4, 0, 0, 0, []), (8, 0, 5, 1, []), (24, 0, 3, 1, []), (27, 0, 0, 0, []), (4, 0, 0, 0, []), (8, 0, 5, 1, []), (24, 0, 4, 1, []), (27, 0, 0, 0, []), (4, 0, 0, 0, []), (8, 0, 5, 1, []), (24, 0, 1, 1, []), (0, 0, 0, 0, []), (24, 2, 22, 2, []), (27, 0, 0, 0, []), (4, 0, 0, 0, []), (8, 0, 5, 5, []), (23, 0, 86, 1, []), (27, 0, 0, 0, []), (4, 0, 0, 0, []), (8, 0, 5, 0, []), (24, 4, 43, 1, []), (27, 0, 0, 0, []), (4, 0, 0, 0, []), (8, 0, 5, 2, []), (24, 1, 11, 1, []), (27, 0, 0, 0, []), (4, 0, 0, 0, []), (8, 0, 5, 1, []), (0, 0, 0, 0, []), (24, 0, 2, 2, []), (24, 2, 23, 1, []), (4, 0, 0, 0, []), (8, 0, 5, 1, []), (0, 1, 0, 0, []), (24, 0, 2, 2, []), (24, 2, 23, 1, []), (40, 0, 0, 0, []), (27, 0, 0, 0, []), (0, -1, 0, 0, []), (27, 0, 0, 0, [])]
def p_73 : List Nat := [0, 1, 56, 57, 60, 63, 66, 67, 68, 71, 72, 75, 78, 79, 80, 83, 84, 87, 90, 91, 92, 95, 98, 99, 100, 103, 106, 107, 108, 111, 114, 115, 118, 119, 120, 123, 126, 127, 128, 131, 134, 135, 136, 139, 142, 143, 144, 147, 148, 151, 154, 155, 158, 159, 162, 165, 166, 167, 168]
def k_74 : List Op := [(1, 0, 1, 0, []), (52, 0, 7, 0, []), (1, 0, 2, 0, []), (52, 0, 7, 0, []), (1, 0, 2, 0, []), (0, 2, 0, 0, []), (65, 0, 9, 0, []), (0, -1, 0, 0, []), (27, 0, 0, 0, []), (4, 0, 0, 0, []), (8, 0, 5, 1, []), (24, 0, 1, 1, []), (5, 0, 3, 0, []), (1, 0, 1, 0, []), (4, 0, 3, 0, []), (24, 2, 15, 1, []), (62, 0, 19, 0, []), (0, -9999, 0, 0, []), (27, 0, 0, 0, []), (1, 0, 2, 0, []), (32, 0, 29, 1, [(0, 21), (1, 25)]), (4, 0, 3, 0, []), (1, 0, 1, 0, []), (24, 2, 16, 2, []), (27, 0, 0, 0, []), (4, 0, 3, 0, []), (1, 0, 1, 0, []), (24, 2, 17, 2, []), (27, 0, 0, 0, []), (4, 0, 0, 0, []), (8, 0, 5, 0, []), (4, 0, 3, 0, []), (1, 0, 1, 0, []), (24, 2, 16, 2, []), (24, 4, 49, 2, []), (27, 0, 0, 0, [])]
def p_74 : List Nat := [0, 1, 4, 5, 8, 9, 10, 13, 14, 15, 16, 19, 22, 23, 24, 25, 28, 31, 34, 35, 36, 64, 65, 66, 69, 70, 71, 72, 75, 76, 77, 80, 81, 82, 85, 88]
def k_75 : List Op := [(1, 0, 1, 0, []), (1, 0, 2, 0, []), (23, 0, 84, 2, []), (50, 0, 9, 0, []), (1, 0, 3, 0, []), (52, 0, 9, 0, []), (1, 0, 3, 0, []), (0, 4, 0, 0, []), (65, 0, 11, 0, []), (0, -1, 0, 0, []), (27, 0, 0, 0, []), (4, 0, 0, 0, []), (8, 0, 5, 1, []), (1, 0, 1, 0, []), (24, 0, 2, 2, []), (5, 0, 4, 0, []), (1, 0, 3, 0, []), (32, 0, 30, 0, [(0, 18), (1, 30), (2, 22), (3, 30), (4, 26)]), (4, 0, 4, 0, []), (1, 0, 2, 0, []), (24, 2, 20, 2, []), (27, 0, 0, 0, []), (4, 0, 4, 0, []), (1, 0, 2, 0, []), (24, 2, 21, 2, []), (27, 0, 0, 0, []), (4, 0, 4, 0, []), (1, 0, 2, 0, []), (24, 2, 22, 2, []), (27, 0, 0, 0, []), (4, 0, 0, 0, []), (8, 0, 5, 4, []), (4, 0, 4, 0, []), (1, 0, 2, 0, []), (24, 3, 35, 3, []), (1, 0, 3, 0, []), (0, 1, 0, 0, []), (61, 0, 42, 0, []), (4, 0, 0, 0, []), (8, 0, 5, 4, []), (24, 3, 34, 1, []), (7, 0, 45, 0, []), (4, 0, 0, 0, []), (8, 0, 5, 4, []), (24, 3, 37, 1, []), (27, 0, 0, 0, [])]
def p_75 : List Nat := [0, 1, 2, 5, 8, 9, 12, 13, 14, 17, 18, 19, 20, 23, 24, 27, 29, 30, 64, 66, 67, 70, 71, 73, 74, 77, 78, 80, 81, 84, 85, 86, 89, 91, 92, 95, 96, 97, 100, 101, 104, 107, 110, 111, 114, 117]
def k_76 : List Op := [(1, 0, 1, 0, []), (1, 0, 2, 0, []), (23, 0, 84, 2, []), (50, 0, 11, 0, []), (1, 0, 3, 0, []), (52, 0, 11, 0, []), (1, 0, 4, 0, []), (52, 0, 11, 0, []), (1, 0, 4, 0, []), (0, 1, 0, 0, []), (65, 0, 13, 0, []), (0, -1, 0, 0, []), (27, 0, 0, 0, []), (4, 0, 0, 0, []), (8, 0, 5, 1, []), (1, 0, 1, 0, []), (24, 0, 2, 2, []), (5, 0, 5, 0, []), (1, 0, 3, 0, []), (4, 0, 5, 0, []), (1, 0, 2, 0, []), (24, 2, 20, 2, []), (62, 0, 25, 0, []), (0, -9999, 0, 0, []), (27, 0, 0, 0, []), (4, 0, 5, 0, []), (1, 0, 2, 0, []), (24, 2, 19, 2, []), (1, 0, 3, 0, []), (40, 0, 0, 0, []), (2, 0, 6, 0, []), (1, 0, 4, 0, []), (51, 0, 37, 0, []), (4, 0, 5, 0, []), (1, 0, 6, 0, []), (24, 2, 16, 2, []), (7, 0, 40, 0, []), (4, 0, 5, 0, []), (1, 0, 6, 0, []), (24, 2, 17, 2, []), (27, 0, 0, 0, [])]
def p_76 : List Nat := [0, 1, 2, 5, 8, 9, 12, 14, 17, 19, 20, 23, 24, 25, 26, 29, 30, 33, 35, 36, 38, 39, 42, 45, 48, 49, 51, 52, 55, 56, 57, 59, 61, 64, 66, 68, 71, 74, 76, 78, 81]
def k_77 : List Op := [(1, 0, 1, 0, []), (52, 0, 7, 0, []), (1, 0, 1, 0, []), (4, 0, 0, 0, []), (8, 0, 5, 0, []), (24, 4, 43, 1, []), (62, 0, 9, 0, []), (0, -1, 0, 0, []), (27, 0, 0, 0, []), (4, 0, 0, 0, []), (8, 0, 5, 1, []), (24, 0, 1, 1, []), (5, 0, 3, 0, []), (1, 0, 2, 0, []), (32, 0, 48, 0, [(0, 15), (1, 20), (2, 26), (3, 32), (4, 38)]), (4, 0, 0, 0, []), (8, 0, 5, 0, []), (1, 0, 1, 0, []), (24, 4, 46, 2, []), (27, 0, 0, 0, []), (4, 0, 0, 0, []), (8, 0, 5, 0, []), (1, 0, 1, 0, []), (4, 0, 3, 0, []), (24, 4, 50, 3, []), (27, 0, 0, 0, []), (4, 0, 0, 0, []), (8, 0, 5, 0, []), (1, 0, 1, 0, []), (4, 0, 3, 0, []), (24, 4, 51, 3, []), (27, 0, 0, 0, []), (4, 0, 0, 0, []), (8, 0, 5, 0, []), (1, 0, 1, 0, []), (4, 0, 3, 0, []), (24, 4, 52, 3, []), (27, 0, 0, 0, []), (4, 0, 0, 0, []), (8, 0, 5, 0, []), (1, 0, 1, 0, []), (4, 0, 3, 0, []), (24, 4, 53, 3, []), (50, 0, 46, 0, []), (0, 1, 0, 0, []), (7, 0, 47, 0, []), (0, 0, 0, 0, []), (27, 0, 0, 0, []), (0, -1, 0, 0, []), (27, 0, 0, 0, [])]
def p_77 : List Nat := [0, 1, 4, 5, 6, 9, 12, 15, 16, 17, 18, 21, 24, 25, 26, 60, 61, 64, 65, 68, 69, 70, 73, 74, 75, 78, 79, 80, 83, 84, 85, 88, 89, 90, 93, 94, 95, 98, 99, 100, 103, 104, 105, 108, 111, 112, 115, 116, 117, 118]
def k_78 : List Op := [(4, 0, 0, 0, []), (8, 0, 5, 1, []), (24, 0, 1, 1, []), (5, 0, 2, 0, []), (1, 0, 1, 0, []), (32, 0, 36, 0, [(0, 6), (1, 11), (2, 16), (3, 21), (4, 26), (5, 31)]), (4, 0, 0, 0, []), (8, 0, 5, 0, []), (4, 0, 2, 0, []), (24, 4, 54, 2, []), (27, 0, 0, 0, []), (4, 0, 0, 0, []), (8, 0, 5, 0, []), (4, 0, 2, 0, []), (24, 4, 55, 2, []), (27, 0, 0, 0, []), (4, 0, 0, 0, []), (8, 0, 5, 0, []), (4, 0, 2, 0, []), (24, 4, 56, 2, []), (27, 0, 0, 0, []), (4, 0, 0, 0, []), (8, 0, 5, 0, []), (4, 0, 2, 0, []), (24, 4, 57, 2, []), (27, 0, 0, 0, []), (4, 0, 0, 0, []), (8, 0, 5, 0, []), (4, 0, 2, 0, []), (24, 4, 58, 2, []), (27, 0, 0, 0, []), (4, 0, 0, 0, []), (8, 0, 5, 0, []), (4, 0, 2, 0, []), (24, 4, 59, 2, []), (27, 0, 0, 0, []), (0, -1, 0, 0, []), (27, 0, 0, 0, [])]
def p_78 : List Nat := [0, 1, 4, 7, 8, 9, 48, 49, 52, 53, 56, 57, 58, 61, 62, 65, 66, 67, 70, 71, 74, 75, 76, 79, 80, 83, 84, 85, 88, 89, 92, 93, 94, 97, 98, 101, 102, 103]
def k_79 : List Op := [(1, 0, 1, 0, []), (52, 0, 7, 0, []), (1, 0, 2, 0, []), (52, 0, 7, 0, []), (1, 0, 2, 0, []), (0, 1, 0, 0, []), (65, 0, 9, 0, []), (0, -1, 0, 0, []), (27, 0, 0, 0, []), (1, 0, 2, 0, []), (51, 0, 16, 0, []), (4, 0, 0, 0, []), (8, 0, 5, 5, []), (51, 0, 16, 0, []), (0, -2, 0, 0, []), (27, 0, 0, 0, []), (4, 0, 0, 0, []), (8, 0, 5, 1, []), (24, 0, 1, 1, []), (5, 0, 3, 0, []), (0, 0, 0, 0, []), (2, 0, 4, 0, []), (0, 0, 0, 0, []), (2, 0, 5, 0, []), (1, 0, 5, 0, []), (4, 0, 0, 0, []), (8, 0, 5, 0, []), (24, 4, 43, 1, []), (63, 0, 60, 0, []), (1, 0, 2, 0, []), (51, 0, 38, 0, []), (4, 0, 0, 0, []), (8, 0, 5, 0, []), (1, 0, 5, 0, []), (4, 0, 0, 0, []), (8, 0, 5, 5, []), (24, 4, 48, 3, []), (7, 0, 47, 0, []), (4, 0, 0, 0, []), (8, 0, 5, 0, []), (1, 0, 5, 0, []), (4, 0, 3, 0, []), (24, 4, 50, 3, []), (55, 0, 46, 0, []), (0, 1, 0, 0, []), (7, 0, 47, 0, []), (0, 0, 0, 0, []), (2, 0, 6, 0, []), (1, 0, 6, 0, []), (50, 0, 55, 0, []), (1, 0, 4, 0, []), (1, 0, 1, 0, []), (61, 0, 55, 0, []), (1, 0, 5, 0, []), (27, 0, 0, 0, []), (1, 0, 6, 0, []), (50, 0, 58, 0, []), (3, 1, 4, 0, []), (3, 1, 5, 0, []), (7, 0, 24, 0, []), (0, -9999, 0, 0, []), (27, 0, 0, 0, [])]
def p_79 : List Nat := [0, 1, 4, 5, 8, 9, 10, 13, 14, 15, 16, 19, 20, 23, 26, 28, 29, 30, 33, 36, 37, 38, 40, 41, 43, 45, 46, 49, 52, 55, 56, 59, 60, 63, 65, 66, 69, 72, 75, 76, 79, 81, 82, 85, 88, 89, 92, 93, 95, 97, 100, 102, 103, 106, 108, 109, 111, 114, 117, 120, 123, 126]
def k_80 : List Op := [(4, 0, 0, 0, []), (8, 0, 5, 0, []), (4, 0, 0, 0, []), (8, 0, 5, 1, []), (24, 0, 1, 1, []), (24, 4, 54, 2, []), (2, 0, 1, 0, []), (1, 0, 1, 0, []), (51, 0, 11, 0, []), (37, 0, 0, 0, []), (30, 0, 0, 0, []), (4, 0, 0, 0, []), (8, 0, 5, 0, []), (4, 0, 0, 0, []), (8, 0, 5, 1, []), (24, 0, 1, 1, []), (24, 4, 55, 2, []), (33, 0, 0, 0, []), (1, 0, 1, 0, []), (33, 0, 0, 0, []), (34, 0, 0, 0, []), (30, 0, 0, 0, [])]
def p_80 : List Nat := [0, 1, 4, 5, 8, 11, 14, 15, 16, 19, 20, 21, 22, 25, 26, 29, 32, 35, 36, 37, 38, 39]
def k_81 : List Op := [(1, 0, 1, 0, []), (52, 0, 5, 0, []), (1, 0, 1, 0, []), (0, 2, 0, 0, []), (62, 0, 7, 0, []), (0, -1, 0, 0, []), (27, 0, 0, 0, []), (4, 0, 0, 0, []), (8, 0, 5, 3, []), (1, 0, 1, 0, []), (12, 0, 0, 0, []), (5, 0, 2, 0, []), (4, 0, 2, 0, []), (22, 0, 23, 0, []), (17, 0, 0, 0, []), (18, 0, 0, 0, []), (25, 0, 0, 1, []), (5, 0, 2, 0, []), (4, 0, 0, 0, []), (8, 0, 5, 3, []), (1, 0, 1, 0, []), (4, 0, 2, 0, []), (13, 0, 0, 0, []), (4, 0, 2, 0, []), (4, 0, 0, 0, []), (8, 0, 5, 1, []), (24, 0, 5, 2, []), (4, 0, 0, 0, []), (8, 0, 5, 1, []), (24, 0, 1, 1, []), (24, 2, 15, 1, []), (27, 0, 0, 0, [])]
def p_81 : List Nat := [0, 1, 4, 5, 6, 9, 10, 11, 12, 15, 16, 17, 18, 19, 22, 25, 26, 29, 30, 31, 34, 35, 36, 37, 38, 39, 42, 45, 46, 49, 52, 55]
def k_82 : List Op := [(1, 0, 1, 0, []), (52, 0, 5, 0, []), (1, 0, 1, 0, []), (0, 2, 0, 0, []), (62, 0, 7, 0, []), (0, -1, 0, 0, []), (27, 0, 0, 0, []), (4, 0, 0, 0, []), (8, 0, 5, 3, []), (1, 0, 1, 0, []), (12, 0, 0, 0, []), (5, 0, 2, 0, []), (4, 0, 2, 0, []), (22, 0, 16, 0, []), (0, -2, 0, 0, []), (27, 0, 0, 0, []), (4, 0, 0, 0, []), (8, 0, 5, 2, []), (4, 0, 0, 0, []), (8, 0, 5, 1, []), (24, 1, 12, 2, []), (4, 0, 0, 0, []), (8, 0, 5, 1, []), (4, 0, 2, 0, []), (24, 0, 5, 2, []), (4, 0, 0, 0, []), (8, 0, 5, 1, []), (24, 0, 1, 1, []), (24, 2, 15, 1, []), (27, 0, 0, 0, [])]
def p_82 : List Nat := [0, 1, 4, 5, 6, 9, 10, 11, 12, 15, 16, 17, 18, 19, 22, 24, 25, 26, 29, 30, 33, 36, 37, 40, 41, 44, 45, 48, 51, 54]
def k_83 : List Op := [(1, 0, 0, 0, []), (0, -99, 0, 0, []), (62, 0, 8, 0, []), (1, 0, 0, 0, []), (0, 99, 0, 0, []), (64, 0, 8, 0, []), (0, 1, 0, 0, []), (7, 0, 9, 0, []), (0, 0, 0, 0, []), (28, 0, 0, 0, [])]
def p_83 : List Nat := [0, 1, 3, 6, 7, 9, 12, 13, 16, 17]
def k_84 : List Op := [(1, 0, 0, 0, []), (52, 0, 12, 0, []), (1, 0, 0, 0, []), (0, 2, 0, 0, []), (63, 0, 12, 0, []), (1, 0, 1, 0, []), (52, 0, 12, 0, []), (1, 0, 1, 0, []), (0, 7, 0, 0, []), (63, 0, 12, 0, []), (0, 1, 0, 0, []), (7, 0, 13, 0, []), (0, 0, 0, 0, []), (28, 0, 0, 0, [])]
def p_84 : List Nat := [0, 1, 4, 5, 6, 9, 10, 13, 14, 16, 19, 20, 23, 24]
def k_85 : List Op := [(1, 0, 0, 0, []), (0, 1, 0, 0, []), (62, 0, 6, 0, []), (1, 0, 0, 0, []), (0, 444444, 0, 0, []), (65, 0, 8, 0, []), (0, 0, 0, 0, []), (28, 0, 0, 0, []), (1, 0, 0, 0, []), (2, 0, 1, 0, []), (1, 0, 1, 0, []), (55, 0, 29, 0, []), (1, 0, 1, 0, []), (0, 10, 0, 0, []), (44, 0, 0, 0, []), (0, 1, 0, 0, []), (62, 0, 22, 0, []), (1, 0, 1, 0, []), (0, 10, 0, 0, []), (44, 0, 0, 0, []), (0, 4, 0, 0, []), (65, 0, 24, 0, []), (0, 0, 0, 0, []), (28, 0, 0, 0, []), (1, 0, 1, 0, []), (0, 10, 0, 0, []), (43, 0, 0, 0, []), (2, 0, 1, 0, []), (7, 0, 10, 0, []), (0, 1, 0, 0, []), (28, 0, 0, 0, [])]
def p_85 : List Nat := [0, 1, 2, 5, 6, 8, 11, 12, 13, 14, 15, 16, 19, 20, 22, 23, 24, 27, 28, 30, 31, 32, 35, 36, 37, 38, 40, 41, 42, 45, 46]
def k_86 : List Op := [(0, 0, 0, 0, []), (2, 0, 1, 0, []), (1, 0, 0, 0, []), (2, 0, 2, 0, []), (1, 0, 2, 0, []), (55, 0, 12, 0, []), (3, 1, 1, 0, []), (1, 0, 2, 0, []), (0, 10, 0, 0, []), (43, 0, 0, 0, []), (2, 0, 2, 0, []), (7, 0, 4, 0, []), (1, 0, 1, 0, []), (27, 0, 0, 0, [])]
def p_86 : List Nat := [0, 1, 2, 3, 4, 5, 8, 11, 12, 14, 15, 16, 19, 20]
def k_87 : List Op := [(1, 0, 1, 0, []), (4, 0, 0, 0, []), (14, 0, 0, 0, []), (63, 0, 8, 0, []), (4, 0, 0, 0, []), (1, 0, 1, 0, []), (10, 0, 0, 0, []), (7, 0, 13, 0, []), (0, 747796405, 0, 0, []), (1, 0, 1, 0, []), (0, 1, 0, 0, []), (40, 0, 0, 0, []), (42, 0, 0, 0, []), (27, 0, 0, 0, [])]
def p_87 : List Nat := [0, 1, 2, 3, 6, 7, 8, 9, 12, 14, 15, 16, 17, 18]
def k_88 : List Op := [(1, 0, 0, 0, []), (0, 2147483647, 0, 0, []), (45, 0, 0, 0, []), (1, 0, 1, 0, []), (44, 0, 0, 0, []), (27, 0, 0, 0, [])]
def p_88 : List Nat := [0, 1, 3, 4, 5, 6]
def k_89 : List Op := [(0, 1, 0, 0, []), (1, 0, 1, 0, []), (0, 4, 0, 0, []), (23, 0, 88, 2, []), (40, 0, 0, 0, []), (2, 0, 2, 0, []), (0, 0, 0, 0, []), (2, 0, 3, 0, []), (0, 0, 0, 0, []), (2, 0, 4, 0, []), (1, 0, 4, 0, []), (1, 0, 2, 0, []), (63, 0, 39, 0, []), (0, 10, 0, 0, []), (1, 0, 3, 0, []), (42, 0, 0, 0, []), (0, 1, 0, 0, []), (40, 0, 0, 0, []), (1, 0, 1, 0, []), (0, 2, 0, 0, []), (0, 2, 0, 0, []), (1, 0, 4, 0, []), (42, 0, 0, 0, []), (40, 0, 0, 0, []), (48, 0, 0, 0, []), (1, 0, 1, 0, []), (0, 12, 0, 0, []), (48, 0, 0, 0, []), (0, 3, 0, 0, []), (23, 0, 88, 2, []), (51, 0, 33, 0, []), (0, 4, 0, 0, []), (7, 0, 34, 0, []), (0, 2, 0, 0, []), (23, 0, 88, 2, []), (40, 0, 0, 0, []), (2, 0, 3, 0, []), (3, 1, 4, 0, []), (7, 0, 10, 0, []), (4, 0, 0, 0, []), (1, 0, 3, 0, []), (24, 5, 65, 2, []), (27, 0, 0, 0, [])]
def p_89 : List Nat := [0, 1, 2, 3, 6, 7, 8, 9, 10, 11, 13, 15, 16, 19, 21, 22, 23, 24, 25, 26, 27, 28, 30, 31, 32, 33, 34, 36, 37, 38, 41, 44, 45, 48, 49, 52, 53, 54, 57, 60, 61, 62, 65]
def k_90 : List Op := [(4, 0, 0, 0, []), (1, 0, 1, 0, []), (0, 4, 0, 0, []), (48, 0, 0, 0, []), (23, 0, 89, 2, []), (2, 0, 3, 0, []), (1, 0, 1, 0, []), (0, 14, 0, 0, []), (23, 0, 88, 2, []), (32, 0, 86, 0, [(0, 10), (1, 10), (2, 10), (3, 10), (4, 10), (5, 10), (6, 18), (7, 18), (8, 18), (9, 38), (10, 46), (11, 56), (12, 76)]), (4, 0, 0, 0, []), (1, 0, 2, 0, []), (0, 199, 0, 0, []), (23, 0, 88, 2, []), (0, 99, 0, 0, []), (41, 0, 0, 0, []), (24, 5, 68, 2, []), (27, 0, 0, 0, []), (4, 0, 0, 0, []), (0, 0, 0, 0, []), (24, 5, 73, 2, []), (2, 0, 4, 0, []), (1, 0, 4, 0, []), (51, 0, 26, 0, []), (1, 0, 3, 0, []), (7, 0, 34, 0, []), (4, 0, 0, 0, []), (4, 0, 0, 0, []), (1, 0, 2, 0, []), (1, 0, 4, 0, []), (23, 0, 88, 2, []), (0, 0, 0, 0, []), (24, 5, 74, 3, []), (24, 5, 65, 2, []), (2, 0, 3, 0, []), (4, 0, 0, 0, []), (24, 5, 69, 1, []), (27, 0, 0, 0, []), (4, 0, 0, 0, []), (1, 0, 2, 0, []), (0, 199, 0, 0, []), (23, 0, 88, 2, []), (0, 99, 0, 0, []), (41, 0, 0, 0, []), (24, 5, 70, 2, []), (27, 0, 0, 0, []), (1, 0, 2, 0, []), (0, 4, 0, 0, []), (23, 0, 88, 2, []), (51, 0, 53, 0, []), (4, 0, 0, 0, []), (24, 5, 71, 1, []), (7, 0, 55, 0, []), (4, 0, 0, 0, []), (24, 5, 72, 1, []), (27, 0, 0, 0, []), (1, 0, 2, 0, []), (0, 2, 0, 0, []), (23, 0, 88, 2, []), (51, 0, 68, 0, []), (4, 0, 0, 0, []), (1, 0, 2, 0, []), (0, 1, 0, 0, []), (48, 0, 0, 0, []), (0, 2, 0, 0, []), (23, 0, 88, 2, []), (24, 5, 81, 2, []), (7, 0, 75, 0, []), (4, 0, 0, 0, []), (1, 0, 2, 0, []), (0, 1, 0, 0, []), (48, 0, 0, 0, []), (0, 2, 0, 0, []), (23, 0, 88, 2, []), (24, 5, 82, 2, []), (27, 0, 0, 0, []), (1, 0, 2, 0, []), (0, 9, 0, 0, []), (23, 0, 88, 2, []), (51, 0, 83, 0, []), (4, 0, 0, 0, []), (24, 5, 67, 1, []), (7, 0, 85, 0, []), (4, 0, 0, 0, []), (24, 5, 66, 1, []), (27, 0, 0, 0, []), (4, 0, 0, 0, []), (24, 5, 66, 1, []), (27, 0, 0, 0, [])]
def p_90 : List Nat := [0, 1, 2, 3, 4, 7, 8, 9, 11, 14, 80, 81, 82, 85, 88, 90, 91, 94, 95, 96, 97, 100, 102, 104, 107, 108, 111, 112, 113, 114, 116, 119, 120, 123, 126, 127, 128, 131, 132, 133, 134, 137, 140, 142, 143, 146, 147, 148, 149, 152, 155, 156, 159, 162, 163, 166, 167, 168, 169, 172, 175, 176, 177, 178, 179, 180, 183, 186, 189, 190, 191, 192, 193, 194, 197, 200, 201, 202, 204, 207, 210, 211, 214, 217, 218, 221, 222, 223, 226]
def k_91_0 : List Op := [(0, 0, 0, 0, []), (2, 0, 1, 0, []), (0, 0, 0, 0, []), (2, 0, 2, 0, []), (1, 0, 2, 0, []), (0, 2, 0, 0, []), (63, 0, 179, 0, []), (0, 0, 0, 0, []), (2, 0, 3, 0, []), (0, 0, 0, 0, []), (2, 0, 4, 0, []), (1, 0, 4, 0, []), (0, 7, 0, 0, []), (63, 0, 168, 0, []), (4, 0, 0, 0, []), (1, 0, 2, 0, []), (1, 0, 4, 0, []), (0, 0, 0, 0, []), (24, 5, 75, 4, []), (2, 0, 5, 0, []), (0, 0, 0, 0, []), (2, 0, 6, 0, []), (0, 0, 0, 0, []), (2, 0, 7, 0, []), (1, 0, 3, 0, []), (1, 0, 5, 0, []), (40, 0, 0, 0, []), (2, 0, 3, 0, []), (1, 0, 5, 0, []), (55, 0, 34, 0, []), (1, 0, 1, 0, []), (0, 1, 0, 0, []), (40, 0, 0, 0, []), (7, 0, 35, 0, []), (1, 0, 1, 0, []), (2, 0, 1, 0, []), (0, 0, 0, 0, []), (2, 0, 8, 0, []), (1, 0, 8, 0, []), (1, 0, 5, 0, []), (63, 0, 100, 0, []), (4, 0, 0, 0, []), (1, 0, 2, 0, []), (1, 0, 4, 0, []), (1, 0, 8, 0, []), (0, 0, 0, 0, []), (24, 5, 76, 5, []), (2, 0, 9, 0, []), (4, 0, 0, 0, []), (1, 0, 2, 0, []), (1, 0, 4, 0, []), (1, 0, 8, 0, []), (0, 1, 0, 0, []), (24, 5, 76, 5, []), (2, 0, 10, 0, []), (1, 0, 6, 0, []), (1, 0, 9, 0, []), (23, 0, 92, 1, []), (40, 0, 0, 0, []), (2, 0, 6, 0, []), (1, 0, 7, 0, []), (1, 0, 10, 0, []), (40, 0, 0, 0, []), (2, 0, 7, 0, []), (1, 0, 8, 0, []), (55, 0, 98, 0, []), (4, 0, 0, 0, []), (1, 0, 2, 0, []), (1, 0, 4, 0, []), (1, 0, 8, 0, []), (0, 1, 0, 0, []), (41, 0, 0, 0, []), (0, 0, 0, 0, []), (24, 5, 76, 5, []), (1, 0, 9, 0, []), (64, 0, 96, 0, []), (4, 0, 0, 0, []), (1, 0, 2, 0, []), (1, 0, 4, 0, []), (1, 0, 8, 0, []), (0, 1, 0, 0, []), (41, 0, 0, 0, []), (0, 0, 0, 0, []), (24, 5, 76, 5, []), (1, 0, 9, 0, []), (61, 0, 98, 0, []), (4, 0, 0, 0, []), (1, 0, 2, 0, []), (1, 0, 4, 0, []), (1, 0, 8, 0, []), (0, 1, 0, 0, []), (41, 0, 0, 0, []), (0, 1, 0, 0, []), (24, 5, 76, 5, []), (1, 0, 10, 0, []), (65, 0, 98, 0, []), (0, 0, 0, 0, []), (28, 0, 0, 0, []), (3, 1, 8, 0, []), (7, 0, 38, 0, [])]
def k_91_1 : List Op := [(4, 0, 0, 0, []), (1, 0, 2, 0, []), (1, 0, 4, 0, []), (0, 1, 0, 0, []), (24, 5, 75, 4, []), (2, 0, 8, 0, []), (1, 0, 5, 0, []), (0, 1, 0, 0, []), (1, 0, 4, 0, []), (47, 0, 0, 0, []), (64, 0, 135, 0, []), (4, 0, 0, 0, []), (1, 0, 2, 0, []), (1, 0, 4, 0, []), (0, 2, 0, 0, []), (24, 5, 75, 4, []), (1, 0, 6, 0, []), (61, 0, 135, 0, []), (4, 0, 0, 0, []), (1, 0, 2, 0, []), (1, 0, 4, 0, []), (0, 4, 0, 0, []), (24, 5, 75, 4, []), (1, 0, 7, 0, []), (61, 0, 135, 0, []), (4, 0, 0, 0, []), (1, 0, 2, 0, []), (1, 0, 4, 0, []), (1, 0, 5, 0, []), (0, 0, 0, 0, []), (24, 5, 76, 5, []), (0, -9999, 0, 0, []), (61, 0, 135, 0, []), (0, 1, 0, 0, []), (7, 0, 136, 0, []), (0, 0, 0, 0, []), (2, 0, 9, 0, []), (1, 0, 9, 0, []), (50, 0, 164, 0, []), (1, 0, 5, 0, []), (51, 0, 143, 0, []), (0, 1, 0, 0, []), (7, 0, 144, 0, []), (0, 0, 0, 0, []), (1, 0, 8, 0, []), (51, 0, 148, 0, []), (0, 1, 0, 0, []), (7, 0, 149, 0, []), (0, 0, 0, 0, []), (61, 0, 164, 0, []), (1, 0, 8, 0, []), (1, 0, 6, 0, []), (0, 1, 0, 0, []), (40, 0, 0, 0, []), (64, 0, 164, 0, []), (4, 0, 0, 0, []), (1, 0, 2, 0, []), (1, 0, 4, 0, []), (0, 3, 0, 0, []), (24, 5, 75, 4, []), (0, 5, 0, 0, []), (1, 0, 8, 0, []), (42, 0, 0, 0, []), (65, 0, 166, 0, []), (0, 0, 0, 0, []), (28, 0, 0, 0, []), (3, 1, 4, 0, []), (7, 0, 11, 0, []), (4, 0, 0, 0, []), (0, 1, 0, 0, []), (1, 0, 2, 0, []), (40, 0, 0, 0, []), (24, 5, 73, 2, []), (1, 0, 3, 0, []), (60, 0, 177, 0, []), (0, 0, 0, 0, []), (28, 0, 0, 0, []), (3, 1, 2, 0, []), (7, 0, 4, 0, []), (4, 0, 0, 0, []), (0, 9, 0, 0, []), (24, 5, 73, 2, []), (1, 0, 1, 0, []), (61, 0, 206, 0, []), (0, 2, 0, 0, []), (4, 0, 0, 0, []), (0, 2, 0, 0, []), (24, 5, 73, 2, []), (42, 0, 0, 0, []), (4, 0, 0, 0, []), (0, 1, 0, 0, []), (24, 5, 73, 2, []), (64, 0, 206, 0, []), (4, 0, 0, 0, []), (0, 1, 0, 0, []), (24, 5, 73, 2, []), (4, 0, 0, 0, []), (0, 2, 0, 0, []), (24, 5, 73, 2, []), (41, 0, 0, 0, [])]
def k_91_2 : List Op := [(4, 0, 0, 0, []), (0, 0, 0, 0, []), (24, 5, 73, 2, []), (61, 0, 206, 0, []), (0, 1, 0, 0, []), (7, 0, 207, 0, []), (0, 0, 0, 0, []), (28, 0, 0, 0, [])]
def k_91 : List Op := k_91_0 ++ k_91_1 ++ k_91_2
def p_91 : List Nat := [0, 1, 2, 3, 4, 5, 6, 9, 10, 11, 12, 14, 16, 18, 21, 22, 23, 25, 26, 29, 31, 32, 34, 35, 37, 38, 40, 41, 42, 44, 47, 48, 49, 50, 53, 54, 55, 56, 58, 60, 62, 65, 66, 67, 69, 71, 72, 75, 77, 78, 79, 81, 83, 84, 87, 89, 91, 93, 96, 97, 99, 101, 103, 104, 106, 108, 111, 112, 113, 115, 117, 118, 119, 120, 123, 125, 128, 129, 130, 132, 134, 135, 136, 137, 140, 142, 145, 146, 147, 149, 151, 152, 153, 154, 157, 159, 162, 163, 164, 167, 170, 171, 172, 174, 175, 178, 180, 182, 183, 185, 186, 189, 190, 191, 193, 194, 197, 199, 202, 203, 204, 206, 207, 210, 212, 215, 216, 217, 219, 221, 222, 225, 228, 231, 232, 235, 236, 238, 240, 243, 245, 248, 249, 252, 253, 255, 258, 259, 262, 263, 266, 268, 270, 271, 272, 275, 276, 277, 279, 280, 283, 284, 286, 287, 290, 291, 292, 295, 298, 299, 300, 301, 302, 305, 306, 309, 310, 311, 314, 317, 318, 320, 323, 324, 327, 328, 329, 330, 333, 334, 335, 336, 339, 342, 343, 344, 347, 348, 349, 352, 353, 354, 355, 358, 361, 362, 365, 366]
def k_92 : List Op := [(0, 0, 0, 0, []), (2, 0, 1, 0, []), (1, 0, 0, 0, []), (2, 0, 2, 0, []), (1, 0, 2, 0, []), (55, 0, 15, 0, []), (1, 0, 1, 0, []), (0, 1, 0, 0, []), (40, 0, 0, 0, []), (2, 0, 1, 0, []), (1, 0, 2, 0, []), (0, 10, 0, 0, []), (43, 0, 0, 0, []), (2, 0, 2, 0, []), (7, 0, 4, 0, []), (1, 0, 1, 0, []), (27, 0, 0, 0, [])]
def p_92 : List Nat := [0, 1, 2, 3, 4, 5, 8, 9, 10, 11, 12, 13, 15, 16, 17, 20, 21]
def k_93 : List Op := [(0, 0, 0, 0, []), (2, 0, 3, 0, []), (0, 0, 0, 0, []), (2, 0, 4, 0, []), (0, 0, 0, 0, []), (2, 0, 5, 0, []), (1, 0, 5, 0, []), (0, 2, 0, 0, []), (63, 0, 72, 0, []), (0, 0, 0, 0, []), (2, 0, 6, 0, []), (1, 0, 6, 0, []), (0, 7, 0, 0, []), (63, 0, 70, 0, []), (0, 0, 0, 0, []), (2, 0, 7, 0, []), (1, 0, 7, 0, []), (4, 0, 0, 0, []), (1, 0, 5, 0, []), (1, 0, 6, 0, []), (0, 0, 0, 0, []), (24, 5, 75, 4, []), (63, 0, 68, 0, []), (4, 0, 0, 0, []), (1, 0, 5, 0, []), (1, 0, 6, 0, []), (1, 0, 7, 0, []), (0, 0, 0, 0, []), (24, 5, 76, 5, []), (1, 0, 1, 0, []), (61, 0, 33, 0, []), (0, 1, 0, 0, []), (7, 0, 34, 0, []), (0, 0, 0, 0, []), (2, 0, 8, 0, []), (1, 0, 8, 0, []), (50, 0, 45, 0, []), (1, 0, 3, 0, []), (0, 1, 0, 0, []), (40, 0, 0, 0, []), (0, 2, 0, 0, []), (1, 0, 5, 0, []), (42, 0, 0, 0, []), (41, 0, 0, 0, []), (7, 0, 46, 0, []), (1, 0, 3, 0, []), (2, 0, 3, 0, []), (1, 0, 8, 0, []), (50, 0, 64, 0, []), (1, 0, 4, 0, []), (0, 1, 0, 0, []), (0, 2, 0, 0, []), (1, 0, 5, 0, []), (42, 0, 0, 0, []), (41, 0, 0, 0, []), (4, 0, 0, 0, []), (1, 0, 5, 0, []), (1, 0, 6, 0, []), (1, 0, 7, 0, []), (0, 1, 0, 0, []), (24, 5, 76, 5, []), (42, 0, 0, 0, []), (40, 0, 0, 0, []), (7, 0, 65, 0, []), (1, 0, 4, 0, []), (2, 0, 4, 0, []), (3, 1, 7, 0, []), (7, 0, 16, 0, []), (3, 1, 6, 0, []), (7, 0, 11, 0, []), (3, 1, 5, 0, []), (7, 0, 6, 0, []), (1, 0, 3, 0, []), (0, 1, 0, 0, []), (61, 0, 80, 0, []), (1, 0, 4, 0, []), (1, 0, 2, 0, []), (61, 0, 80, 0, []), (0, 1, 0, 0, []), (7, 0, 81, 0, []), (0, 0, 0, 0, []), (28, 0, 0, 0, [])]
def p_93 : List Nat := [0, 1, 2, 3, 5, 6, 8, 10, 11, 14, 15, 17, 19, 21, 24, 25, 27, 29, 30, 32, 34, 35, 38, 41, 42, 44, 46, 48, 49, 52, 53, 56, 57, 60, 61, 63, 65, 68, 69, 70, 71, 72, 74, 75, 76, 79, 80, 81, 83, 86, 88, 89, 90, 92, 93, 94, 95, 97, 99, 101, 102, 105, 106, 107, 110, 112, 114, 117, 120, 123, 126, 129, 132, 133, 134, 137, 139, 140, 143, 144, 147, 148]
def k_94_0 : List Op := [(0, 0, 0, 0, []), (2, 0, 1, 0, []), (0, 0, 0, 0, []), (2, 0, 2, 0, []), (0, 0, 0, 0, []), (2, 0, 3, 0, []), (0, 0, 0, 0, []), (2, 0, 4, 0, []), (1, 0, 4, 0, []), (4, 0, 0, 0, []), (0, 0, 0, 0, []), (24, 5, 73, 2, []), (63, 0, 55, 0, []), (4, 0, 0, 0, []), (1, 0, 4, 0, []), (0, 2, 0, 0, []), (24, 5, 74, 3, []), (2, 0, 5, 0, []), (1, 0, 1, 0, []), (1, 0, 5, 0, []), (40, 0, 0, 0, []), (2, 0, 1, 0, []), (1, 0, 2, 0, []), (1, 0, 5, 0, []), (4, 0, 0, 0, []), (1, 0, 4, 0, []), (0, 1, 0, 0, []), (24, 5, 74, 3, []), (42, 0, 0, 0, []), (40, 0, 0, 0, []), (2, 0, 2, 0, []), (1, 0, 3, 0, []), (4, 0, 0, 0, []), (1, 0, 4, 0, []), (0, 1, 0, 0, []), (24, 5, 74, 3, []), (40, 0, 0, 0, []), (2, 0, 3, 0, []), (1, 0, 4, 0, []), (55, 0, 53, 0, []), (4, 0, 0, 0, []), (1, 0, 4, 0, []), (0, 1, 0, 0, []), (41, 0, 0, 0, []), (0, 0, 0, 0, []), (24, 5, 74, 3, []), (4, 0, 0, 0, []), (1, 0, 4, 0, []), (0, 0, 0, 0, []), (24, 5, 74, 3, []), (62, 0, 53, 0, []), (0, 0, 0, 0, []), (28, 0, 0, 0, []), (3, 1, 4, 0, []), (7, 0, 8, 0, []), (0, 0, 0, 0, []), (2, 0, 4, 0, []), (0, 0, 0, 0, []), (2, 0, 5, 0, []), (0, 0, 0, 0, []), (2, 0, 6, 0, []), (0, 0, 0, 0, []), (2, 0, 7, 0, []), (0, 0, 0, 0, []), (2, 0, 8, 0, []), (1, 0, 8, 0, []), (4, 0, 0, 0, []), (0, 7, 0, 0, []), (24, 5, 73, 2, []), (63, 0, 141, 0, []), (1, 0, 4, 0, []), (4, 0, 0, 0, []), (1, 0, 8, 0, []), (0, 1, 0, 0, []), (24, 5, 77, 3, []), (40, 0, 0, 0, []), (2, 0, 4, 0, []), (1, 0, 6, 0, []), (4, 0, 0, 0, []), (1, 0, 8, 0, []), (0, 2, 0, 0, []), (24, 5, 77, 3, []), (40, 0, 0, 0, []), (2, 0, 6, 0, []), (1, 0, 5, 0, []), (4, 0, 0, 0, []), (1, 0, 8, 0, []), (0, 4, 0, 0, []), (24, 5, 77, 3, []), (40, 0, 0, 0, []), (2, 0, 5, 0, []), (4, 0, 0, 0, []), (1, 0, 8, 0, []), (0, 1, 0, 0, []), (24, 5, 77, 3, []), (55, 0, 98, 0, []), (0, 1, 0, 0, []), (7, 0, 99, 0, []), (0, 0, 0, 0, []), (4, 0, 0, 0, [])]
def k_94_1 : List Op := [(1, 0, 8, 0, []), (0, 3, 0, 0, []), (24, 5, 77, 3, []), (0, -9999, 0, 0, []), (60, 0, 107, 0, []), (0, 1, 0, 0, []), (7, 0, 108, 0, []), (0, 0, 0, 0, []), (61, 0, 126, 0, []), (4, 0, 0, 0, []), (1, 0, 8, 0, []), (0, 1, 0, 0, []), (24, 5, 77, 3, []), (55, 0, 128, 0, []), (4, 0, 0, 0, []), (1, 0, 7, 0, []), (0, 1, 0, 0, []), (24, 5, 79, 3, []), (1, 0, 8, 0, []), (61, 0, 126, 0, []), (4, 0, 0, 0, []), (1, 0, 8, 0, []), (0, 4, 0, 0, []), (24, 5, 77, 3, []), (0, 1, 0, 0, []), (60, 0, 128, 0, []), (0, 0, 0, 0, []), (28, 0, 0, 0, []), (4, 0, 0, 0, []), (1, 0, 8, 0, []), (0, 1, 0, 0, []), (24, 5, 77, 3, []), (55, 0, 137, 0, []), (1, 0, 7, 0, []), (0, 1, 0, 0, []), (40, 0, 0, 0, []), (7, 0, 138, 0, []), (1, 0, 7, 0, []), (2, 0, 7, 0, []), (3, 1, 8, 0, []), (7, 0, 65, 0, []), (4, 0, 0, 0, []), (0, 4, 0, 0, []), (24, 5, 78, 2, []), (2, 0, 8, 0, []), (4, 0, 0, 0, []), (0, 0, 0, 0, []), (24, 5, 78, 2, []), (1, 0, 1, 0, []), (61, 0, 179, 0, []), (1, 0, 4, 0, []), (1, 0, 1, 0, []), (61, 0, 179, 0, []), (4, 0, 0, 0, []), (0, 1, 0, 0, []), (24, 5, 78, 2, []), (1, 0, 2, 0, []), (61, 0, 179, 0, []), (1, 0, 6, 0, []), (1, 0, 2, 0, []), (61, 0, 179, 0, []), (4, 0, 0, 0, []), (0, 5, 0, 0, []), (24, 5, 73, 2, []), (1, 0, 3, 0, []), (61, 0, 179, 0, []), (4, 0, 0, 0, []), (0, 2, 0, 0, []), (24, 5, 78, 2, []), (1, 0, 5, 0, []), (61, 0, 179, 0, []), (4, 0, 0, 0, []), (1, 0, 7, 0, []), (0, 1, 0, 0, []), (24, 5, 79, 3, []), (0, -9999, 0, 0, []), (61, 0, 179, 0, []), (0, 1, 0, 0, []), (7, 0, 180, 0, []), (0, 0, 0, 0, []), (2, 0, 9, 0, []), (1, 0, 9, 0, []), (50, 0, 228, 0, []), (1, 0, 8, 0, []), (52, 0, 228, 0, []), (4, 0, 0, 0, []), (0, 5, 0, 0, []), (24, 5, 78, 2, []), (52, 0, 228, 0, []), (1, 0, 8, 0, []), (54, 0, 195, 0, []), (4, 0, 0, 0, []), (0, 5, 0, 0, []), (24, 5, 78, 2, []), (51, 0, 228, 0, []), (4, 0, 0, 0, []), (4, 0, 0, 0, []), (0, 0, 0, 0, []), (24, 5, 73, 2, []), (0, 0, 0, 0, [])]
def k_94_2 : List Op := [(24, 5, 74, 3, []), (0, -9999, 0, 0, []), (61, 0, 228, 0, []), (4, 0, 0, 0, []), (0, 3, 0, 0, []), (24, 5, 78, 2, []), (0, -9999, 0, 0, []), (61, 0, 210, 0, []), (0, 1, 0, 0, []), (7, 0, 211, 0, []), (0, 0, 0, 0, []), (4, 0, 0, 0, []), (0, 7, 0, 0, []), (24, 5, 73, 2, []), (51, 0, 217, 0, []), (0, 1, 0, 0, []), (7, 0, 218, 0, []), (0, 0, 0, 0, []), (61, 0, 228, 0, []), (1, 0, 1, 0, []), (54, 0, 226, 0, []), (4, 0, 0, 0, []), (24, 5, 80, 1, []), (37, 0, 0, 0, []), (57, 0, 0, 0, []), (51, 0, 228, 0, []), (0, 1, 0, 0, []), (7, 0, 229, 0, []), (0, 0, 0, 0, []), (28, 0, 0, 0, [])]
def k_94 : List Op := k_94_0 ++ k_94_1 ++ k_94_2
def p_94 : List Nat := [0, 1, 2, 3, 4, 5, 6, 7, 9, 11, 12, 13, 16, 19, 20, 22, 23, 26, 28, 29, 31, 32, 33, 34, 36, 37, 39, 40, 43, 44, 45, 46, 47, 48, 50, 51, 54, 55, 56, 58, 61, 62, 64, 65, 66, 67, 70, 71, 73, 74, 77, 80, 81, 82, 85, 88, 89, 91, 92, 94, 95, 97, 98, 100, 101, 103, 105, 106, 108, 111, 114, 116, 117, 119, 120, 123, 124, 126, 128, 129, 131, 132, 135, 136, 138, 140, 141, 143, 144, 147, 148, 150, 151, 153, 154, 157, 160, 161, 164, 165, 166, 168, 169, 172, 175, 178, 179, 182, 183, 186, 187, 189, 190, 193, 196, 197, 199, 200, 203, 205, 208, 209, 211, 212, 215, 216, 219, 220, 221, 222, 224, 225, 228, 231, 233, 234, 235, 238, 240, 242, 245, 248, 249, 250, 253, 255, 256, 257, 260, 261, 264, 266, 267, 270, 271, 272, 275, 276, 279, 281, 282, 285, 286, 287, 290, 291, 294, 295, 296, 299, 301, 304, 305, 307, 308, 311, 314, 317, 318, 321, 322, 324, 326, 329, 331, 334, 335, 336, 339, 342, 344, 347, 348, 349, 352, 355, 356, 357, 358, 361, 362, 365, 368, 371, 372, 373, 376, 379, 382, 383, 386, 387, 388, 390, 393, 396, 397, 400, 401, 404, 405, 408, 409, 412, 413, 414, 417, 418, 421, 422]
def k_95 : List Op := [(0, 1, 0, 0, []), (2, 0, 2, 0, []), (0, 0, 0, 0, []), (2, 0, 3, 0, []), (1, 0, 3, 0, []), (0, 10, 0, 0, []), (63, 0, 25, 0, []), (1, 0, 2, 0, []), (50, 0, 21, 0, []), (1, 0, 3, 0, []), (0, 6, 0, 0, []), (60, 0, 19, 0, []), (4, 0, 0, 0, []), (1, 0, 3, 0, []), (24, 5, 73, 2, []), (4, 0, 1, 0, []), (1, 0, 3, 0, []), (24, 5, 73, 2, []), (61, 0, 21, 0, []), (0, 1, 0, 0, []), (7, 0, 22, 0, []), (0, 0, 0, 0, []), (2, 0, 2, 0, []), (3, 1, 3, 0, []), (7, 0, 4, 0, []), (0, 0, 0, 0, []), (2, 0, 3, 0, []), (1, 0, 3, 0, []), (0, 6, 0, 0, []), (63, 0, 45, 0, []), (1, 0, 2, 0, []), (50, 0, 41, 0, []), (4, 0, 0, 0, []), (1, 0, 3, 0, []), (24, 5, 78, 2, []), (4, 0, 1, 0, []), (1, 0, 3, 0, []), (24, 5, 78, 2, []), (61, 0, 41, 0, []), (0, 1, 0, 0, []), (7, 0, 42, 0, []), (0, 0, 0, 0, []), (2, 0, 2, 0, []), (3, 1, 3, 0, []), (7, 0, 27, 0, []), (1, 0, 2, 0, []), (28, 0, 0, 0, [])]
def p_95 : List Nat := [0, 1, 2, 3, 4, 5, 7, 10, 11, 14, 15, 17, 20, 21, 22, 25, 26, 27, 30, 33, 34, 37, 38, 39, 42, 45, 46, 47, 48, 50, 53, 54, 57, 58, 59, 62, 63, 64, 67, 70, 71, 74, 75, 76, 79, 82, 83]
def k_96 : List Op := [(17, 0, 5, 0, []), (18, 0, 0, 0, []), (25, 5, 64, 1, []), (5, 0, 1, 0, []), (17, 0, 5, 0, []), (18, 0, 0, 0, []), (25, 5, 64, 1, []), (5, 0, 2, 0, []), (0, 0, 0, 0, []), (2, 0, 3, 0, []), (1, 0, 3, 0, []), (0, 28, 0, 0, []), (63, 0, 75, 0, []), (4, 0, 0, 0, []), (0, 2, 0, 0, []), (1, 0, 3, 0, []), (42, 0, 0, 0, []), (23, 0, 87, 2, []), (2, 0, 4, 0, []), (4, 0, 0, 0, []), (0, 2, 0, 0, []), (1, 0, 3, 0, []), (42, 0, 0, 0, []), (0, 1, 0, 0, []), (40, 0, 0, 0, []), (23, 0, 87, 2, []), (2, 0, 5, 0, []), (4, 0, 1, 0, []), (1, 0, 4, 0, []), (1, 0, 5, 0, []), (23, 0, 90, 3, []), (4, 0, 2, 0, []), (1, 0, 4, 0, []), (1, 0, 5, 0, []), (23, 0, 90, 3, []), (61, 0, 42, 0, []), (4, 0, 1, 0, []), (23, 0, 91, 1, []), (50, 0, 42, 0, []), (4, 0, 1, 0, []), (23, 0, 94, 1, []), (51, 0, 44, 0, []), (0, 0, 0, 0, []), (28, 0, 0, 0, []), (4, 0, 1, 0, []), (0, 0, 0, 0, []), (24, 5, 73, 2, []), (2, 0, 6, 0, []), (1, 0, 6, 0, []), (51, 0, 52, 0, []), (0, 0, 0, 0, []), (7, 0, 57, 0, []), (1, 0, 5, 0, []), (0, 3, 0, 0, []), (48, 0, 0, 0, []), (1, 0, 6, 0, []), (23, 0, 88, 2, []), (2, 0, 7, 0, []), (1, 0, 6, 0, []), (55, 0, 73, 0, []), (4, 0, 1, 0, []), (4, 0, 1, 0, []), (1, 0, 7, 0, []), (0, 0, 0, 0, []), (24, 5, 74, 3, []), (4, 0, 1, 0, []), (1, 0, 7, 0, []), (0, 1, 0, 0, []), (24, 5, 74, 3, []), (23, 0, 93, 3, []), (51, 0, 73, 0, []), (0, 0, 0, 0, []), (28, 0, 0, 0, []), (3, 1, 3, 0, []), (7, 0, 10, 0, []), (4, 0, 1, 0, []), (4, 0, 2, 0, []), (23, 0, 95, 2, []), (28, 0, 0, 0, [])]
def p_96 : List Nat := [0, 3, 4, 7, 8, 11, 12, 15, 16, 17, 18, 19, 21, 24, 25, 26, 27, 28, 31, 33, 34, 35, 36, 37, 38, 39, 42, 44, 45, 47, 49, 52, 53, 55, 57, 60, 63, 64, 67, 70, 71, 74, 77, 78, 79, 80, 81, 84, 86, 88, 91, 92, 95, 97, 98, 99, 101, 104, 106, 108, 111, 112, 113, 115, 116, 119, 120, 122, 123, 126, 129, 132, 133, 134, 137, 140, 141, 142, 145]
def pgm : List (List Op) := [k_0, k_1, k_2, k_3, k_4, k_5, k_6, k_7, k_8, k_9, k_10, k_11, k_12, k_13, k_14, k_15, k_16, k_17, k_18, k_19, k_20, k_21, k_22, k_23, k_24, k_25, k_26, k_27, k_28, k_29, k_30, k_31, k_32, k_33, k_34, k_35, k_36, k_37, k_38, k_39, k_40, k_41, k_42, k_43, k_44, k_45, k_46, k_47, k_48, k_49, k_50, k_51, k_52, k_53, k_54, k_55, k_56, k_57, k_58, k_59, k_60, k_61, k_62, k_63, k_64, k_65, k_66, k_67, k_68, k_69, k_70, k_71, k_72, k_73, k_74, k_75, k_76, k_77, k_78, k_79, k_80, k_81, k_82, k_83, k_84, k_85, k_86, k_87, k_88, k_89, k_90, k_91, k_92, k_93, k_94, k_95, k_96]
def ptab : List (List Nat) := [p_0, p_1, p_2, p_3, p_4, p_5, p_6, p_7, p_8, p_9, p_10, p_11, p_12, p_13, p_14, p_15, p_16, p_17, p_18, p_19, p_20, p_21, p_22, p_23, p_24, p_25, p_26, p_27, p_28, p_29, p_30, p_31, p_32, p_33, p_34, p_35, p_36, p_37, p_38, p_39, p_40, p_41, p_42, p_43, p_44, p_45, p_46, p_47, p_48, p_49, p_50, p_51, p_52, p_53, p_54, p_55, p_56, p_57, p_58, p_59, p_60, p_61, p_62, p_63, p_64, p_65, p_66, p_67, p_68, p_69, p_70, p_71, p_72, p_73, p_74, p_75, p_76, p_77, p_78, p_79, p_80, p_81, p_82, p_83, p_84, p_85, p_86, p_87, p_88, p_89, p_90, p_91, p_92, p_93, p_94, p_95, p_96]
def rmF : List Nat := [2, 0, 0, 0, 0, 1, 4, 4, 3, 0, 1, 0, 3, 2, 1, 0, 0, 0, 0, 0, 1, 1, 0, 2, 0, 0, 2, 1, 3, 2, 1, 0, 0, 1, 0, 3, 1, 3, 2, 2, 1, 0, 1, 0, 0, 0, 0, 1, 2, 3, 3, 3, 4, 4, 4, 4, 4, 4, 4, 4, 3, 0, 3, 2, 3, 1, 1, 1, 5, 5, 5, 4, 3, 3, 4, 4, 2, 5, 5, 4, 5, 3, 4, 0, 0, 0, 0, 0, 0, 2, 6, 5, 0, 5, 6, 6, 7]
def rmL : List Nat := [41, 0, 0, 0, 0, 22, 94, 94, 70, 0, 21, 0, 61, 43, 21, 0, 0, 0, 0, 0, 23, 22, 0, 44, 0, 0, 47, 25, 70, 44, 25, 0, 0, 21, 0, 67, 23, 67, 45, 45, 23, 0, 21, 0, 0, 0, 0, 21, 45, 67, 68, 68, 91, 91, 92, 93, 91, 93, 92, 92, 68, 0, 68, 45, 61, 22, 22, 20, 117, 116, 117, 92, 65, 66, 90, 92, 44, 114, 118, 92, 116, 61, 83, 0, 0, 0, 0, 0, 0, 43, 140, 116, 0, 116, 140, 140, 169]
def fkt : List (List Nat) := [[1, 1, 1, 0, 0], [1, 0, 0], [1, 1, 1, 0], [1, 1, 0, 0], [1, 0, 1, 1], [1, 1, 1, 1, 1, 0]]
abbrev CE : Type := Nat × Nat × Nat × Int × Nat
def ctab_0 : List (CE) := [(7, 16, 3, 5, 0),
  (7, 82, 1, 64, 0),
  (5, 3, 5, 0, 0),
  (5, 9, 3, 4, 0),
  (5, 11, 1, 42, 0),
  (4, 3, 5, 0, 0),
  (4, 9, 0, 4, 0),
  (4, 15, 0, 4, 1),
  (4, 19, 0, 4, 2),
  (4, 22, 0, 4, 3),
  (5, 16, 3, 0, 0),
  (5, 18, 1, 0, 0),
  (0, 3, 5, 0, 0),
  (0, 9, 3, 2, 0),
  (0, 11, 1, 14, 0),
  (2, 3, 5, 0, 0),
  (2, 9, 0, 2, 0),
  (2, 15, 0, 2, 1),
  (2, 18, 0, 2, 2),
  (2, 21, 0, 2, 3),
  (0, 12, 0, 0, 0),
  (0, 18, 0, 0, 1),
  (0, 21, 0, 0, 2),
  (0, 24, 0, 0, 3),
  (0, 28, 0, 0, 4),
  (5, 23, 3, 1, 0),
  (5, 25, 1, 10, 0),
  (1, 3, 5, 0, 0),
  (1, 9, 3, 0, 0),
  (1, 11, 0, 1, 0),
  (1, 17, 0, 1, 1),
  (1, 21, 0, 1, 2),
  (5, 34, 3, 3, 0),
  (5, 36, 1, 33, 0),
  (3, 3, 5, 0, 0),
  (3, 11, 0, 3, 0),
  (3, 15, 0, 3, 1),
  (3, 18, 0, 3, 2),
  (3, 22, 0, 3, 3),
  (5, 12, 0, 5, 0),
  (5, 19, 0, 5, 1),
  (5, 26, 0, 5, 2),
  (5, 30, 0, 5, 3),
  (5, 37, 0, 5, 4),
  (5, 41, 0, 5, 5),
  (7, 27, 1, 73, 0),
  (5, 67, 1, 1, 0),
  (5, 76, 1, 15, 0),
  (5, 100, 1, 2, 0),
  (5, 104, 1, 3, 0),
  (5, 107, 1, 4, 0),
  (5, 110, 1, 22, 0),
  (5, 45, 1, 86, 0),
  (5, 53, 1, 43, 0),
  (5, 96, 1, 11, 0),
  (5, 113, 1, 23, 0),
  (2, 32, 1, 20, 0),
  (2, 25, 1, 19, 0),
  (7, 30, 1, 74, 0),
  (5, 116, 1, 16, 0)]
def ctab_1 : List (CE) := [(5, 90, 1, 17, 0),
  (5, 119, 1, 49, 0),
  (4, 37, 1, 48, 0),
  (4, 30, 2, 86, 5),
  (4, 33, 1, 47, 0),
  (4, 26, 1, 46, 0),
  (7, 83, 1, 87, 0),
  (7, 7, 4, 747796405, 0),
  (7, 9, 1, 88, 0),
  (7, 8, 4, 2147483647, 0),
  (7, 87, 1, 90, 0),
  (7, 21, 1, 89, 0),
  (7, 15, 1, 65, 0),
  (5, 49, 1, 85, 0),
  (5, 195, 4, 444444, 0),
  (7, 24, 1, 68, 0),
  (5, 64, 1, 83, 0),
  (5, 71, 1, 18, 0),
  (5, 79, 1, 12, 0),
  (1, 24, 1, 0, 0),
  (1, 25, 1, 5, 0),
  (0, 31, 1, 25, 0),
  (1, 29, 7, 0, 0),
  (5, 83, 1, 6, 0),
  (0, 35, 1, 26, 0),
  (2, 35, 1, 30, 0),
  (2, 51, 1, 31, 0),
  (2, 39, 1, 32, 0),
  (0, 39, 1, 28, 0),
  (2, 43, 1, 29, 0),
  (2, 47, 1, 26, 0),
  (0, 43, 1, 21, 0),
  (2, 29, 2, 86, 5),
  (7, 33, 1, 69, 0),
  (5, 87, 1, 7, 0),
  (0, 47, 1, 16, 0),
  (0, 50, 1, 17, 0),
  (0, 53, 1, 27, 0),
  (0, 57, 1, 15, 0),
  (0, 61, 1, 8, 0),
  (0, 67, 1, 24, 0),
  (0, 64, 1, 9, 0),
  (7, 37, 1, 70, 0),
  (7, 40, 1, 71, 0),
  (5, 93, 1, 8, 0),
  (7, 43, 1, 72, 0),
  (5, 97, 1, 13, 0),
  (7, 46, 1, 81, 0),
  (5, 192, 1, 5, 0),
  (7, 49, 1, 82, 0),
  (7, 52, 1, 67, 0),
  (5, 61, 1, 44, 0),
  (7, 55, 1, 66, 0),
  (5, 57, 1, 45, 0),
  (4, 25, 4, 100000, 0),
  (7, 91, 1, 91, 0),
  (7, 58, 1, 75, 0),
  (5, 122, 1, 84, 0),
  (5, 126, 1, 20, 0),
  (5, 129, 1, 21, 0)]
def ctab_2 : List (CE) := [(5, 132, 1, 35, 0),
  (3, 25, 1, 19, 0),
  (3, 31, 1, 40, 0),
  (3, 41, 1, 41, 0),
  (3, 35, 1, 16, 0),
  (3, 38, 1, 39, 0),
  (3, 51, 1, 36, 0),
  (5, 136, 1, 34, 0),
  (5, 137, 1, 37, 0),
  (3, 44, 1, 38, 0),
  (3, 50, 4, 100000, 0),
  (3, 47, 2, 86, 5),
  (7, 62, 1, 76, 0),
  (5, 140, 1, 19, 0),
  (7, 66, 1, 92, 0),
  (7, 98, 1, 93, 0),
  (7, 95, 1, 94, 0),
  (7, 69, 1, 77, 0),
  (5, 154, 1, 46, 0),
  (5, 157, 1, 50, 0),
  (4, 41, 1, 63, 0),
  (4, 72, 1, 18, 0),
  (5, 161, 1, 51, 0),
  (4, 45, 1, 17, 0),
  (5, 163, 1, 52, 0),
  (4, 50, 1, 62, 0),
  (5, 166, 1, 53, 0),
  (7, 72, 1, 79, 0),
  (5, 189, 1, 48, 0),
  (7, 75, 1, 78, 0),
  (5, 170, 1, 54, 0),
  (4, 54, 1, 50, 0),
  (5, 174, 1, 55, 0),
  (4, 57, 1, 51, 0),
  (5, 177, 1, 56, 0),
  (4, 59, 6, 0, 0),
  (5, 180, 1, 57, 0),
  (5, 183, 1, 58, 0),
  (4, 64, 1, 60, 0),
  (4, 68, 1, 61, 0),
  (5, 186, 1, 59, 0),
  (7, 78, 1, 80, 0),
  (7, 102, 1, 95, 0)]
def ctab : List (CE) := ctab_0 ++ ctab_1 ++ ctab_2
def cpos : List Nat := [19, 21, 24, 27, 29, 32, 33, 34, 35, 36, 47, 49, 52, 53, 55, 58, 59, 60, 61, 62, 72, 73, 74, 75, 76, 88, 90, 93, 94, 96, 97, 98, 106, 108, 111, 112, 113, 114, 115, 125, 126, 127, 128, 129, 130, 144, 148, 152, 156, 160, 164, 168, 172, 175, 179, 183, 187, 191, 195, 199, 203, 207, 211, 215, 216, 220, 224, 227, 228, 231, 232, 235, 238, 242, 245, 246, 250, 253, 257, 261, 262, 266, 270, 273, 277, 281, 285, 289, 293, 297, 301, 302, 306, 307, 311, 315, 316, 317, 321, 322, 326, 330, 333, 337, 341, 342, 346, 350, 354, 355, 359, 363, 367, 371, 375, 376, 379, 383, 386, 387, 388, 392, 393, 397, 400, 401, 405, 409, 413, 417, 421, 422, 423, 427, 428, 431, 434, 437, 441, 442, 446, 450, 451, 455, 456, 460, 464, 468, 472, 473, 477, 481, 482, 486, 487, 491, 494, 498, 502, 506, 510, 514, 518]
def mpos : List (List Nat) := [[51, 14, 50], [151, 14, 149, 150], [159, 14, 157, 158], [163, 14, 161, 162], [167, 14, 165, 166], [265, 14, 263, 264], [276, 14, 274, 275], [314, 14, 312, 313], [325, 14, 323, 324], [332, 14, 331], [92, 16, 91], [182, 16, 180, 181], [260, 16, 258, 259], [349, 16, 347, 348], [57, 15, 56], [155, 15, 153, 154], [202, 15, 200, 201], [206, 15, 204, 205], [256, 15, 254, 255], [194, 15, 192, 193], [190, 15, 188, 189], [305, 15, 303, 304], [171, 15, 169, 170], [186, 15, 184, 185], [329, 15, 327, 328], [269, 15, 267, 268], [280, 15, 278, 279], [320, 15, 318, 319], [296, 15, 294, 295], [300, 15, 299, 3], [284, 15, 283, 0], [288, 15, 287, 1], [292, 15, 291, 2], [110, 17, 109], [412, 17, 410, 411], [391, 17, 389, 390], [408, 17, 406, 407], [416, 17, 414, 415], [420, 17, 419, 6], [404, 17, 403, 5], [396, 17, 395, 4], [399, 17, 398], [31, 13, 30], [178, 13, 176, 177], [366, 13, 364, 365], [374, 13, 372, 373], [223, 13, 221, 222], [219, 13, 217, 218], [214, 13, 212, 213], [210, 13, 208, 209], [445, 13, 443, 444], [454, 13, 452, 453], [459, 13, 457, 458], [467, 13, 465, 466], [480, 13, 478, 479], [485, 13, 483, 484], [490, 13, 488, 489], [497, 13, 495, 496], [501, 13, 499, 500], [513, 13, 511, 512], [505, 13, 504, 9], [509, 13, 508, 10], [463, 13, 462, 8], [449, 13, 448, 7], [23, 12, 22], [241, 12, 239, 240], [370, 12, 368, 369], [362, 12, 360, 361], [249, 12, 247, 248], [310, 12, 308, 309], [336, 12, 334, 335], [340, 12, 338, 339], [345, 12, 343, 344], [147, 12, 145, 146], [198, 12, 196, 197], [382, 12, 380, 381], [426, 12, 424, 425], [440, 12, 438, 439], [476, 12, 474, 475], [471, 12, 469, 470], [517, 12, 515, 516], [353, 12, 351, 352], [358, 12, 356, 357], [252, 12, 251], [385, 12, 384], [244, 12, 243], [174, 12, 173], [226, 11, 225], [230, 11, 229], [237, 11, 236], [234, 11, 233], [378, 11, 377], [430, 11, 429], [433, 11, 432], [436, 11, 435], [520, 11, 519], []]
def xpos : List (List Nat) := [[77, 79, 81, 83, 85, 48, 14], [99, 101, 103, 89, 16], [63, 65, 67, 69, 54, 15], [116, 118, 120, 122, 107, 17], [37, 39, 41, 43, 28, 13], [131, 133, 135, 137, 139, 141, 20, 12]]
def opos : List Nat := [25, 26, 46, 95, 492, 493, 271, 272, 18]
end
section
/-! THE SMALL MACHINE: values, cells, heaps; 'zrun' runs the tables' program (01) with a fuel; 'wp' is what holds at its end -/
abbrev zV : Type := Int ⊕ (Option Nat) ⊕ UInt32 ⊕ UInt64 ⊕ Unit
abbrev aI (z : Int) : zV := Sum.inl z
abbrev aQ (r : Option Nat) : zV := Sum.inr (Sum.inl r)
abbrev aR (k : Nat) : zV := Sum.inr (Sum.inl (some k))
abbrev aN : zV := Sum.inr (Sum.inl none)
abbrev aF (b : UInt32) : zV := Sum.inr (Sum.inr (Sum.inl b))
abbrev aD (b : UInt64) : zV := Sum.inr (Sum.inr (Sum.inr (Sum.inl b)))
abbrev aS : zV := Sum.inr (Sum.inr (Sum.inr (Sum.inr ())))
abbrev zC : Type := (Nat × List zV) ⊕ (Nat × (Int → Int)) ⊕ (Nat × (Int → Option Nat))
abbrev cO (ci : Nat) (fs : List zV) : zC := Sum.inl (ci, fs)
abbrev cA (n : Nat) (f : Int → Int) : zC := Sum.inr (Sum.inl (n, f))
abbrev cQ (n : Nat) (g : Int → Option Nat) : zC := Sum.inr (Sum.inr (n, g))
/-- cells, slots in all, what the cells hold -/
abbrev zH : Type := Nat × Nat × (Nat → zC)
abbrev zL : Type := List (Option zV)
def zwr (z : Int) : Int := (z + 2147483648) % 4294967296 - 2147483648
def zup {α : Type} (f : Int → α) (i : Int) (x : α) : Int → α := fun j => if j = i then x else f j
def zgt (h : zH) (k : Nat) : zC := h.2.2 k
def zuH (h : zH) (k : Nat) (c : zC) : zH := (h.1, h.2.1, fun j => if j = k then c else h.2.2 j)
def okF (ci j : Nat) (v : zV) : Bool := match (fkt.getD ci []).getD j 9, v with
  | 0, .inl _ => true
  | 1, .inr (.inl _) => true
  | _, _ => false
def newF (ci : Nat) : List zV := (fkt.getD ci []).map (fun k => if k = 0 then aI 0 else aN)
def zaH (h : zH) (n : Nat) (c : zC) : zH := (h.1 + 1, h.2.1 + n, fun j => if j = h.1 then c else h.2.2 j)
section ZEX
variable {α : Type} (i : Nat) (ls : zL) (st : List zV) (h : zH) (nx : Nat → zL → List zV → zH → α) (cl : Nat → List zV → List zV → α) (rt : Option zV → α) (bad : α)
def x_iload (a : Nat) : α := match ls[a]? with
  | some (some (.inl z)) => nx (i + 1) ls (.inl z :: st) h
  | _ => bad
def x_aload (a : Nat) : α := match ls[a]? with
  | some (some (.inr (.inl r))) => nx (i + 1) ls (.inr (.inl r) :: st) h
  | some (some (.inr (.inr (.inr (.inr ()))))) => nx (i + 1) ls (.inr (.inr (.inr (.inr ()))) :: st) h
  | _ => bad
def x_istore (a : Nat) : α := match st with
  | .inl z :: st' => nx (i + 1) (ls.set a (some (.inl z))) st' h
  | _ => bad
def x_astore (a : Nat) : α := match st with
  | .inr (.inl r) :: st' => nx (i + 1) (ls.set a (some (.inr (.inl r)))) st' h
  | _ => bad
def x_iinc (a : Nat) (z : Int) : α := match ls[a]? with
  | some (some (.inl x)) => nx (i + 1) (ls.set a (some (.inl (zwr (x + z))))) st h
  | _ => bad
def x_bin (f : Int → Int → Int) : α := match st with
  | .inl y :: .inl x :: st' => nx (i + 1) ls (.inl (f x y) :: st') h
  | _ => bad
def x_binS (f : Int → Int → Int) : α := match st with
  | .inl y :: .inl x :: st' => if st'.length ≤ 4 then nx (i + 1) ls (.inl (f x y) :: st') h else bad
  | _ => bad
def x_binC (p : Int → Int → Prop) [∀ x y, Decidable (p x y)] (f : Int → Int → Int) : α := match st with
  | .inl y :: .inl x :: st' => if p x y then nx (i + 1) ls (.inl (f x y) :: st') h else bad
  | _ => bad
def x_if (p : Int → Prop) [∀ x, Decidable (p x)] (t : Nat) : α := match st with
  | .inl x :: st' => if p x then nx t ls st' h else nx (i + 1) ls st' h
  | _ => bad
def x_icmp (p : Int → Int → Prop) [∀ x y, Decidable (p x y)] (t : Nat) : α := match st with
  | .inl y :: .inl x :: st' => if p x y then nx t ls st' h else nx (i + 1) ls st' h
  | _ => bad
def getK (h : zH) (k ci j : Nat) (f : zV → α) (bad : α) : α := match zgt h k with
  | .inl (c, fs) => if c = ci then (match fs[j]? with | some v => f v | none => bad) else bad
  | _ => bad
def x_getf (ci j : Nat) : α := match st with
  | .inr (.inl (some k)) :: st' => getK h k ci j (fun v => nx (i + 1) ls (v :: st') h) bad
  | _ => bad
def putK (h : zH) (k ci j : Nat) (v : zV) (f : zH → α) (bad : α) : α := match zgt h k with
  | .inl (c, fs) => if c = ci then f (zuH h k (.inl (c, fs.set j v))) else bad
  | _ => bad
def x_putf (ci j : Nat) : α := match st with
  | v :: .inr (.inl (some k)) :: st' => if okF ci j v = true then putK h k ci j v (fun h1 => nx (i + 1) ls st' h1) bad else bad
  | _ => bad
def ialK (h : zH) (k : Nat) (x : Int) (f : Int → α) (bad : α) : α := match zgt h k with
  | .inr (.inl (n, g)) => if 0 ≤ x ∧ x < n then f (g x) else bad
  | _ => bad
def x_iald (sc : Nat × (Int → Int)) : α := match st with
  | .inl x :: .inr (.inl (some k)) :: st' => ialK h k x (fun z => nx (i + 1) ls (.inl z :: st') h) bad
  | .inl x :: .inr (.inr (.inr (.inr ()))) :: st' => if 0 ≤ x ∧ x < sc.1 then nx (i + 1) ls (.inl (sc.2 x) :: st') h else bad
  | _ => bad
def iasK (h : zH) (k : Nat) (x z : Int) (f : zH → α) (bad : α) : α := match zgt h k with
  | .inr (.inl (n, g)) => if 0 ≤ x ∧ x < n then f (zuH h k (.inr (.inl (n, zup g x z)))) else bad
  | _ => bad
def x_iast : α := match st with
  | .inl z :: .inl x :: .inr (.inl (some k)) :: st' => iasK h k x z (fun h1 => nx (i + 1) ls st' h1) bad
  | _ => bad
def aalK (h : zH) (k : Nat) (x : Int) (f : Option Nat → α) (bad : α) : α := match zgt h k with
  | .inr (.inr (n, g)) => if 0 ≤ x ∧ x < n then f (g x) else bad
  | _ => bad
def x_aald : α := match st with
  | .inl x :: .inr (.inl (some k)) :: st' => aalK h k x (fun r => nx (i + 1) ls (.inr (.inl r) :: st') h) bad
  | _ => bad
def isD (h : zH) (v : Nat) : Bool := match zgt h v with
  | .inl (0, _) => true
  | _ => false
def aasK (h : zH) (k : Nat) (x : Int) (v : Nat) (f : zH → α) (bad : α) : α := match zgt h k with
  | .inr (.inr (n, g)) => if (0 ≤ x ∧ x < n) ∧ isD h v = true then f (zuH h k (.inr (.inr (n, zup g x (some v))))) else bad
  | _ => bad
def x_aast : α := match st with
  | .inr (.inl (some v)) :: .inl x :: .inr (.inl (some k)) :: st' => aasK h k x v (fun h1 => nx (i + 1) ls st' h1) bad
  | _ => bad
def alnK (h : zH) (k : Nat) (f : Int → α) (bad : α) : α := match zgt h k with
  | .inr (.inl (n, _)) => f n
  | _ => bad
def x_alen (sc : Nat × (Int → Int)) : α := match st with
  | .inr (.inl (some k)) :: st' => alnK h k (fun z => nx (i + 1) ls (.inl z :: st') h) bad
  | .inr (.inr (.inr (.inr ()))) :: st' => nx (i + 1) ls (.inl sc.1 :: st') h
  | _ => bad
def x_newa : α := match st with
  | .inl n :: st' => if 0 ≤ n ∧ n ≤ 10000 then nx (i + 1) ls (.inr (.inl (some h.1)) :: st') (zaH h n.toNat (.inr (.inl (n.toNat, fun _ => 0)))) else bad
  | _ => bad
def x_anew : α := match st with
  | .inl n :: st' => if 0 ≤ n ∧ n ≤ 10000 then nx (i + 1) ls (.inr (.inl (some h.1)) :: st') (zaH h n.toNat (.inr (.inr (n.toNat, fun _ => none)))) else bad
  | _ => bad
def x_new (ci : Nat) : α := nx (i + 1) ls (.inr (.inl (some h.1)) :: st) (zaH h (newF ci).length (.inl (ci, newF ci)))
def x_dup : α := match st with
  | .inl z :: st' => nx (i + 1) ls (.inl z :: .inl z :: st') h
  | .inr (.inl r) :: st' => nx (i + 1) ls (.inr (.inl r) :: .inr (.inl r) :: st') h
  | _ => bad
def x_pop : α := match st with
  | .inl _ :: st' => nx (i + 1) ls st' h
  | .inr (.inl _) :: st' => nx (i + 1) ls st' h
  | _ => bad
def x_dup2 : α := match st with
  | .inl z :: .inr (.inl r) :: st' => nx (i + 1) ls (.inl z :: .inr (.inl r) :: .inl z :: .inr (.inl r) :: st') h
  | _ => bad
def x_ifnull (t : Nat) : α := match st with
  | .inr (.inl none) :: st' => nx t ls st' h
  | .inr (.inl (some _)) :: st' => nx (i + 1) ls st' h
  | _ => bad
def x_ifnonnull (t : Nat) : α := match st with
  | .inr (.inl none) :: st' => nx (i + 1) ls st' h
  | .inr (.inl (some _)) :: st' => nx t ls st' h
  | _ => bad
def zplain0 (v : zV) : Bool := match v with
  | .inl _ => true
  | .inr (.inl _) => true
  | _ => false
def zplain (v : zV) : Bool := match v with
  | .inr (.inr (.inr (.inr ()))) => true
  | .inl _ => true
  | .inr (.inl _) => true
  | _ => false
def x_calls (m j : Nat) : α := if (j ≤ st.length ∧ st.length ≤ j + 4) ∧ (st.take j).all zplain = true then cl m (st.take j).reverse (st.drop j) else bad
def zrecv (h : zH) (ci : Nat) (as : List zV) : Bool := match as with
  | .inr (.inl (some k)) :: _ => (match zgt h k with | .inl (c, _) => c == ci | _ => false)
  | _ => false
def x_callv (ci : Int) (m j : Nat) : α := if ((j ≤ st.length ∧ st.length ≤ j + 4) ∧ (st.take j).all zplain = true) ∧ zrecv h ci.toNat (st.take j).reverse = true then cl m (st.take j).reverse (st.drop j) else bad
def x_vret : α := match st with
  | [] => rt none
  | _ => bad
def x_iret : α := match st with
  | [.inl z] => rt (some (.inl z))
  | _ => bad
def x_zret : α := match st with
  | [.inl z] => if z = 0 ∨ z = 1 then rt (some (.inl z)) else bad
  | _ => bad
def x_aret : α := match st with
  | [.inr (.inl r)] => rt (some (.inr (.inl r)))
  | _ => bad
def x_fret : α := match st with
  | [.inr (.inr (.inl b))] => rt (some (.inr (.inr (.inl b))))
  | _ => bad
def x_oinit : α := match st with
  | .inr (.inl (some _)) :: st' => if st'.length ≤ 4 ∧ st'.all zplain = true then nx (i + 1) ls st' h else bad
  | _ => bad
def swK : List (Int × Nat) → Int → (Nat → α) → Nat → α
  | [], _, f, d => f d
  | (k, t) :: r, x, f, d => if x = k then f t else swK r x f d
def x_sw (tb : List (Int × Nat)) (d : Nat) : α := match st with
  | .inl x :: st' => swK tb x (fun t => nx t ls st' h) d
  | _ => bad
def x_i2f : α := match st with
  | .inl x :: st' => nx (i + 1) ls (.inr (.inr (.inl (FP.i2f (Int32.ofInt x)))) :: st') h
  | _ => bad
def n32 (r : UInt32) : Bool := decide (r &&& 0x7fffffff ≤ 0x7f800000)
def n64 (r : UInt64) : Bool := decide (r &&& 0x7fffffffffffffff ≤ 0x7ff0000000000000)
def x_fdiv : α := match st with
  | .inr (.inr (.inl b)) :: .inr (.inr (.inl a)) :: st' => if n32 (FP.fdiv a b) = true then nx (i + 1) ls (.inr (.inr (.inl (FP.fdiv a b))) :: st') h else bad
  | _ => bad
def x_f2d : α := match st with
  | .inr (.inr (.inl a)) :: st' => if n64 (FP.f2d a) = true then nx (i + 1) ls (.inr (.inr (.inr (.inl (FP.f2d a)))) :: st') h else bad
  | _ => bad
def x_dcmp : α := match st with
  | .inr (.inr (.inr (.inl b))) :: .inr (.inr (.inr (.inl a))) :: st' => nx (i + 1) ls (.inl (Op.cmpValue (FP.dcmp a b) .l).toInt :: st') h
  | _ => bad
def x_fcmp : α := match st with
  | .inr (.inr (.inl b)) :: .inr (.inr (.inl a)) :: st' => nx (i + 1) ls (.inl (Op.cmpValue (FP.fcmp a b) .l).toInt :: st') h
  | _ => bad
def x_fconst0 : α := nx (i + 1) ls (.inr (.inr (.inl FP.fconst0)) :: st) h
def x_dload (a : Nat) : α := match ls[a]? with
  | some (some (.inr (.inr (.inr (.inl b))))) => nx (i + 1) ls (.inr (.inr (.inr (.inl b))) :: st) h
  | _ => bad
def x_dstore (a : Nat) : α := match st with
  | .inr (.inr (.inr (.inl b))) :: st' => nx (i + 1) ((ls.set a (some (.inr (.inr (.inr (.inl b)))))).set (a + 1) none) st' h
  | _ => bad
def zex (sc : Nat × (Int → Int)) (op : Op) : α := match op.1 with
  | 0 => nx (i + 1) ls (.inl op.2.1 :: st) h
  | 1 => x_iload i ls st h nx bad op.2.2.1
  | 2 => x_istore i ls st h nx bad op.2.2.1
  | 3 => x_iinc i ls st h nx bad op.2.2.1 op.2.1
  | 4 => x_aload i ls st h nx bad op.2.2.1
  | 5 => x_astore i ls st h nx bad op.2.2.1
  | 7 => nx op.2.2.1 ls st h
  | 8 => x_getf i ls st h nx bad op.2.2.1 op.2.2.2.1
  | 9 => x_putf i ls st h nx bad op.2.2.1 op.2.2.2.1
  | 10 => x_iald i ls st h nx bad sc
  | 11 => x_iast i ls st h nx bad
  | 12 => x_aald i ls st h nx bad
  | 13 => x_aast i ls st h nx bad
  | 14 => x_alen i ls st h nx bad sc
  | 15 => x_newa i ls st h nx bad
  | 16 => x_anew i ls st h nx bad
  | 17 => x_new i ls st h nx op.2.2.1
  | 18 => x_dup i ls st h nx bad
  | 19 => x_pop i ls st h nx bad
  | 20 => x_dup2 i ls st h nx bad
  | 21 => x_ifnull i ls st h nx bad op.2.2.1
  | 22 => x_ifnonnull i ls st h nx bad op.2.2.1
  | 23 => x_calls st cl bad op.2.2.1 op.2.2.2.1
  | 24 => x_callv st h cl bad op.2.1 op.2.2.1 op.2.2.2.1
  | 25 => x_callv st h cl bad op.2.1 op.2.2.1 op.2.2.2.1
  | 26 => x_vret st rt bad
  | 27 => x_iret st rt bad
  | 28 => x_zret st rt bad
  | 29 => x_aret st rt bad
  | 30 => x_fret st rt bad
  | 31 => x_oinit i ls st h nx bad
  | 32 => x_sw ls st h nx bad op.2.2.2.2 op.2.2.1
  | 33 => x_i2f i ls st h nx bad
  | 34 => x_fdiv i ls st h nx bad
  | 35 => x_f2d i ls st h nx bad
  | 36 => x_dcmp i ls st h nx bad
  | 37 => x_fconst0 i ls st h nx
  | 38 => x_dload i ls st h nx bad op.2.2.1
  | 39 => x_dstore i ls st h nx bad op.2.2.1
  | 40 => x_bin i ls st h nx bad (fun x y => zwr (x + y))
  | 41 => x_bin i ls st h nx bad (fun x y => zwr (x - y))
  | 42 => x_bin i ls st h nx bad (fun x y => zwr (x * y))
  | 43 => x_binC i ls st h nx bad (fun x y => 0 ≤ x ∧ 0 < y) (fun x y => x / y)
  | 44 => x_binC i ls st h nx bad (fun x y => 0 ≤ x ∧ 0 < y) (fun x y => x % y)
  | 45 => x_bin i ls st h nx bad (fun x y => (Int32.ofInt x &&& Int32.ofInt y).toInt)
  | 46 => x_bin i ls st h nx bad (fun x y => (Int32.ofInt x ||| Int32.ofInt y).toInt)
  | 47 => x_bin i ls st h nx bad (fun x y => (Int32.ofInt x <<< (Int32.ofInt y &&& 31)).toInt)
  | 48 => x_bin i ls st h nx bad (fun x y => (Int32.ofInt x >>> (Int32.ofInt y &&& 31)).toInt)
  | 49 => x_binS i ls st h nx bad (fun x y => if x < y then y else x)
  | 50 => x_if i ls st h nx bad (fun x => x = 0) op.2.2.1
  | 51 => x_if i ls st h nx bad (fun x => x ≠ 0) op.2.2.1
  | 52 => x_if i ls st h nx bad (fun x => x < 0) op.2.2.1
  | 53 => x_if i ls st h nx bad (fun x => 0 ≤ x) op.2.2.1
  | 54 => x_if i ls st h nx bad (fun x => 0 < x) op.2.2.1
  | 55 => x_if i ls st h nx bad (fun x => x ≤ 0) op.2.2.1
  | 56 => x_binS i ls st h nx bad (fun x y => if y < x then y else x)
  | 57 => x_fcmp i ls st h nx bad
  | 60 => x_icmp i ls st h nx bad (fun x y => x = y) op.2.2.1
  | 61 => x_icmp i ls st h nx bad (fun x y => x ≠ y) op.2.2.1
  | 62 => x_icmp i ls st h nx bad (fun x y => x < y) op.2.2.1
  | 63 => x_icmp i ls st h nx bad (fun x y => y ≤ x) op.2.2.1
  | 64 => x_icmp i ls st h nx bad (fun x y => y < x) op.2.2.1
  | 65 => x_icmp i ls st h nx bad (fun x y => x ≤ y) op.2.2.1
  | _ => bad
end ZEX
def zfe (m i : Nat) : Op := (pgm.getD m []).getD i (99, 0, 0, 0, [])
def zml (m : Nat) : Nat := (mtab.getD m (⟨"", "", ""⟩, code, 0, none, 0, 0)).2.2.1
def zen (m : Nat) (as : List zV) : zL := as.map some ++ List.replicate (zml m - as.length) none
abbrev zR : Type := Option zV × zH
def zrun (sc : Nat × (Int → Int)) : Nat → Nat → Nat → zL → List zV → zH → Option zR
  | 0, _, _, _, _, _ => none
  | n + 1, m, i, ls, st, h => zex i ls st h (fun i' ls' st' h' => zrun sc n m i' ls' st' h') (fun m' as st' => (zrun sc n m' 0 (zen m' as) [] h).bind (fun r => zrun sc n m (i + 1) ls (r.1.toList ++ st') r.2)) (fun r => some (r, h)) none sc (zfe m i)
end
section
/-! THE TABLES AGAINST THE BYTES: 'zck' holds each small instruction against the decoded one; the words of the tables by their places -/
def zMI (m : Nat) : MI := mtab.getD m (⟨"", "", ""⟩, code, 0, none, 0, 0)
def zT (ci : Nat) : vw_C := vwCl.getD ci ("", TX0, 0)
def zN (k : Nat) : String := cN.getD k ""
def zG : List Cond := lw_tbl.filter goodWord
def cpW (q : CE) : Cond := match q.2.2.1 with
  | 0 => .fieldLink (zN q.1) q.2.1 (zT q.2.2.2.1.toNat).1 ((zT q.2.2.2.1.toNat).2.1 q.2.2.2.2).2.1 ((zT q.2.2.2.1.toNat).2.1 q.2.2.2.2).2.2.1
  | 1 => .methodLink (zN q.1) q.2.1 (zMI q.2.2.2.1.toNat).1
  | 2 => .methodLinkNest (zN q.1) q.2.1 (zMI q.2.2.2.1.toNat).1 (zN q.2.2.2.2)
  | 3 => .classLink (zN q.1) q.2.1 (zN q.2.2.2.1.toNat)
  | 4 => .constant (zN q.1) q.2.1 (Int32.ofInt q.2.2.2.1)
  | 6 => .methodLink (zN q.1) q.2.1 Lib.Math.max.name
  | 7 => .methodLink (zN q.1) q.2.1 Lib.Math.min.name
  | _ => .methodLink (zN q.1) q.2.1 objectInit
def mW (q : MI) : List Cond := [.code q.1 q.2.1 q.2.2.1 q.2.2.2.1, .initialized q.1.cls] ++ (match q.2.2.2.2.2 with
  | 0 => [.static q.1]
  | 1 => [.instanceMethod q.1, .selects q.1.cls q.1 q.1]
  | _ => [.instanceMethod q.1])
def xW (q : vw_C) : List Cond := u_ws q.1 q.2.1 q.2.2 ++ [.instantiable q.1 q.2.2, .initialized q.1]
def oW : List Cond := [.instanceMethod objectInit, .code objectInit ⟨#[0xb1]⟩ 1 none, .arrayClass .int, .static Lib.Math.max.name, .code Lib.Math.max.name Lib.Math.max.code 2 (some .int), .static Lib.Math.min.name, .code Lib.Math.min.name Lib.Math.min.code 2 (some .int), .initialized "java/lang/Math"]
def opos2 : List Nat := opos.take 3 ++ opos.drop 4
def wIn (q : Cond × Nat) : Bool := decide (lw_tbl[q.2]? = some q.1) && goodWord q.1
theorem wIn_ok {w : Cond} {p : Nat} (h : wIn (w, p) = true) : w ∈ zG := by
  simp only [wIn, Bool.and_eq_true, decide_eq_true_eq] at h
  exact List.mem_filter.mpr ⟨List.mem_of_getElem? h.1, h.2⟩
theorem zip_mem {α β : Type} : ∀ (l : List α) (k : List β), l.length ≤ k.length → ∀ a ∈ l, ∃ b, (a, b) ∈ l.zip k
  | [], _, _, a, h => by cases h
  | x :: l, [], h, _, _ => by simp at h
  | x :: l, y :: k, h, a, ha => by
    rcases List.mem_cons.mp ha with rfl | ha
    · exact ⟨y, by simp⟩
    · obtain ⟨b, hb⟩ := zip_mem l k (by simpa using h) a ha
      exact ⟨b, by simp [hb]⟩
theorem wAll {ws : List Cond} {ps : List Nat} (hl : ws.length ≤ ps.length) (h : (ws.zip ps).all wIn = true) : ∀ w ∈ ws, w ∈ zG := by
  intro w hw
  obtain ⟨p, hp⟩ := zip_mem ws ps hl w hw
  exact wIn_ok (List.all_eq_true.mp h (w, p) hp)
set_option maxRecDepth 100000 in
theorem cp_len : ctab.length ≤ cpos.length := by decide +kernel
set_option maxRecDepth 100000 in
theorem cp_all : (ctab.zip cpos).all (fun q => decide (lw_tbl[q.2]? = some (cpW q.1)) && (Nat.beq q.1.2.2.1 2 || goodWord (cpW q.1))) = true := by decide +kernel
theorem cp_in {q : CE} (h : q ∈ ctab) (h2 : q.2.2.1 ≠ 2) : cpW q ∈ zG := by
  obtain ⟨p, hp⟩ := zip_mem ctab cpos cp_len q h
  have h1 := List.all_eq_true.mp cp_all (q, p) hp
  simp only [Bool.and_eq_true, decide_eq_true_eq, Bool.or_eq_true, Nat.beq_eq] at h1
  exact List.mem_filter.mpr ⟨List.mem_of_getElem? h1.1, h1.2.resolve_left h2⟩
theorem cp_nest {q : CE} (h : q ∈ ctab) : cpW q ∈ lw_tbl := by
  obtain ⟨p, hp⟩ := zip_mem ctab cpos cp_len q h
  have h1 := List.all_eq_true.mp cp_all (q, p) hp
  simp only [Bool.and_eq_true, decide_eq_true_eq, Bool.or_eq_true, Nat.beq_eq] at h1
  exact List.mem_of_getElem? h1.1
def mOk (q : MI × List Nat) : Bool := decide ((mW q.1).length ≤ q.2.length) && ((mW q.1).zip q.2).all wIn
set_option maxRecDepth 100000 in
theorem m_all_0 : (((mtab.zip mpos).drop 0).take 14).all mOk = true := by decide +kernel
set_option maxRecDepth 100000 in
theorem m_all_1 : (((mtab.zip mpos).drop 14).take 14).all mOk = true := by decide +kernel
set_option maxRecDepth 100000 in
theorem m_all_2 : (((mtab.zip mpos).drop 28).take 14).all mOk = true := by decide +kernel
set_option maxRecDepth 100000 in
theorem m_all_3 : (((mtab.zip mpos).drop 42).take 14).all mOk = true := by decide +kernel
set_option maxRecDepth 100000 in
theorem m_all_4 : (((mtab.zip mpos).drop 56).take 14).all mOk = true := by decide +kernel
set_option maxRecDepth 100000 in
theorem m_all_5 : (((mtab.zip mpos).drop 70).take 14).all mOk = true := by decide +kernel
set_option maxRecDepth 100000 in
theorem m_all_6 : (((mtab.zip mpos).drop 84).take 3).all mOk = true := by decide +kernel
set_option maxRecDepth 100000 in
theorem m_all_7 : (((mtab.zip mpos).drop 87).take 1).all mOk = true := by decide +kernel
set_option maxRecDepth 100000 in
theorem m_all_8 : (((mtab.zip mpos).drop 88).take 1).all mOk = true := by decide +kernel
set_option maxRecDepth 100000 in
theorem m_all_9 : (((mtab.zip mpos).drop 89).take 1).all mOk = true := by decide +kernel
set_option maxRecDepth 100000 in
theorem m_all_10 : (((mtab.zip mpos).drop 90).take 1).all mOk = true := by decide +kernel
set_option maxRecDepth 100000 in
theorem m_all_11 : (((mtab.zip mpos).drop 91).take 1).all mOk = true := by decide +kernel
set_option maxRecDepth 100000 in
theorem m_all_12 : (((mtab.zip mpos).drop 92).take 1).all mOk = true := by decide +kernel
set_option maxRecDepth 100000 in
theorem m_all_13 : (((mtab.zip mpos).drop 93).take 1).all mOk = true := by decide +kernel
set_option maxRecDepth 100000 in
theorem m_all_14 : (((mtab.zip mpos).drop 94).take 1).all mOk = true := by decide +kernel
set_option maxRecDepth 100000 in
theorem m_all_15 : (((mtab.zip mpos).drop 95).take 1).all mOk = true := by decide +kernel
set_option maxRecDepth 100000 in
theorem m_len : mtab.length = 97 ∧ mpos.length = 97 := by decide +kernel
theorem m_at {a n m : Nat} (hm : a ≤ m ∧ m < a + n ∧ m < 96) (hall : (((mtab.zip mpos).drop a).take n).all mOk = true) : ∀ w ∈ mW (zMI m), w ∈ zG := by
  have h1 : m < mtab.length := by rw [m_len.1]; omega
  have h2 : m < mpos.length := by rw [m_len.2]; omega
  have h3 : (mtab.zip mpos)[m]? = some (mtab[m], mpos[m]) := by
    rw [List.getElem?_zip_eq_some]
    exact ⟨List.getElem?_eq_getElem h1, List.getElem?_eq_getElem h2⟩
  have h4 : (((mtab.zip mpos).drop a).take n)[m - a]? = some (mtab[m], mpos[m]) := by
    rw [List.getElem?_take_of_lt (by omega), List.getElem?_drop, show a + (m - a) = m by omega]; exact h3
  have h5 := List.all_eq_true.mp hall _ (List.mem_of_getElem? h4)
  simp only [mOk, Bool.and_eq_true, decide_eq_true_eq] at h5
  have h6 : zMI m = mtab[m] := by
    unfold zMI
    rw [List.getD_eq_getElem?_getD, List.getElem?_eq_getElem h1]
    rfl
  rw [h6]
  exact wAll h5.1 h5.2
theorem m_in {m : Nat} (h : m < 96) : ∀ w ∈ mW (zMI m), w ∈ zG := by
  rcases (show (0 ≤ m ∧ m < 14) ∨ (14 ≤ m ∧ m < 28) ∨ (28 ≤ m ∧ m < 42) ∨ (42 ≤ m ∧ m < 56) ∨ (56 ≤ m ∧ m < 70) ∨ (70 ≤ m ∧ m < 84) ∨ (84 ≤ m ∧ m < 87) ∨ (87 ≤ m ∧ m < 88) ∨ (88 ≤ m ∧ m < 89) ∨ (89 ≤ m ∧ m < 90) ∨ (90 ≤ m ∧ m < 91) ∨ (91 ≤ m ∧ m < 92) ∨ (92 ≤ m ∧ m < 93) ∨ (93 ≤ m ∧ m < 94) ∨ (94 ≤ m ∧ m < 95) ∨ (95 ≤ m ∧ m < 96) by omega) with q | q | q | q | q | q | q | q | q | q | q | q | q | q | q | q
  · exact m_at (a := 0) (n := 14) (by omega) m_all_0
  · exact m_at (a := 14) (n := 14) (by omega) m_all_1
  · exact m_at (a := 28) (n := 14) (by omega) m_all_2
  · exact m_at (a := 42) (n := 14) (by omega) m_all_3
  · exact m_at (a := 56) (n := 14) (by omega) m_all_4
  · exact m_at (a := 70) (n := 14) (by omega) m_all_5
  · exact m_at (a := 84) (n := 3) (by omega) m_all_6
  · exact m_at (a := 87) (n := 1) (by omega) m_all_7
  · exact m_at (a := 88) (n := 1) (by omega) m_all_8
  · exact m_at (a := 89) (n := 1) (by omega) m_all_9
  · exact m_at (a := 90) (n := 1) (by omega) m_all_10
  · exact m_at (a := 91) (n := 1) (by omega) m_all_11
  · exact m_at (a := 92) (n := 1) (by omega) m_all_12
  · exact m_at (a := 93) (n := 1) (by omega) m_all_13
  · exact m_at (a := 94) (n := 1) (by omega) m_all_14
  · exact m_at (a := 95) (n := 1) (by omega) m_all_15
set_option maxRecDepth 100000 in
theorem x_all : ((vwCl.map xW).zip xpos).all (fun q => decide (q.1.length ≤ q.2.length) && (q.1.zip q.2).all wIn) = true := by decide +kernel
theorem x_in : ∀ ci : Nat, ci < 6 → ∀ w ∈ xW (zT ci), w ∈ zG := by
  intro ci h
  have h1 : ci < (vwCl.map xW).length := by simpa using h
  have h2 : ci < xpos.length := by simpa [xpos] using h
  have h3 : ((vwCl.map xW).zip xpos)[ci]? = some ((vwCl.map xW)[ci], xpos[ci]) := by
    rw [List.getElem?_zip_eq_some]
    exact ⟨List.getElem?_eq_getElem h1, List.getElem?_eq_getElem h2⟩
  have h5 := List.all_eq_true.mp x_all _ (List.mem_of_getElem? h3)
  simp only [Bool.and_eq_true, decide_eq_true_eq] at h5
  have h7 : ci < vwCl.length := by simpa using h
  have h6 : xW (zT ci) = (vwCl.map xW)[ci] := by
    rw [List.getElem_map]
    congr 1
    simp [zT, List.getD_eq_getElem?_getD, List.getElem?_eq_getElem h7]
  rw [h6]
  exact wAll h5.1 h5.2
set_option maxRecDepth 100000 in
theorem o_all : (oW.zip opos2).all wIn = true := by decide +kernel
theorem o_in : ∀ w ∈ oW, w ∈ zG := wAll (by decide +kernel) o_all
set_option maxRecDepth 100000 in
theorem ao_in : Cond.arrayOver (.object RX0) ∈ lw_tbl := List.mem_of_getElem? (i := opos.getD 3 0) (by decide +kernel)
/-- what a class's fields are: declared by the class itself, named apart, of the kinds of fkt -/
def tOk (q : vw_C × List Nat) : Bool := decide (q.2.length = q.1.2.2) && (List.range q.1.2.2).all (fun k => decide ((q.1.2.1 k).1 = q.1.1) && (match q.2.getD k 9, parseFieldDescriptor (q.1.2.1 k).2.2.1 with
    | 0, some .int => true
    | 1, some (.object _) => true
    | 1, some (.array _) => true
    | _, _ => false))
set_option maxRecDepth 100000 in
theorem t_all : (vwCl.zip fkt).all tOk = true := by decide +kernel
/-- an entry of the pools -/
def ceq (a b : CE) : Bool := Nat.beq a.2.1 b.2.1 && (Nat.beq a.1 b.1 && (Nat.beq a.2.2.1 b.2.2.1 && (decide (a.2.2.2.1 = b.2.2.2.1) && Nat.beq a.2.2.2.2 b.2.2.2.2)))
def cIn (q : CE) : Bool := ctab.any (fun a => ceq a q)
theorem cIn_ok {q : CE} (h : cIn q = true) : q ∈ ctab := by
  simp only [cIn, List.any_eq_true] at h
  obtain ⟨a, ha, he⟩ := h
  simp only [ceq, Bool.and_eq_true, Nat.beq_eq, decide_eq_true_eq] at he
  obtain ⟨h1, h2, h3, h4, h5⟩ := he
  have : a = q := by
    obtain ⟨a1, a2, a3, a4, a5⟩ := a
    obtain ⟨q1, q2, q3, q4, q5⟩ := q
    simp only at h1 h2 h3 h4 h5
    subst h1; subst h2; subst h3; subst h4; subst h5
    rfl
  exact this ▸ ha
/-- the check of one instruction: own class, kind of the method, its locals' number, its doubles' places, room, its program counters -/
def zNx (P : List Nat) (i pc len : Nat) : Bool := P.getD (i + 1) 0 == pc + len
def zTg (P : List Nat) (pc t : Nat) (off : Int) : Bool := (pc : Int) + off == ((P.getD t 0 : Nat) : Int)
def zCl (rf rl : Nat) (m' : Nat) (j : Nat) (kind : Nat) : Bool := decide (m' < 96) && ((zMI m').2.2.2.2.2 == kind) && decide ((parseMethodDescriptor (zMI m').1.desc).map (fun d => d.parameters.length) = some j) && decide (rmF.getD m' 0 + 1 ≤ rf) && decide (8 + ((zMI m').2.2.1 + 11) + rmL.getD m' 0 ≤ rl) && decide ((zMI m').1.cls ≠ "java/lang/invoke/MethodHandle" ∧ (zMI m').1.cls ≠ "java/lang/invoke/VarHandle")
def zck (own kind mx rf rl : Nat) (ret : Option FieldType) (ds P : List Nat) (i pc : Nat) (op : Op) (d : Except DecodeError (Instr × Nat)) : Bool := match d with
  | .ok (.iconst n, 1) => op.1 == 0 && op.2.1 == n && decide (-128 ≤ n ∧ n < 128) && zNx P i pc 1
  | .ok (.bipush n, 2) => op.1 == 0 && op.2.1 == n && decide (-128 ≤ n ∧ n < 128) && zNx P i pc 2
  | .ok (.sipush n, 3) => op.1 == 0 && op.2.1 == n && decide (-32768 ≤ n ∧ n < 32768) && zNx P i pc 3
  | .ok (.ldc ix, 2) => op.1 == 0 && cIn (own, ix, 4, op.2.1, 0) && decide (-2147483648 ≤ op.2.1 ∧ op.2.1 ≤ 2147483647) && zNx P i pc 2
  | .ok (.iload_n k, 1) => op.1 == 1 && op.2.2.1 == k.val && zNx P i pc 1
  | .ok (.iload k, 2) => op.1 == 1 && op.2.2.1 == k && zNx P i pc 2
  | .ok (.aload_n k, 1) => op.1 == 4 && op.2.2.1 == k.val && zNx P i pc 1
  | .ok (.aload k, 2) => op.1 == 4 && op.2.2.1 == k && zNx P i pc 2
  | .ok (.istore_n k, 1) => op.1 == 2 && op.2.2.1 == k.val && decide (k.val < mx) && ds.all (fun d => d + 1 != k.val) && zNx P i pc 1
  | .ok (.istore k, 2) => op.1 == 2 && op.2.2.1 == k && decide (k < mx) && ds.all (fun d => d + 1 != k) && zNx P i pc 2
  | .ok (.astore_n k, 1) => op.1 == 5 && op.2.2.1 == k.val && decide (k.val < mx) && ds.all (fun d => d + 1 != k.val) && zNx P i pc 1
  | .ok (.astore k, 2) => op.1 == 5 && op.2.2.1 == k && decide (k < mx) && ds.all (fun d => d + 1 != k) && zNx P i pc 2
  | .ok (.iinc k n, 3) => op.1 == 3 && op.2.2.1 == k && op.2.1 == n && decide (k < mx) && decide (-2147483648 ≤ n ∧ n ≤ 2147483647) && ds.all (fun d => d + 1 != k) && zNx P i pc 3
  | .ok (.iadd, 1) => op.1 == 40 && zNx P i pc 1
  | .ok (.isub, 1) => op.1 == 41 && zNx P i pc 1
  | .ok (.imul, 1) => op.1 == 42 && zNx P i pc 1
  | .ok (.idiv, 1) => op.1 == 43 && zNx P i pc 1
  | .ok (.irem, 1) => op.1 == 44 && zNx P i pc 1
  | .ok (.iand, 1) => op.1 == 45 && zNx P i pc 1
  | .ok (.ior, 1) => op.1 == 46 && zNx P i pc 1
  | .ok (.ishl, 1) => op.1 == 47 && zNx P i pc 1
  | .ok (.ishr, 1) => op.1 == 48 && zNx P i pc 1
  | .ok (.ifCond .eq off, 3) => op.1 == 50 && zTg P pc op.2.2.1 off && zNx P i pc 3
  | .ok (.ifCond .ne off, 3) => op.1 == 51 && zTg P pc op.2.2.1 off && zNx P i pc 3
  | .ok (.ifCond .lt off, 3) => op.1 == 52 && zTg P pc op.2.2.1 off && zNx P i pc 3
  | .ok (.ifCond .ge off, 3) => op.1 == 53 && zTg P pc op.2.2.1 off && zNx P i pc 3
  | .ok (.ifCond .gt off, 3) => op.1 == 54 && zTg P pc op.2.2.1 off && zNx P i pc 3
  | .ok (.ifCond .le off, 3) => op.1 == 55 && zTg P pc op.2.2.1 off && zNx P i pc 3
  | .ok (.if_icmp .eq off, 3) => op.1 == 60 && zTg P pc op.2.2.1 off && zNx P i pc 3
  | .ok (.if_icmp .ne off, 3) => op.1 == 61 && zTg P pc op.2.2.1 off && zNx P i pc 3
  | .ok (.if_icmp .lt off, 3) => op.1 == 62 && zTg P pc op.2.2.1 off && zNx P i pc 3
  | .ok (.if_icmp .ge off, 3) => op.1 == 63 && zTg P pc op.2.2.1 off && zNx P i pc 3
  | .ok (.if_icmp .gt off, 3) => op.1 == 64 && zTg P pc op.2.2.1 off && zNx P i pc 3
  | .ok (.if_icmp .le off, 3) => op.1 == 65 && zTg P pc op.2.2.1 off && zNx P i pc 3
  | .ok (.goto off, 3) => op.1 == 7 && zTg P pc op.2.2.1 off
  | .ok (.ifnull off, 3) => op.1 == 21 && zTg P pc op.2.2.1 off && zNx P i pc 3
  | .ok (.ifnonnull off, 3) => op.1 == 22 && zTg P pc op.2.2.1 off && zNx P i pc 3
  | .ok (.getfield ix, 3) => op.1 == 8 && cIn (own, ix, 0, (op.2.2.1 : Int), op.2.2.2.1) && decide (op.2.2.1 < 6 ∧ op.2.2.2.1 < (zT op.2.2.1).2.2) && zNx P i pc 3
  | .ok (.putfield ix, 3) => op.1 == 9 && cIn (own, ix, 0, (op.2.2.1 : Int), op.2.2.2.1) && decide (op.2.2.1 < 6 ∧ op.2.2.2.1 < (zT op.2.2.1).2.2) && (!(((zT op.2.2.1).2.1 op.2.2.2.1).2.2.2) || (kind == 2 && own == op.2.2.1)) && zNx P i pc 3
  | .ok (.iaload, 1) => op.1 == 10 && zNx P i pc 1
  | .ok (.iastore, 1) => op.1 == 11 && zNx P i pc 1
  | .ok (.aaload, 1) => op.1 == 12 && zNx P i pc 1
  | .ok (.aastore, 1) => op.1 == 13 && zNx P i pc 1
  | .ok (.arraylength, 1) => op.1 == 14 && zNx P i pc 1
  | .ok (.newarray .int, 2) => op.1 == 15 && zNx P i pc 2
  | .ok (.anewarray ix, 3) => op.1 == 16 && cIn (own, ix, 3, 0, 0) && zNx P i pc 3
  | .ok (.new ix, 3) => op.1 == 17 && cIn (own, ix, 3, (op.2.2.1 : Int), 0) && decide (op.2.2.1 < 6) && zNx P i pc 3
  | .ok (.dup, 1) => op.1 == 18 && zNx P i pc 1
  | .ok (.pop, 1) => op.1 == 19 && zNx P i pc 1
  | .ok (.dup2, 1) => op.1 == 20 && zNx P i pc 1
  | .ok (.invokestatic ix, 3) => zNx P i pc 3 && ((op.1 == 23 && (cIn (own, ix, 1, (op.2.2.1 : Int), 0) || cIn (own, ix, 2, (op.2.2.1 : Int), 5)) && zCl rf rl op.2.2.1 op.2.2.2.1 0) || ((op.1 == 49 && cIn (own, ix, 6, 0, 0) && decide (1 ≤ rf ∧ 21 ≤ rl)) || (op.1 == 56 && cIn (own, ix, 7, 0, 0) && decide (1 ≤ rf ∧ 21 ≤ rl))))
  | .ok (.invokevirtual ix, 3) => op.1 == 24 && cIn (own, ix, 1, (op.2.2.1 : Int), 0) && zCl rf rl op.2.2.1 (op.2.2.2.1 - 1) 1 && decide (0 < op.2.2.2.1) && decide (op.2.1 < 6 ∧ (zT op.2.1.toNat).1 = (zMI op.2.2.1).1.cls) && zNx P i pc 3
  | .ok (.invokespecial ix, 3) => zNx P i pc 3 && ((op.1 == 31 && cIn (own, ix, 5, 0, 0) && decide (1 ≤ rf ∧ 20 ≤ rl)) || (op.1 == 25 && cIn (own, ix, 1, (op.2.2.1 : Int), 0) && zCl rf rl op.2.2.1 (op.2.2.2.1 - 1) 2 && decide (0 < op.2.2.2.1) && decide ((zMI op.2.2.1).1.name = "<init>") && decide ((zMI op.2.2.1).2.2.2.1 = none)))
  | .ok (.return_, 1) => op.1 == 26 && decide (ret = none)
  | .ok (.ireturn, 1) => (op.1 == 27 && decide (ret = some .int)) || (op.1 == 28 && decide (ret = some .boolean))
  | .ok (.areturn, 1) => op.1 == 29 && (match ret with | some (.object _) => true | some (.array _) => true | _ => false)
  | .ok (.freturn, 1) => op.1 == 30 && decide (ret = some .float)
  | .ok (.tableswitch d lo hi offs, _) => op.1 == 32 && zTg P pc op.2.2.1 d && decide (hi - lo + 1 = (offs.size : Int)) && decide (op.2.2.2.2.length = offs.size) && (List.range offs.size).all (fun k => match op.2.2.2.2[k]?, offs[k]? with
      | some (a, t), some o => a == lo + (k : Int) && zTg P pc t o
      | _, _ => false)
  | .ok (.lookupswitch d ps, _) => op.1 == 32 && zTg P pc op.2.2.1 d && (ps.toList.zip (ps.toList.drop 1)).all (fun (a, next) => a.1 < next.1) && decide (op.2.2.2.2.length = ps.toList.length) && (op.2.2.2.2.zip ps.toList).all (fun q => q.1.1 == q.2.1 && decide (-2147483648 ≤ q.1.1 ∧ q.1.1 ≤ 2147483647) && zTg P pc q.1.2 q.2.2)
  | .ok (.i2f, 1) => op.1 == 33 && zNx P i pc 1
  | .ok (.fdiv, 1) => op.1 == 34 && zNx P i pc 1
  | .ok (.f2d, 1) => op.1 == 35 && zNx P i pc 1
  | .ok (.dcmp .l, 1) => op.1 == 36 && zNx P i pc 1
  | .ok (.fcmp .l, 1) => op.1 == 57 && zNx P i pc 1
  | .ok (.fconst 0, 1) => op.1 == 37 && zNx P i pc 1
  | .ok (.dload k, 2) => op.1 == 38 && op.2.2.1 == k && zNx P i pc 2
  | .ok (.dstore k, 2) => op.1 == 39 && op.2.2.1 == k && decide (k + 1 < mx) && ds.all (fun d => d + 1 != k && d != k + 1) && ds.contains k && zNx P i pc 2
  | _ => false
def zds (m : Nat) : List Nat := (pgm.getD m []).filterMap (fun op => if op.1 = 39 then some op.2.2.1 else none)
def zpc (m i : Nat) : Nat := (ptab.getD m []).getD i 0
def zckI (m i : Nat) : Bool := zck (zMI m).2.2.2.2.1 (zMI m).2.2.2.2.2 (zMI m).2.2.1 (rmF.getD m 0) (rmL.getD m 0) (zMI m).2.2.2.1 (zds m) (ptab.getD m []) i (zpc m i) (zfe m i) (decode (zMI m).2.1 (zpc m i))
def zckM (m : Nat) : Bool := (List.range (pgm.getD m []).length).all (fun i => zckI m i) && (zpc m 0 == 0)
set_option maxRecDepth 100000 in
theorem ck_0 : (List.range' 0 14).all zckM = true := by decide +kernel
set_option maxRecDepth 100000 in
theorem ck_1 : (List.range' 14 14).all zckM = true := by decide +kernel
set_option maxRecDepth 100000 in
theorem ck_2 : (List.range' 28 14).all zckM = true := by decide +kernel
set_option maxRecDepth 100000 in
theorem ck_3 : (List.range' 42 14).all zckM = true := by decide +kernel
set_option maxRecDepth 100000 in
theorem ck_4 : (List.range' 56 14).all zckM = true := by decide +kernel
set_option maxRecDepth 100000 in
theorem ck_5 : (List.range' 70 14).all zckM = true := by decide +kernel
set_option maxRecDepth 100000 in
theorem ck_6 : (List.range' 84 3).all zckM = true := by decide +kernel
set_option maxRecDepth 100000 in
theorem ck_7 : (List.range' 87 1).all zckM = true := by decide +kernel
set_option maxRecDepth 100000 in
theorem ck_8 : (List.range' 88 1).all zckM = true := by decide +kernel
set_option maxRecDepth 100000 in
theorem ck_9 : (List.range' 89 1).all zckM = true := by decide +kernel
set_option maxRecDepth 100000 in
theorem ck_10 : (List.range' 90 1).all zckM = true := by decide +kernel
set_option maxRecDepth 100000 in
theorem ck_11 : (List.range' 91 1).all zckM = true := by decide +kernel
set_option maxRecDepth 100000 in
theorem ck_12 : (List.range' 92 1).all zckM = true := by decide +kernel
set_option maxRecDepth 100000 in
theorem ck_13 : (List.range' 93 1).all zckM = true := by decide +kernel
set_option maxRecDepth 100000 in
theorem ck_14 : (List.range' 94 1).all zckM = true := by decide +kernel
set_option maxRecDepth 100000 in
theorem ck_15 : (List.range' 95 1).all zckM = true := by decide +kernel
set_option maxRecDepth 100000 in
theorem ckl_0 : (List.range' 0 54).all (fun i => Nat.ble 79 i || zckI 96 i) = true := by decide +kernel
set_option maxRecDepth 100000 in
theorem ckl_1 : (List.range' 54 54).all (fun i => Nat.ble 79 i || zckI 96 i) = true := by decide +kernel
theorem ckl_len : (pgm.getD 96 []).length = 79 ∧ zpc 96 0 = 0 := by decide +kernel
theorem ckl : zckM 96 = true := by
  simp only [zckM, Bool.and_eq_true, beq_iff_eq]
  refine ⟨List.all_eq_true.mpr (fun i hi => ?_), ckl_len.2⟩
  rw [ckl_len.1] at hi
  have hi := List.mem_range.mp hi
  have key : ∀ a, a ≤ i → i < a + 54 → (List.range' a 54).all (fun i => Nat.ble 79 i || zckI 96 i) = true → zckI 96 i = true := by
    intro a h1 h2 h3
    have h4 := List.all_eq_true.mp h3 i (by simp only [List.mem_range']; exact ⟨i - a, by omega, by omega⟩)
    simp only [Bool.or_eq_true, Nat.ble_eq] at h4
    exact h4.resolve_left (by omega)
  rcases (show i / 54 = 0 ∨ i / 54 = 1 by omega) with q | q
  · exact key 0 (by omega) (by omega) ckl_0
  · exact key 54 (by omega) (by omega) ckl_1
theorem ck_len : pgm.length = 97 := by decide +kernel
theorem ck_ok {m i : Nat} (h : (zfe m i).1 ≠ 99) : zckI m i = true ∧ m < 97 ∧ zpc m 0 = 0 := by
  have hm : m < 97 := by
    rcases Nat.lt_or_ge m 97 with q | q
    · exact q
    · exfalso
      apply h
      have : pgm.getD m [] = [] := by
        rw [List.getD_eq_getElem?_getD, List.getElem?_eq_none (by rw [ck_len]; exact q)]
        rfl
      unfold zfe
      rw [this]
      rfl
  have hM : zckM m = true := by
    rcases Nat.lt_or_ge m 96 with q0 | q0
    · have key : ∀ a n, a ≤ m → m < a + n → (List.range' a n).all zckM = true → zckM m = true := fun a n h1 h2 h3 => List.all_eq_true.mp h3 m (by simp only [List.mem_range']; exact ⟨m - a, by omega, by omega⟩)
      rcases (show (0 ≤ m ∧ m < 14) ∨ (14 ≤ m ∧ m < 28) ∨ (28 ≤ m ∧ m < 42) ∨ (42 ≤ m ∧ m < 56) ∨ (56 ≤ m ∧ m < 70) ∨ (70 ≤ m ∧ m < 84) ∨ (84 ≤ m ∧ m < 87) ∨ (87 ≤ m ∧ m < 88) ∨ (88 ≤ m ∧ m < 89) ∨ (89 ≤ m ∧ m < 90) ∨ (90 ≤ m ∧ m < 91) ∨ (91 ≤ m ∧ m < 92) ∨ (92 ≤ m ∧ m < 93) ∨ (93 ≤ m ∧ m < 94) ∨ (94 ≤ m ∧ m < 95) ∨ (95 ≤ m ∧ m < 96) by omega) with q | q | q | q | q | q | q | q | q | q | q | q | q | q | q | q
      · exact key 0 14 (by omega) (by omega) ck_0
      · exact key 14 14 (by omega) (by omega) ck_1
      · exact key 28 14 (by omega) (by omega) ck_2
      · exact key 42 14 (by omega) (by omega) ck_3
      · exact key 56 14 (by omega) (by omega) ck_4
      · exact key 70 14 (by omega) (by omega) ck_5
      · exact key 84 3 (by omega) (by omega) ck_6
      · exact key 87 1 (by omega) (by omega) ck_7
      · exact key 88 1 (by omega) (by omega) ck_8
      · exact key 89 1 (by omega) (by omega) ck_9
      · exact key 90 1 (by omega) (by omega) ck_10
      · exact key 91 1 (by omega) (by omega) ck_11
      · exact key 92 1 (by omega) (by omega) ck_12
      · exact key 93 1 (by omega) (by omega) ck_13
      · exact key 94 1 (by omega) (by omega) ck_14
      · exact key 95 1 (by omega) (by omega) ck_15
    · have : m = 96 := by omega
      subst this; exact ckl
  simp only [zckM, Bool.and_eq_true, beq_iff_eq] at hM
  have hi : i < (pgm.getD m []).length := by
    rcases Nat.lt_or_ge i (pgm.getD m []).length with q | q
    · exact q
    · exfalso
      apply h
      unfold zfe
      rw [List.getD_eq_getElem?_getD (l := pgm.getD m []), List.getElem?_eq_none q]
      rfl
  exact ⟨List.all_eq_true.mp hM.1 i (List.mem_range.mpr hi), hm, hM.2⟩
end
section
/-! NUMBERS: the small machine's are integers in the range of int -/
def inR (z : Int) : Prop := -2147483648 ≤ z ∧ z ≤ 2147483647
theorem inR_wr (z : Int) : inR (zwr z) := by unfold inR zwr; omega
theorem zi_ti {z : Int} (h : inR z) : (Int32.ofInt z).toInt = z := by
  unfold inR at h
  rw [Int32.toInt_ofInt, Int.bmod_def]
  simp only [Int32.size]
  split <;> omega
theorem zi_wr (z : Int) : Int32.ofInt (zwr z) = Int32.ofInt z := by
  apply Int32.toInt_inj.mp
  rw [zi_ti (inR_wr z), Int32.toInt_ofInt, Int.bmod_def]
  simp only [Int32.size, zwr]
  split <;> omega
theorem zi_in (x : Int32) : inR x.toInt := by
  have h1 := Int32.le_toInt x
  have h2 := Int32.toInt_lt x
  unfold inR
  omega
theorem zi_of (x : Int32) : Int32.ofInt x.toInt = x := Int32.toInt_inj.mp (zi_ti (zi_in x))
theorem zi_lt {a b : Int} (ha : inR a) (hb : inR b) : Int32.ofInt a < Int32.ofInt b ↔ a < b := by rw [Int32.lt_iff_toInt_lt, zi_ti ha, zi_ti hb]
theorem zi_le {a b : Int} (ha : inR a) (hb : inR b) : Int32.ofInt a ≤ Int32.ofInt b ↔ a ≤ b := by rw [Int32.le_iff_toInt_le, zi_ti ha, zi_ti hb]
theorem zi_eq {a b : Int} (ha : inR a) (hb : inR b) : Int32.ofInt a = Int32.ofInt b ↔ a = b := by rw [← Int32.toInt_inj, zi_ti ha, zi_ti hb]
theorem zi_0 : (0 : Int32) = Int32.ofInt 0 := rfl
theorem inR_0 : inR 0 := by unfold inR; omega
theorem zi_add (a b : Int) : Int32.ofInt (zwr (a + b)) = Int32.ofInt a + Int32.ofInt b := by rw [zi_wr, Int32.ofInt_add]
theorem zi_sub (a b : Int) : Int32.ofInt (zwr (a - b)) = Int32.ofInt a - Int32.ofInt b := by rw [zi_wr, Int32.ofInt_sub]
theorem zi_mul (a b : Int) : Int32.ofInt (zwr (a * b)) = Int32.ofInt a * Int32.ofInt b := by rw [zi_wr, Int32.ofInt_mul]
theorem zi_divIn {a b : Int} (ha : inR a) (h0 : 0 ≤ a) (hb : 0 < b) : inR (a / b) := by
  unfold inR at *
  have h1 : 0 ≤ a / b := Int.ediv_nonneg h0 (by omega)
  have h2 : a / b ≤ a := Int.ediv_le_self b h0
  omega
theorem zi_div {a b : Int} (ha : inR a) (hb : inR b) (h0 : 0 ≤ a) (hp : 0 < b) : Int32.ofInt (a / b) = Int32.ofInt a / Int32.ofInt b := by
  apply Int32.toInt_inj.mp
  rw [zi_ti (zi_divIn ha h0 hp), Int32.toInt_div, zi_ti ha, zi_ti hb, Int.tdiv_eq_ediv_of_nonneg h0]
  have h3 := zi_divIn ha h0 hp
  unfold inR at h3
  rw [Int.bmod_def]
  split <;> omega
theorem zi_modIn {a b : Int} (hb : inR b) (hp : 0 < b) : inR (a % b) := by
  unfold inR at *
  have h1 := Int.emod_nonneg a (show b ≠ 0 by omega)
  have h2 := Int.emod_lt_of_pos a hp
  omega
theorem zi_mod {a b : Int} (ha : inR a) (hb : inR b) (h0 : 0 ≤ a) (hp : 0 < b) : Int32.ofInt (a % b) = Int32.ofInt a - Int32.ofInt a / Int32.ofInt b * Int32.ofInt b := by
  rw [← zi_div ha hb h0 hp, ← Int32.ofInt_mul, ← Int32.ofInt_sub]
  congr 1
  rw [Int.emod_def, Int.mul_comm]
theorem zi_ne0 {b : Int} (hb : inR b) (hp : 0 < b) : ¬ Int32.ofInt b = 0 := by
  rw [zi_0, zi_eq hb inR_0]; omega
theorem zi_nat {x : Int} (hx : inR x) : (Int32.ofInt x).toNatClampNeg = x.toNat := by
  show (Int32.ofInt x).toInt.toNat = _
  rw [zi_ti hx]
theorem zi_vp {x : Int} {n : Nat} (hx : inR x) (h : 0 ≤ x ∧ x < n) : vp_in (Int32.ofInt x) n := by
  rw [vp_in_iff, zi_ti hx]; exact h
theorem zi_lit {n : Int} (h : -128 ≤ n ∧ n < 128) : (Int8.ofInt n).toInt32 = Int32.ofInt n := by
  apply Int32.toInt_inj.mp
  rw [zi_ti (by unfold inR; omega), Int8.toInt_toInt32, Int8.toInt_ofInt, Int.bmod_def]
  simp only [Int8.size]
  split <;> omega
theorem zi_lit16 {n : Int} (h : -32768 ≤ n ∧ n < 32768) : (Int16.ofInt n).toInt32 = Int32.ofInt n := by
  apply Int32.toInt_inj.mp
  rw [zi_ti (by unfold inR; omega), Int16.toInt_toInt32, Int16.toInt_ofInt, Int.bmod_def]
  simp only [Int16.size]
  split <;> omega
/-! WHAT THE SMALL MACHINE'S THINGS ARE IN THE GREAT ONE: 'ad' gives each cell its address, 'bS' is the script's -/
def vC (bS : Nat) (ad : Nat → Nat) : zV → Value
  | .inl z => .int (Int32.ofInt z)
  | .inr (.inl none) => .null
  | .inr (.inl (some k)) => .ref (ad k)
  | .inr (.inr (.inl b)) => .float b
  | .inr (.inr (.inr (.inl b))) => .double b
  | .inr (.inr (.inr (.inr ()))) => .ref bS
def cE (cI cD : ClassId) (bS : Nat) (ad : Nat → Nat) : zC → va_E
  | .inl (ci, fs) => .inr (ci, fs.map (vC bS ad))
  | .inr (.inl (n, f)) => .inl (cI, n, .inl (fun j : Nat => Int32.ofInt (f j)))
  | .inr (.inr (n, g)) => .inl (cD, n, .inr (.inr (.inr (.inr (fun j : Nat => (g j).map ad)))))
def cw (cI cD : ClassId) (bS : Nat) (ad : Nat → Nat) (h : zH) : va_W := (List.range h.1).map (fun k => (ad k, cE cI cD bS ad (zgt h k)))
def okV (hs : Bool) (n : Nat) : zV → Prop
  | .inl z => inR z
  | .inr (.inl none) => True
  | .inr (.inl (some k)) => k < n
  | .inr (.inr (.inr (.inr ()))) => hs = true
  | _ => True
def okC (n : Nat) : zC → Prop
  | .inl (ci, fs) => ci < 6 ∧ fs.length = (zT ci).2.2 ∧ ∀ (j : Nat) (v : zV), fs[j]? = some v → okF ci j v = true ∧ okV false n v
  | .inr (.inl (len, f)) => len ≤ 10000 ∧ ∀ i, inR (f i)
  | .inr (.inr (len, g)) => len ≤ 10000 ∧ ∀ i k, g i = some k → k < n
def okH (h : zH) : Prop := ∀ k, k < h.1 → okC h.1 (zgt h k)
def okS (hs : Bool) (n : Nat) (st : List zV) : Prop := ∀ v ∈ st, okV hs n v
def dbl : zV → Bool
  | .inr (.inr (.inr (.inl _))) => true
  | _ => false
def okL (hs : Bool) (n : Nat) (ds : List Nat) (ls : zL) : Prop := ∀ (i : Nat) (v : zV), ls[i]? = some (some v) → okV hs n v ∧ (dbl v = true → i ∈ ds)
theorem vC_cat {bS : Nat} {ad : Nat → Nat} (v : zV) : (vC bS ad v).category = if dbl v then 2 else 1 := by
  rcases v with z | (_ | k) | b | b | u <;> rfl
theorem vC_agree {bS n : Nat} {ad ad' : Nat → Nat} {hs : Bool} {v : zV} (h : okV hs n v) (ha : ∀ k, k < n → ad' k = ad k) : vC bS ad' v = vC bS ad v := by
  rcases v with z | (_ | k) | b | b | u
  · rfl
  · rfl
  · show Value.ref _ = Value.ref _
    rw [ha k h]
  · rfl
  · rfl
  · rfl
theorem okV_mono {hs : Bool} {n n' : Nat} {v : zV} (h : okV hs n v) (hn : n ≤ n') : okV hs n' v := by
  rcases v with z | (_ | k) | b | b | u
  · exact h
  · exact h
  · exact Nat.lt_of_lt_of_le h hn
  · exact h
  · exact h
  · exact h
theorem okC_mono {n n' : Nat} {c : zC} (h : okC n c) (hn : n ≤ n') : okC n' c := by
  rcases c with ⟨ci, fs⟩ | ⟨len, f⟩ | ⟨len, g⟩
  · exact ⟨h.1, h.2.1, fun j v hj => ⟨(h.2.2 j v hj).1, okV_mono (h.2.2 j v hj).2 hn⟩⟩
  · exact h
  · exact ⟨h.1, fun i k hk => Nat.lt_of_lt_of_le (h.2 i k hk) hn⟩
theorem okS_mono {hs : Bool} {n n' : Nat} {st : List zV} (h : okS hs n st) (hn : n ≤ n') : okS hs n' st := fun v hv => okV_mono (h v hv) hn
theorem okL_mono {hs : Bool} {n n' : Nat} {ds : List Nat} {ls : zL} (h : okL hs n ds ls) (hn : n ≤ n') : okL hs n' ds ls := fun i v hv => ⟨okV_mono (h i v hv).1 hn, (h i v hv).2⟩
theorem cE_agree {cI cD : ClassId} {bS n : Nat} {ad ad' : Nat → Nat} {c : zC} (h : okC n c) (ha : ∀ k, k < n → ad' k = ad k) : cE cI cD bS ad' c = cE cI cD bS ad c := by
  rcases c with ⟨ci, fs⟩ | ⟨len, f⟩ | ⟨len, g⟩
  · have : fs.map (vC bS ad') = fs.map (vC bS ad) := by
      apply List.map_congr_left
      intro v hv
      obtain ⟨j, hj⟩ := List.getElem?_of_mem hv
      exact vC_agree (h.2.2 j v hj).2 ha
    show Sum.inr (ci, _) = Sum.inr (ci, _)
    rw [this]
  · rfl
  · have : (fun j : Nat => (g j).map ad') = fun j : Nat => (g j).map ad := by
      funext j
      cases hg : g j with
      | none => rfl
      | some k =>
        show some (ad' k) = some (ad k)
        rw [ha k (h.2 j k hg)]
    show Sum.inl (cD, len, _) = Sum.inl (cD, len, _)
    rw [this]
theorem cw_get {cI cD : ClassId} {bS : Nat} {ad : Nat → Nat} {h : zH} {k : Nat} (hk : k < h.1) : (cw cI cD bS ad h)[k]? = some (ad k, cE cI cD bS ad (zgt h k)) := by
  simp [cw, hk]
theorem zgt_u (h : zH) (k j : Nat) (c : zC) : zgt (zuH h k c) j = if j = k then c else zgt h j := rfl
theorem zgt_a (h : zH) (n j : Nat) (c : zC) : zgt (zaH h n c) j = if j = h.1 then c else zgt h j := rfl
theorem cw_set {cI cD : ClassId} {bS : Nat} {ad : Nat → Nat} {h : zH} {k : Nat} {c : zC} (hk : k < h.1) : (cw cI cD bS ad h).set k (ad k, cE cI cD bS ad c) = cw cI cD bS ad (zuH h k c) := by
  apply List.ext_getElem?
  intro j
  rw [List.getElem?_set]
  by_cases hj : j < h.1
  · rw [cw_get (h := zuH h k c) (show j < (zuH h k c).1 from hj), zgt_u]
    by_cases hkj : k = j
    · subst hkj
      simp [cw, hk]
    · rw [if_neg hkj, cw_get hj, if_neg (fun q => hkj q.symm)]
  · have h1 : (cw cI cD bS ad h)[j]? = none := List.getElem?_eq_none (by simp [cw]; omega)
    have h2 : (cw cI cD bS ad (zuH h k c))[j]? = none := List.getElem?_eq_none (by simp [cw]; exact Nat.not_lt.mp hj)
    rw [h1, h2]
    by_cases hkj : k = j
    · omega
    · rw [if_neg hkj]
theorem cw_push {cI cD : ClassId} {bS q n : Nat} {ad ad' : Nat → Nat} {h : zH} {c : zC} (ho : okH h) (ha : ∀ k, k < h.1 → ad' k = ad k) (hq : ad' h.1 = q) : cw cI cD bS ad h ++ [(q, cE cI cD bS ad' c)] = cw cI cD bS ad' (zaH h n c) := by
  show _ = (List.range (h.1 + 1)).map _
  rw [List.range_succ, List.map_append]
  congr 1
  · apply List.map_congr_left
    intro k hk
    have hk := List.mem_range.mp hk
    rw [zgt_a, if_neg (by omega), ha k hk, cE_agree (ho k hk) ha]
  · simp [zgt_a, hq]
def zlv (bS : Nat) (ad : Nat → Nat) (ls : zL) : List (Nat × Value) := (List.range ls.length).filterMap (fun i => match ls[i]? with
  | some (some v) => some (i, vC bS ad v)
  | _ => none)
theorem zlv_mem {bS : Nat} {ad : Nat → Nat} {ls : zL} {q : Nat × Value} : q ∈ zlv bS ad ls ↔ ∃ v, ls[q.1]? = some (some v) ∧ q.2 = vC bS ad v := by
  constructor
  · intro hq
    obtain ⟨i, hi, h⟩ := List.mem_filterMap.mp hq
    cases hl : ls[i]? with
    | none => rw [hl] at h; cases h
    | some o =>
      cases o with
      | none => rw [hl] at h; cases h
      | some v => rw [hl] at h; cases h; exact ⟨v, hl, rfl⟩
  · rintro ⟨v, h1, h2⟩
    refine List.mem_filterMap.mpr ⟨q.1, List.mem_range.mpr (List.getElem?_eq_some_iff.mp h1).1, ?_⟩
    rw [h1]
    show some (q.1, vC bS ad v) = some q
    rw [← h2]
def lR (bS : Nat) (ad : Nat → Nat) (mx : Nat) (ls : zL) (lsC : Array Slot) : Prop := ls.length = mx ∧ lv_has lsC mx (zlv bS ad ls)
theorem lR_get {bS mx i : Nat} {ad : Nat → Nat} {ls : zL} {lsC : Array Slot} {v : zV} (h : lR bS ad mx ls lsC) (hi : ls[i]? = some (some v)) : lsC[i]? = some (.val (vC bS ad v)) := h.2.2.2 (i, vC bS ad v) (zlv_mem.mpr ⟨v, hi, rfl⟩)
theorem lR_agree {bS mx n : Nat} {ad ad' : Nat → Nat} {hs : Bool} {ds : List Nat} {ls : zL} {lsC : Array Slot} (h : lR bS ad mx ls lsC) (ho : okL hs n ds ls) (ha : ∀ k, k < n → ad' k = ad k) : lR bS ad' mx ls lsC := by
  refine ⟨h.1, h.2.1, h.2.2.1, fun q hq => ?_⟩
  obtain ⟨v, h1, h2⟩ := zlv_mem.mp hq
  rw [h2, vC_agree (ho _ _ h1).1 ha]
  exact lR_get h h1
theorem lR_set {bS mx i : Nat} {ad : Nat → Nat} {ls : zL} {lsC lsC' : Array Slot} {v : zV} {x : Value} {P : Nat × Value → Bool} (h : lR bS ad mx ls lsC) (hx : x = vC bS ad v)
    (hl : lv_has lsC' mx ((i, x) :: (zlv bS ad ls).filter P)) (hP : ∀ q ∈ zlv bS ad ls, q.1 ≠ i → P q = true) : lR bS ad mx (ls.set i (some v)) lsC' := by
  refine ⟨by rw [List.length_set]; exact h.1, hl.1, hl.2.1, fun q hq => ?_⟩
  obtain ⟨w, h1, h2⟩ := zlv_mem.mp hq
  rw [List.getElem?_set] at h1
  by_cases hi : i = q.1
  · rw [if_pos hi] at h1
    split at h1
    · cases h1
      exact hl.2.2 q (List.mem_cons.mpr (Or.inl (by rw [hi, hx, ← h2])))
    · cases h1
  · rw [if_neg hi] at h1
    have hm : q ∈ zlv bS ad ls := zlv_mem.mpr ⟨w, h1, h2⟩
    exact hl.2.2 q (List.mem_cons_of_mem _ (List.mem_filter.mpr ⟨hm, hP q hm (fun z => hi z.symm)⟩))
/-! classes and fields -/
theorem zT_get {ci : Nat} (h : ci < 6) : vwCl[ci]? = some (zT ci) := by
  have h7 : ci < vwCl.length := h
  simp [zT, List.getD_eq_getElem?_getD, List.getElem?_eq_getElem h7]
set_option maxRecDepth 100000 in
theorem zT_nm : ∀ ci, ci < 6 → ∀ a, a < (zT ci).2.2 → ∀ b, b < (zT ci).2.2 → a ≠ b → ((zT ci).2.1 a).2.1 ≠ ((zT ci).2.1 b).2.1 := by decide +kernel
theorem zT_ok {ci : Nat} (hc : ci < 6) : (fkt.getD ci []).length = (zT ci).2.2 ∧ ∀ k, k < (zT ci).2.2 → ((zT ci).2.1 k).1 = (zT ci).1 ∧
    (((fkt.getD ci []).getD k 9 = 0 ∧ parseFieldDescriptor ((zT ci).2.1 k).2.2.1 = some .int) ∨ ((fkt.getD ci []).getD k 9 = 1 ∧ ((∃ n, parseFieldDescriptor ((zT ci).2.1 k).2.2.1 = some (.object n)) ∨ ∃ t, parseFieldDescriptor ((zT ci).2.1 k).2.2.1 = some (.array t)))) := by
  have h1 : ci < vwCl.length := hc
  have h2 : ci < fkt.length := hc
  have h3 : (vwCl.zip fkt)[ci]? = some (zT ci, fkt.getD ci []) := by
    rw [List.getElem?_zip_eq_some]
    exact ⟨zT_get hc, by rw [List.getD_eq_getElem?_getD, List.getElem?_eq_getElem h2]; rfl⟩
  have h4 := List.all_eq_true.mp t_all _ (List.mem_of_getElem? h3)
  simp only [tOk, Bool.and_eq_true, decide_eq_true_eq] at h4
  refine ⟨h4.1, fun k hk => ?_⟩
  have h5 := List.all_eq_true.mp h4.2 k (List.mem_range.mpr hk)
  simp only [Bool.and_eq_true, decide_eq_true_eq] at h5
  refine ⟨h5.1, ?_⟩
  have h6 := h5.2
  split at h6
  next a b => exact Or.inl ⟨a, b⟩
  next n a b => exact Or.inr ⟨a, Or.inl ⟨n, b⟩⟩
  next t a b => exact Or.inr ⟨a, Or.inr ⟨t, b⟩⟩
  next => cases h6
end
section
/-! ONE STEP AS A THING: on, a call, an end, or stuck; what a step keeps -/
abbrev zP : Type := (Nat × zL × List zV × zH) ⊕ (Nat × List zV × List zV) ⊕ Option zV ⊕ Unit
def zexR (i : Nat) (ls : zL) (st : List zV) (h : zH) (sc : Nat × (Int → Int)) (op : Op) : zP := zex i ls st h (fun a b c d => .inl (a, b, c, d)) (fun a b c => .inr (.inl (a, b, c))) (fun r => .inr (.inr (.inl r))) (.inr (.inr (.inr ()))) sc op
def zel {α : Type} (nx : Nat → zL → List zV → zH → α) (cl : Nat → List zV → List zV → α) (rt : Option zV → α) (bad : α) : zP → α
  | .inl (a, b, c, d) => nx a b c d
  | .inr (.inl (a, b, c)) => cl a b c
  | .inr (.inr (.inl r)) => rt r
  | .inr (.inr (.inr ())) => bad
section NAT
variable {α : Type} {i : Nat} {ls : zL} {st : List zV} {h : zH} {nx : Nat → zL → List zV → zH → α} {cl : Nat → List zV → List zV → α} {rt : Option zV → α} {bad : α}
theorem swK_el {β : Type} (g : β → α) (x : Int) (f : Nat → β) (d : Nat) : ∀ tb : List (Int × Nat), swK tb x (fun t => g (f t)) d = g (swK tb x f d)
  | [] => rfl
  | (k, t) :: r => by
    unfold swK
    split
    · rfl
    · exact swK_el g x f d r
set_option maxHeartbeats 4000000 in
theorem zex_el (sc : Nat × (Int → Int)) (op : Op) : zex i ls st h nx cl rt bad sc op = zel nx cl rt bad (zexR i ls st h sc op) := by
  unfold zexR zex
  split
  case h_32 => unfold x_sw; split <;> first | exact swK_el (zel nx cl rt bad) _ (fun t => (.inl (t, ls, _, h) : zP)) _ _ | rfl
  all_goals first
    | rfl
    | (unfold x_iload; split <;> simp_all [zel]; done)
    | (unfold x_aload; split <;> simp_all [zel]; done)
    | (unfold x_istore; split <;> simp_all [zel]; done)
    | (unfold x_astore; split <;> simp_all [zel]; done)
    | (unfold x_iinc; split <;> simp_all [zel]; done)
    | (unfold x_bin; split <;> simp_all [zel]; done)
    | (unfold x_binS; split <;> (try split) <;> simp_all [zel]; done)
    | (unfold x_binC; split <;> (try split) <;> simp_all [zel]; done)
    | (unfold x_if; split <;> (try split) <;> simp_all [zel]; done)
    | (unfold x_icmp; split <;> (try split) <;> simp_all [zel]; done)
    | (unfold x_getf getK; split <;> (try split) <;> (try split) <;> (try split) <;> simp_all [zel]; done)
    | (unfold x_putf putK; split <;> (try split) <;> (try split) <;> (try split) <;> simp_all [zel]; done)
    | (unfold x_iald ialK; split <;> (try split) <;> (try split) <;> simp_all [zel]; done)
    | (unfold x_iast iasK; split <;> (try split) <;> (try split) <;> simp_all [zel]; done)
    | (unfold x_aald aalK; split <;> (try split) <;> (try split) <;> simp_all [zel]; done)
    | (unfold x_aast aasK; split <;> (try split) <;> (try split) <;> simp_all [zel]; done)
    | (unfold x_alen alnK; split <;> (try split) <;> simp_all [zel]; done)
    | (unfold x_newa; split <;> (try split) <;> simp_all [zel]; done)
    | (unfold x_anew; split <;> (try split) <;> simp_all [zel]; done)
    | (unfold x_dup; split <;> simp_all [zel]; done)
    | (unfold x_pop; split <;> simp_all [zel]; done)
    | (unfold x_dup2; split <;> simp_all [zel]; done)
    | (unfold x_ifnull; split <;> simp_all [zel]; done)
    | (unfold x_ifnonnull; split <;> simp_all [zel]; done)
    | (unfold x_calls; split <;> simp_all [zel]; done)
    | (unfold x_callv; split <;> simp_all [zel]; done)
    | (unfold x_vret; split <;> simp_all [zel]; done)
    | (unfold x_iret; split <;> simp_all [zel]; done)
    | (unfold x_zret; split <;> (try split) <;> simp_all [zel]; done)
    | (unfold x_aret; split <;> simp_all [zel]; done)
    | (unfold x_fret; split <;> simp_all [zel]; done)
    | (unfold x_oinit; split <;> (try split) <;> simp_all [zel]; done)
    | (unfold x_i2f; split <;> simp_all [zel]; done)
    | (unfold x_fdiv; split <;> (try split) <;> simp_all [zel]; done)
    | (unfold x_f2d; split <;> (try split) <;> simp_all [zel]; done)
    | (unfold x_dcmp; split <;> simp_all [zel]; done)
    | (unfold x_fcmp; split <;> simp_all [zel]; done)
    | (unfold x_dload; split <;> simp_all [zel]; done)
    | (unfold x_dstore; split <;> simp_all [zel]; done)
end NAT
/-- what the tables say of an instruction, for the values' sake -/
def zopk (ds : List Nat) (op : Op) : Bool := (op.1 != 0 || decide (-2147483648 ≤ op.2.1 ∧ op.2.1 ≤ 2147483647)) && ((op.1 != 39 || ds.contains op.2.2.1) && (op.1 != 17 || decide (op.2.2.1 < 6)))
set_option maxRecDepth 100000 in
theorem opk_all : (List.range 97).all (fun m => (pgm.getD m []).all (fun op => zopk (zds m) op)) = true := by decide +kernel
theorem opk (m i : Nat) : zopk (zds m) (zfe m i) = true := by
  unfold zfe
  rw [List.getD_eq_getElem?_getD (l := pgm.getD m [])]
  cases hl : (pgm.getD m [])[i]? with
  | none => rfl
  | some op =>
    rcases Nat.lt_or_ge m 97 with q | q
    · exact List.all_eq_true.mp (List.all_eq_true.mp opk_all m (List.mem_range.mpr q)) op (List.mem_of_getElem? hl)
    · rw [List.getD_eq_getElem?_getD (l := pgm), List.getElem?_eq_none (l := pgm) (i := m) (by rw [ck_len]; exact q)] at hl
      cases hl
theorem newF_ok {n ci : Nat} (hc : ci < 6) : (newF ci).length = (zT ci).2.2 ∧ ∀ (j : Nat) (v : zV), (newF ci)[j]? = some v → okF ci j v = true ∧ okV false n v := by
  obtain ⟨h1, h2⟩ := zT_ok hc
  refine ⟨by rw [newF, List.length_map]; exact h1, fun j v hj => ?_⟩
  rw [newF, List.getElem?_map] at hj
  cases hf : (fkt.getD ci [])[j]? with
  | none => rw [hf] at hj; cases hj
  | some k =>
    rw [hf] at hj
    have hv : (if k = 0 then aI 0 else aN) = v := Option.some.inj hj
    have hk : (fkt.getD ci []).getD j 9 = k := by rw [List.getD_eq_getElem?_getD, hf]; rfl
    have hjl : j < (zT ci).2.2 := by rw [← h1]; exact (List.getElem?_eq_some_iff.mp hf).1
    unfold okF
    rcases (h2 j hjl).2 with ⟨a, -⟩ | ⟨a, -⟩
    · rw [a] at hk; subst hk
      rw [a]; rw [if_pos rfl] at hv; subst hv
      exact ⟨rfl, inR_0⟩
    · rw [a] at hk; subst hk
      rw [a]; rw [if_neg (by omega)] at hv; subst hv
      exact ⟨rfl, trivial⟩
def okP (hs : Bool) (ds : List Nat) (ls : zL) (h : zH) : zP → Prop
  | .inl (_, ls', st', h') => okH h' ∧ okL hs h'.1 ds ls' ∧ okS hs h'.1 st' ∧ h.1 ≤ h'.1 ∧ h.2.1 ≤ h'.2.1 ∧ ls'.length = ls.length
  | .inr (.inl (_, as, st')) => okS hs h.1 as ∧ (∀ v ∈ as, zplain v = true) ∧ okS hs h.1 st'
  | .inr (.inr (.inl r)) => ∀ v, r = some v → okV false h.1 v
  | .inr (.inr (.inr ())) => True
theorem okL_set {hs : Bool} {n i : Nat} {ds : List Nat} {ls : zL} {v : zV} (h : okL hs n ds ls) (hv : okV hs n v) (hd : dbl v = true → i ∈ ds) : okL hs n ds (ls.set i (some v)) := by
  intro j w hj
  rw [List.getElem?_set] at hj
  split at hj
  next e =>
    split at hj
    · cases hj; exact ⟨hv, fun q => e ▸ hd q⟩
    · cases hj
  next => exact h j w hj
theorem okL_none {hs : Bool} {n i : Nat} {ds : List Nat} {ls : zL} (h : okL hs n ds ls) : okL hs n ds (ls.set i none) := by
  intro j w hj
  rw [List.getElem?_set] at hj
  split at hj
  next e =>
    split at hj
    · cases hj
    · cases hj
  next => exact h j w hj
theorem okH_u {h : zH} {k : Nat} {c : zC} (ho : okH h) (hc : okC h.1 c) : okH (zuH h k c) := by
  intro j hj
  rw [zgt_u]
  split
  · exact hc
  · exact ho j hj
theorem okH_a {h : zH} {n : Nat} {c : zC} (ho : okH h) (hc : okC (h.1 + 1) c) : okH (zaH h n c) := by
  intro j hj
  rw [zgt_a]
  split
  · exact hc
  · exact okC_mono (ho j (by have : j < h.1 + 1 := hj; omega)) (Nat.le_succ _)
theorem okV_f {hs : Bool} {n : Nat} {v : zV} (h : okV false n v) : okV hs n v := by
  rcases v with z | (_ | k) | b | b | u
  · exact h
  · exact h
  · exact h
  · exact h
  · exact h
  · cases h
theorem okV_p {hs : Bool} {n : Nat} {v : zV} (h : okV hs n v) (hp : zplain0 v = true) : okV false n v := by
  rcases v with z | (_ | k) | b | b | u
  · exact h
  · exact h
  · exact h
  · cases hp
  · cases hp
  · cases hp
theorem okF_p {ci j : Nat} {v : zV} (h : okF ci j v = true) : zplain0 v = true := by
  unfold okF at h
  rcases v with z | (_ | k) | b | b | u
  · rfl
  · rfl
  · rfl
  · split at h <;> simp_all
  · split at h <;> simp_all
  · split at h <;> simp_all
theorem okS_tl {hs : Bool} {n : Nat} {v : zV} {st : List zV} (h : okS hs n (v :: st)) : okV hs n v ∧ okS hs n st := ⟨h v List.mem_cons_self, fun w hw => h w (List.mem_cons_of_mem _ hw)⟩
theorem okS_c {hs : Bool} {n : Nat} {v : zV} {st : List zV} (h1 : okV hs n v) (h : okS hs n st) : okS hs n (v :: st) := by
  intro w hw
  rcases List.mem_cons.mp hw with rfl | hw
  · exact h1
  · exact h w hw
section OK
variable {hs : Bool} {ds : List Nat} {ls : zL} {h : zH} {st : List zV} {i : Nat} {sc : Nat × (Int → Int)}
theorem okP_nx {i' : Nat} {st' : List zV} (hH : okH h) (hL : okL hs h.1 ds ls) (hS : okS hs h.1 st') : okP hs ds ls h (.inl (i', ls, st', h)) := ⟨hH, hL, hS, Nat.le_refl _, Nat.le_refl _, rfl⟩
theorem okP_ls {i' : Nat} {st' : List zV} {ls' : zL} (hH : okH h) (hL : okL hs h.1 ds ls') (hS : okS hs h.1 st') (hl : ls'.length = ls.length) : okP hs ds ls h (.inl (i', ls', st', h)) := ⟨hH, hL, hS, Nat.le_refl _, Nat.le_refl _, hl⟩
theorem okP_u {i' k : Nat} {c : zC} {st' : List zV} (hH : okH (zuH h k c)) (hL : okL hs h.1 ds ls) (hS : okS hs h.1 st') : okP hs ds ls h (.inl (i', ls, st', zuH h k c)) := ⟨hH, hL, hS, Nat.le_refl _, Nat.le_refl _, rfl⟩
theorem okP_a {i' n : Nat} {c : zC} {st' : List zV} (hH : okH (zaH h n c)) (hL : okL hs h.1 ds ls) (hS : okS hs (h.1 + 1) st') : okP hs ds ls h (.inl (i', ls, st', zaH h n c)) := ⟨hH, okL_mono hL (Nat.le_succ _), hS, Nat.le_succ _, Nat.le_add_right _ _, rfl⟩
theorem swK_P {P : zP → Prop} {x : Int} {f : Nat → zP} {d : Nat} (hf : ∀ t, P (f t)) : ∀ tb : List (Int × Nat), P (swK tb x f d)
  | [] => hf d
  | (k, t) :: r => by
    unfold swK
    split
    · exact hf t
    · exact swK_P hf r
set_option maxHeartbeats 4000000 in
theorem zexR_ok {op : Op} (hop : zopk ds op = true) (hsc : ∀ x, inR (sc.2 x)) (hsl : sc.1 < 2147483648) (hH : okH h) (hL : okL hs h.1 ds ls) (hS : okS hs h.1 st) (hk : ∀ k c, zgt h k = c → (∃ v ∈ st, v = aR k) → okC h.1 c) : okP hs ds ls h (zexR i ls st h sc op) := by
  simp only [zopk, Bool.and_eq_true, Bool.or_eq_true, bne_iff_ne, decide_eq_true_eq, List.contains_iff_mem] at hop
  obtain ⟨o1, o2, o3⟩ := hop
  unfold zexR zex
  split
  next e => exact okP_nx hH hL (okS_c (o1.resolve_left (by omega)) hS)
  next => unfold x_iload; split
          next z hz => exact okP_nx hH hL (okS_c (hL _ _ hz).1 hS)
          next => trivial
  next => unfold x_istore; split
          next z st' => exact okP_ls hH (okL_set hL (okS_tl hS).1 (fun q => by cases q)) (okS_tl hS).2 (List.length_set ..)
          next => trivial
  next => unfold x_iinc; split
          next x hz => exact okP_ls hH (okL_set hL (inR_wr _) (fun q => by cases q)) hS (List.length_set ..)
          next => trivial
  next => unfold x_aload; split
          next r hz => exact okP_nx hH hL (okS_c (hL _ _ hz).1 hS)
          next hz => exact okP_nx hH hL (okS_c (hL _ _ hz).1 hS)
          next => trivial
  next => unfold x_astore; split
          next r st' => exact okP_ls hH (okL_set hL (okS_tl hS).1 (fun q => by cases q)) (okS_tl hS).2 (List.length_set ..)
          next => trivial
  next => exact okP_nx hH hL hS
  next => unfold x_getf; split
          next k st' =>
            unfold getK; split
            next c fs hg =>
              split
              next =>
                split
                next v hv =>
                  have hc := hk k _ hg ⟨_, List.mem_cons_self, rfl⟩
                  exact okP_nx hH hL (okS_c (okV_f (hc.2.2 _ _ hv).2) (okS_tl hS).2)
                next => trivial
              next => trivial
            next => trivial
          next => trivial
  next => unfold x_putf; split
          next v k st' =>
            split
            next hf =>
              unfold putK; split
              next c fs hg =>
                split
                next hci =>
                  have hc := hk k _ hg ⟨_, List.mem_cons_of_mem _ List.mem_cons_self, rfl⟩
                  refine okP_u (okH_u hH ⟨hc.1, by rw [List.length_set]; exact hc.2.1, fun j w hj => ?_⟩) hL (okS_tl (okS_tl hS).2).2
                  rw [List.getElem?_set] at hj
                  split at hj
                  next e =>
                    split at hj
                    · cases hj; rw [← e, hci]; exact ⟨hf, okV_p (okS_tl hS).1 (okF_p hf)⟩
                    · cases hj
                  next => exact hc.2.2 j w hj
                next => trivial
              next => trivial
            next => trivial
          next => trivial
  next => unfold x_iald; split
          next x k st' =>
            unfold ialK; split
            next n g hg =>
              split
              next =>
                have hc := hk k _ hg ⟨_, List.mem_cons_of_mem _ List.mem_cons_self, rfl⟩
                exact okP_nx hH hL (okS_c (hc.2 _) (okS_tl (okS_tl hS).2).2)
              next => trivial
            next => trivial
          next x st' =>
            split
            next => exact okP_nx hH hL (okS_c (hsc _) (okS_tl (okS_tl hS).2).2)
            next => trivial
          next => trivial
  next => unfold x_iast; split
          next z x k st' =>
            unfold iasK; split
            next n g hg =>
              split
              next =>
                have hc := hk k _ hg ⟨_, List.mem_cons_of_mem _ (List.mem_cons_of_mem _ List.mem_cons_self), rfl⟩
                refine okP_u (okH_u hH ⟨hc.1, fun j => ?_⟩) hL (okS_tl (okS_tl (okS_tl hS).2).2).2
                unfold zup
                split
                · exact (okS_tl hS).1
                · exact hc.2 j
              next => trivial
            next => trivial
          next => trivial
  next => unfold x_aald; split
          next x k st' =>
            unfold aalK; split
            next n g hg =>
              split
              next =>
                have hc := hk k _ hg ⟨_, List.mem_cons_of_mem _ List.mem_cons_self, rfl⟩
                refine okP_nx hH hL (okS_c ?_ (okS_tl (okS_tl hS).2).2)
                cases hq : g x with
                | none => trivial
                | some y => exact hc.2 _ _ hq
              next => trivial
            next => trivial
          next => trivial
  next => unfold x_aast; split
          next v x k st' =>
            unfold aasK; split
            next n g hg =>
              split
              next =>
                have hc := hk k _ hg ⟨_, List.mem_cons_of_mem _ (List.mem_cons_of_mem _ List.mem_cons_self), rfl⟩
                refine okP_u (okH_u hH ⟨hc.1, fun j y hy => ?_⟩) hL (okS_tl (okS_tl (okS_tl hS).2).2).2
                unfold zup at hy
                split at hy
                · cases hy; exact (okS_tl hS).1
                · exact hc.2 j y hy
              next => trivial
            next => trivial
          next => trivial
  next => unfold x_alen; split
          next k st' =>
            unfold alnK; split
            next n f hg =>
              have hc := hk k _ hg ⟨_, List.mem_cons_self, rfl⟩
              refine okP_nx hH hL (okS_c ?_ (okS_tl hS).2)
              have := hc.1
              show inR _
              unfold inR; omega
            next => trivial
          next st' =>
            refine okP_nx hH hL (okS_c ?_ (okS_tl hS).2)
            show inR _
            unfold inR; omega
          next => trivial
  next => unfold x_newa; split
          next n st' =>
            split
            next q => exact okP_a (okH_a hH ⟨by omega, fun _ => inR_0⟩) hL (okS_c (Nat.lt_succ_self _) (okS_mono (okS_tl hS).2 (Nat.le_succ _)))
            next => trivial
          next => trivial
  next => unfold x_anew; split
          next n st' =>
            split
            next q => exact okP_a (okH_a hH ⟨by omega, fun _ _ q => by cases q⟩) hL (okS_c (Nat.lt_succ_self _) (okS_mono (okS_tl hS).2 (Nat.le_succ _)))
            next => trivial
          next => trivial
  next => unfold x_new
          have hci := o3.resolve_left (by omega)
          exact okP_a (okH_a hH ⟨hci, (newF_ok (n := h.1 + 1) hci).1, (newF_ok hci).2⟩) hL (okS_c (Nat.lt_succ_self _) (okS_mono hS (Nat.le_succ _)))
  next => unfold x_dup; split
          next z st' => exact okP_nx hH hL (okS_c (okS_tl hS).1 hS)
          next z st' => exact okP_nx hH hL (okS_c (okS_tl hS).1 hS)
          next => trivial
  next => unfold x_pop; split
          next z st' => exact okP_nx hH hL (okS_tl hS).2
          next z st' => exact okP_nx hH hL (okS_tl hS).2
          next => trivial
  next => unfold x_dup2; split
          next z r st' => exact okP_nx hH hL (okS_c (okS_tl hS).1 (okS_c (okS_tl (okS_tl hS).2).1 hS))
          next => trivial
  next => unfold x_ifnull; split
          next st' => exact okP_nx hH hL (okS_tl hS).2
          next z st' => exact okP_nx hH hL (okS_tl hS).2
          next => trivial
  next => unfold x_ifnonnull; split
          next st' => exact okP_nx hH hL (okS_tl hS).2
          next z st' => exact okP_nx hH hL (okS_tl hS).2
          next => trivial
  next => unfold x_calls; split
          next q =>
            have hp := List.all_eq_true.mp q.2
            exact ⟨fun v hv => hS v (List.mem_of_mem_take (List.mem_reverse.mp hv)), fun v hv => hp v (List.mem_reverse.mp hv), fun v hv => hS v (List.mem_of_mem_drop hv)⟩
          next => trivial
  next => unfold x_callv; split
          next q =>
            have hp := List.all_eq_true.mp q.1.2
            exact ⟨fun v hv => hS v (List.mem_of_mem_take (List.mem_reverse.mp hv)), fun v hv => hp v (List.mem_reverse.mp hv), fun v hv => hS v (List.mem_of_mem_drop hv)⟩
          next => trivial
  next => unfold x_callv; split
          next q =>
            have hp := List.all_eq_true.mp q.1.2
            exact ⟨fun v hv => hS v (List.mem_of_mem_take (List.mem_reverse.mp hv)), fun v hv => hp v (List.mem_reverse.mp hv), fun v hv => hS v (List.mem_of_mem_drop hv)⟩
          next => trivial
  next => unfold x_vret; split
          next => exact fun v hv => by cases hv
          next => trivial
  next => unfold x_iret; split
          next => exact fun v hv => by cases hv; exact okV_p (okS_tl hS).1 rfl
          next => trivial
  next => unfold x_zret; split
          next => split
                  next => exact fun v hv => by cases hv; exact okV_p (okS_tl hS).1 rfl
                  next => trivial
          next => trivial
  next => unfold x_aret; split
          next => exact fun v hv => by cases hv; exact okV_p (okS_tl hS).1 rfl
          next => trivial
  next => unfold x_fret; split
          next => exact fun v hv => by cases hv; trivial
          next => trivial
  next => unfold x_oinit; split
          next => split
                  next => exact okP_nx hH hL (okS_tl hS).2
                  next => trivial
          next => trivial
  next => unfold x_sw; split
          next => exact swK_P (fun t => okP_nx hH hL (okS_tl hS).2) _
          next => trivial
  next => unfold x_i2f; split
          next => exact okP_nx hH hL (okS_c trivial (okS_tl hS).2)
          next => trivial
  next => unfold x_fdiv; split
          next => split
                  next => exact okP_nx hH hL (okS_c trivial (okS_tl (okS_tl hS).2).2)
                  next => trivial
          next => trivial
  next => unfold x_f2d; split
          next => split
                  next => exact okP_nx hH hL (okS_c trivial (okS_tl hS).2)
                  next => trivial
          next => trivial
  next => unfold x_dcmp; split
          next => exact okP_nx hH hL (okS_c (zi_in _) (okS_tl (okS_tl hS).2).2)
          next => trivial
  next => exact okP_nx hH hL (okS_c trivial hS)
  next => unfold x_dload; split
          next => exact okP_nx hH hL (okS_c trivial hS)
          next => trivial
  next e => unfold x_dstore; split
            next b st' => exact okP_ls hH (okL_none (okL_set hL trivial (fun _ => o2.resolve_left (by omega)))) (okS_tl hS).2 (by rw [List.length_set, List.length_set])
            next => trivial
  iterate 3
    next => unfold x_bin; split
            next => exact okP_nx hH hL (okS_c (inR_wr _) (okS_tl (okS_tl hS).2).2)
            next => trivial
  next => unfold x_binC; split
          next => split
                  next q => exact okP_nx hH hL (okS_c (zi_divIn (okS_tl (okS_tl hS).2).1 q.1 q.2) (okS_tl (okS_tl hS).2).2)
                  next => trivial
          next => trivial
  next => unfold x_binC; split
          next => split
                  next q => exact okP_nx hH hL (okS_c (zi_modIn (okS_tl hS).1 q.2) (okS_tl (okS_tl hS).2).2)
                  next => trivial
          next => trivial
  iterate 4
    next => unfold x_bin; split
            next => exact okP_nx hH hL (okS_c (zi_in _) (okS_tl (okS_tl hS).2).2)
            next => trivial
  next => unfold x_binS; split
          next y x st' =>
            split
            next => exact okP_nx hH hL (okS_c (by have h1 := (okS_tl hS).1; have h2 := (okS_tl (okS_tl hS).2).1; show okV hs h.1 (Sum.inl (if x < y then y else x)); split; exact h1; exact h2) (okS_tl (okS_tl hS).2).2)
            next => trivial
          next => trivial
  iterate 6
    next => unfold x_if; split
            next => split
                    next => exact okP_nx hH hL (okS_tl hS).2
                    next => exact okP_nx hH hL (okS_tl hS).2
            next => trivial
  next => unfold x_binS; split
          next y x st' =>
            split
            next => exact okP_nx hH hL (okS_c (by have h1 := (okS_tl hS).1; have h2 := (okS_tl (okS_tl hS).2).1; show okV hs h.1 (Sum.inl (if y < x then y else x)); split; exact h1; exact h2) (okS_tl (okS_tl hS).2).2)
            next => trivial
          next => trivial
  next => unfold x_fcmp; split
          next => exact okP_nx hH hL (okS_c (zi_in _) (okS_tl (okS_tl hS).2).2)
          next => trivial
  iterate 6
    next => unfold x_icmp; split
            next => split
                    next => exact okP_nx hH hL (okS_tl (okS_tl hS).2).2
                    next => exact okP_nx hH hL (okS_tl (okS_tl hS).2).2
            next => trivial
  next => trivial
end OK

/-! RUNS -/
theorem zrun_s (sc : Nat × (Int → Int)) (n m i : Nat) (ls : zL) (st : List zV) (h : zH) : zrun sc (n + 1) m i ls st h = zel (fun i' ls' st' h' => zrun sc n m i' ls' st' h') (fun m' as st' => (zrun sc n m' 0 (zen m' as) [] h).bind (fun r => zrun sc n m (i + 1) ls (r.1.toList ++ st') r.2)) (fun r => some (r, h)) none (zexR i ls st h sc (zfe m i)) := by
  rw [zrun, zex_el]
theorem zen_ok {hs : Bool} {n m : Nat} {ds : List Nat} {as : List zV} (h : okS hs n as) (hp : ∀ v ∈ as, zplain v = true) : okL hs n ds (zen m as) := by
  intro i v hv
  have hm : some v ∈ zen m as := List.mem_of_getElem? hv
  unfold zen at hm
  rcases List.mem_append.mp hm with h1 | h1
  · obtain ⟨w, hw, e⟩ := List.mem_map.mp h1
    cases e
    refine ⟨h v hw, fun q => ?_⟩
    have := hp v hw
    rcases v with z | (_ | k) | b | b | u
    · cases q
    · cases q
    · cases q
    · cases q
    · cases this
    · cases q
  · have := List.eq_of_mem_replicate h1
    cases this
theorem run_ok {sc : Nat × (Int → Int)} (hsc : ∀ x, inR (sc.2 x)) (hsl : sc.1 < 2147483648) : ∀ (n : Nat) (hs : Bool) (m i : Nat) (ls : zL) (st : List zV) (h : zH) (r : Option zV) (h' : zH), zrun sc n m i ls st h = some (r, h') → okH h → okL hs h.1 (zds m) ls → okS hs h.1 st → okH h' ∧ (∀ v, r = some v → okV false h'.1 v) ∧ h.1 ≤ h'.1 ∧ h.2.1 ≤ h'.2.1 := by
  intro n
  induction n with
  | zero => intro hs m i ls st h r h' hr; cases hr
  | succ n ih =>
    intro hs m i ls st h r h' hr hH hL hS
    rw [zrun_s] at hr
    have ho := zexR_ok (i := i) (sc := sc) (opk m i) hsc hsl hH hL hS (fun k c hc hm => by
      obtain ⟨v, hv, e⟩ := hm
      rw [← hc]
      have := hS v hv
      rw [e] at this
      exact hH k this)
    generalize zexR i ls st h sc (zfe m i) = ρ at hr ho
    rcases ρ with ⟨i', ls', st', h1⟩ | ⟨m', as, st'⟩ | r1 | u
    · obtain ⟨a1, a2, a3, a4, a5, a6⟩ := ho
      obtain ⟨b1, b2, b3, b4⟩ := ih hs m i' ls' st' h1 r h' hr a1 a2 a3
      exact ⟨b1, b2, Nat.le_trans a4 b3, Nat.le_trans a5 b4⟩
    · obtain ⟨a1, a2, a3⟩ := ho
      have hr : (zrun sc n m' 0 (zen m' as) [] h).bind (fun r => zrun sc n m (i + 1) ls (r.1.toList ++ st') r.2) = some (r, h') := hr
      cases hc : zrun sc n m' 0 (zen m' as) [] h with
      | none => rw [hc] at hr; cases hr
      | some x =>
        obtain ⟨r1, h1⟩ := x
        rw [hc] at hr
        have hr : zrun sc n m (i + 1) ls (r1.toList ++ st') h1 = some (r, h') := hr
        obtain ⟨b1, b2, b3, b4⟩ := ih hs m' 0 _ [] h r1 h1 hc hH (zen_ok a1 a2) (fun v hv => by cases hv)
        obtain ⟨c1, c2, c3, c4⟩ := ih hs m (i + 1) ls _ h1 r h' hr b1 (okL_mono hL b3) (fun v hv => by
          rcases List.mem_append.mp hv with q | q
          · exact okV_f (b2 v (by cases r1 with | none => cases q | some w => rw [List.mem_singleton.mp q]))
          · exact okV_mono (a3 v q) b3)
        exact ⟨c1, c2, Nat.le_trans b3 c3, Nat.le_trans b4 c4⟩
    · have hr : some (r1, h) = some (r, h') := hr
      cases hr
      exact ⟨hH, ho, Nat.le_refl _, Nat.le_refl _⟩
    · cases hr
theorem run_mono {sc : Nat × (Int → Int)} : ∀ (n m i : Nat) (ls : zL) (st : List zV) (h : zH) (x : zR), zrun sc n m i ls st h = some x → ∀ k, zrun sc (n + k) m i ls st h = some x := by
  intro n
  induction n with
  | zero => intro m i ls st h x hr; cases hr
  | succ n ih =>
    intro m i ls st h x hr k
    rw [show n + 1 + k = (n + k) + 1 by omega, zrun_s]
    rw [zrun_s] at hr
    generalize zexR i ls st h sc (zfe m i) = ρ at hr ⊢
    rcases ρ with ⟨i', ls', st', h1⟩ | ⟨m', as, st'⟩ | r1 | u
    · exact ih m i' ls' st' h1 x hr k
    · have hr : (zrun sc n m' 0 (zen m' as) [] h).bind (fun r => zrun sc n m (i + 1) ls (r.1.toList ++ st') r.2) = some x := hr
      show (zrun sc (n + k) m' 0 (zen m' as) [] h).bind (fun r => zrun sc (n + k) m (i + 1) ls (r.1.toList ++ st') r.2) = some x
      cases hc : zrun sc n m' 0 (zen m' as) [] h with
      | none => rw [hc] at hr; cases hr
      | some y =>
        rw [hc] at hr
        rw [ih m' 0 _ [] h y hc k]
        exact ih m (i + 1) ls _ y.2 x hr k
    · exact hr
    · cases hr
end
section
/-! THE SMALL MACHINE'S STEPS AGAINST THE GREAT ONE'S -/
abbrev zNX : Nat → zL → List zV → zH → zP := fun a b c d => .inl (a, b, c, d)
abbrev zCL : Nat → List zV → List zV → zP := fun a b c => .inr (.inl (a, b, c))
abbrev zRT : Option zV → zP := fun r => .inr (.inr (.inl r))
abbrev zBAD : zP := .inr (.inr (.inr ()))
def zR1 (sc : Nat × (Int → Int)) (n m i : Nat) (ls : zL) (h : zH) (ρ : zP) : Option zR := zel (fun i' ls' st' h' => zrun sc n m i' ls' st' h') (fun m' as st' => (zrun sc n m' 0 (zen m' as) [] h).bind (fun r => zrun sc n m (i + 1) ls (r.1.toList ++ st') r.2)) (fun r => some (r, h)) none ρ
def zCx (p : Program) (s : State) (m : MethodId) (args : Array Value) (meth : Method) (c : Code) (R : Room) (mi : Nat) (D : va_G) (cI cD : ClassId) (bS : Nat) (sc : Nat × (Int → Int)) (hs : Bool) (A : Nat → Prop) (H0 : Heap) : Prop :=
  p.tables.exec = Jvm.exec ∧ c.code = (zMI mi).2.1 ∧ c.maxLocals = (zMI mi).2.2.1 ∧ s.vm.findClass (zN (zMI mi).2.2.2.2.1) = some m.cls ∧ (∀ w ∈ zG, w.before args s = true) ∧ va_K D vwCl [(cI, .int), (cD, .object RX0)] s ∧ va_AO RX0 s ∧ (∀ q ∈ ctab, q.2.2.1 = 2 → va_Nw (cpW q) s) ∧ ((zMI mi).2.2.2.2.2 = 2 → meth.name = "<init>") ∧ rmF.getD mi 0 ≤ R.frames ∧ rmL.getD mi 0 ≤ R.locals ∧ (∀ q, H0.size ≤ q → A q) ∧ (hs = true → va_X bS sc.1 (fun j => Int32.ofInt (sc.2 j)) s H0 ∧ bS < H0.size ∧ ¬ A bS)
def zSt (mi : Nat) (D : va_G) (cI cD : ClassId) (bS : Nat) (hs : Bool) (A : Nat → Prop) (H0 : Heap) (n0 s0 hb : Nat) (ad0 : Nat → Nat) (ls : zL) (st : List zV) (h : zH) (H : Heap) (locs : List Loc) (cells slots : Nat) (lsC : Array Slot) (ad : Nat → Nat) : Prop :=
  okH h ∧ okL hs h.1 (zds mi) ls ∧ okS hs h.1 st ∧ va_P D vwCl (cw cI cD bS ad h) H ∧ va_D A (cw cI cD bS ad h) ∧ va_S A H0 H locs ∧ lR bS ad (zMI mi).2.2.1 ls lsC ∧ n0 + cells = h.1 ∧ s0 + slots = h.2.1 ∧ (∀ k, k < hb → ad k = ad0 k) ∧ hb ≤ h.1
def zG0 (p : Program) (l : Launch) (e : Env) (R : Room) (s : State) (m : MethodId) (args : Array Value) (below : List Frame) (meth : Method) (c : Code) (Q : State → Prop) (mi : Nat) (D : va_G) (cI cD : ClassId) (bS : Nat) (sc : Nat × (Int → Int)) (hs : Bool) (A : Nat → Prop) (H0 : Heap) (n0 s0 hb : Nat) (ad0 : Nat → Nat) (r : Option zV) (h' : zH) (n : Nat) : Prop :=
  ∀ (i : Nat) (ls : zL) (st : List zV) (h : zH) (H : Heap) (locs : List Loc) (cells slots : Nat) (lsC : Array Slot) (ad : Nat → Nat), zrun sc n mi i ls st h = some (r, h') → zSt mi D cI cD bS hs A H0 n0 s0 hb ad0 ls st h H locs cells slots lsC ad → W p l e R s m args below meth c H locs cells slots Q (F0 m (zpc mi i) lsC (st.map (vC bS ad)))
section SIM
variable {p : Program} {l : Launch} {e : Env} {R : Room} {s : State} {m : MethodId} {args : Array Value} {below : List Frame} {meth : Method} {c : Code} {Q : State → Prop}
variable {mi : Nat} {D : va_G} {cI cD : ClassId} {bS : Nat} {sc : Nat × (Int → Int)} {hs : Bool} {A : Nat → Prop} {H0 : Heap} {n0 s0 hb : Nat} {ad0 : Nat → Nat} {r : Option zV} {h' : zH} {n : Nat}
variable {i : Nat} {ls : zL} {st : List zV} {h : zH} {H : Heap} {locs : List Loc} {cells slots : Nat} {lsC : Array Slot} {ad : Nat → Nat}
theorem zf (K : zG0 p l e R s m args below meth c Q mi D cI cD bS sc hs A H0 n0 s0 hb ad0 r h' n) {st0 : List zV} (Z : zSt mi D cI cD bS hs A H0 n0 s0 hb ad0 ls st0 h H locs cells slots lsC ad) {i' pc' : Nat} {st' : List zV} {stC : List Value} (hr : zrun sc n mi i' ls st' h = some (r, h')) (ho : okP hs (zds mi) ls h (.inl (i', ls, st', h))) (hpc : zpc mi i' = pc') (hst : st'.map (vC bS ad) = stC) : W p l e R s m args below meth c H locs cells slots Q (F0 m pc' lsC stC) := by
  obtain ⟨z1, z2, z3, z4, z5, z6, z7, z8, z9, z10, z11⟩ := Z
  subst hpc; subst hst
  exact K i' ls st' h H locs cells slots lsC ad hr ⟨ho.1, ho.2.1, ho.2.2.1, z4, z5, z6, z7, z8, z9, z10, z11⟩
theorem zfl (K : zG0 p l e R s m args below meth c Q mi D cI cD bS sc hs A H0 n0 s0 hb ad0 r h' n) {st0 : List zV} (Z : zSt mi D cI cD bS hs A H0 n0 s0 hb ad0 ls st0 h H locs cells slots lsC ad) {i' pc' : Nat} {ls' : zL} {lsC' : Array Slot} {st' : List zV} {stC : List Value} (hr : zrun sc n mi i' ls' st' h = some (r, h')) (ho : okP hs (zds mi) ls h (.inl (i', ls', st', h))) (hl : lR bS ad (zMI mi).2.2.1 ls' lsC') (hpc : zpc mi i' = pc') (hst : st'.map (vC bS ad) = stC) : W p l e R s m args below meth c H locs cells slots Q (F0 m pc' lsC' stC) := by
  obtain ⟨z1, z2, z3, z4, z5, z6, z7, z8, z9, z10, z11⟩ := Z
  subst hpc; subst hst
  exact K i' ls' st' h H locs cells slots lsC' ad hr ⟨ho.1, ho.2.1, ho.2.2.1, z4, z5, z6, hl, z8, z9, z10, z11⟩
theorem zfh (K : zG0 p l e R s m args below meth c Q mi D cI cD bS sc hs A H0 n0 s0 hb ad0 r h' n) {st0 : List zV} (Z : zSt mi D cI cD bS hs A H0 n0 s0 hb ad0 ls st0 h H locs cells slots lsC ad) {i' pc' k : Nat} {cc : zC} {H1 : Heap} {locs1 : List Loc} {st' : List zV} {stC : List Value} (hr : zrun sc n mi i' ls st' (zuH h k cc) = some (r, h')) (ho : okP hs (zds mi) ls h (.inl (i', ls, st', zuH h k cc))) (hk : k < h.1) (hP : va_P D vwCl ((cw cI cD bS ad h).set k (ad k, cE cI cD bS ad cc)) H1) (hD : va_D A ((cw cI cD bS ad h).set k (ad k, cE cI cD bS ad cc))) (hS : va_S A H0 H1 locs1) (hpc : zpc mi i' = pc') (hst : st'.map (vC bS ad) = stC) : W p l e R s m args below meth c H1 locs1 cells slots Q (F0 m pc' lsC stC) := by
  obtain ⟨z1, z2, z3, z4, z5, z6, z7, z8, z9, z10, z11⟩ := Z
  subst hpc; subst hst
  rw [cw_set hk] at hP hD
  exact K i' ls st' (zuH h k cc) H1 locs1 cells slots lsC ad hr ⟨ho.1, ho.2.1, ho.2.2.1, hP, hD, hS, z7, z8, z9, z10, z11⟩
theorem zfa (K : zG0 p l e R s m args below meth c Q mi D cI cD bS sc hs A H0 n0 s0 hb ad0 r h' n) {st0 : List zV} (Z : zSt mi D cI cD bS hs A H0 n0 s0 hb ad0 ls st0 h H locs cells slots lsC ad) {i' pc' sz q : Nat} {cc : zC} {ec : va_E} {H1 : Heap} {locs1 : List Loc} {st' : List zV} {stC : List Value} (hr : zrun sc n mi i' ls (.inr (.inl (some h.1)) :: st') (zaH h sz cc) = some (r, h')) (ho : okP hs (zds mi) ls h (.inl (i', ls, .inr (.inl (some h.1)) :: st', zaH h sz cc))) (hec : ∀ ad', cE cI cD bS ad' cc = ec) (hP : va_P D vwCl (cw cI cD bS ad h ++ [(q, ec)]) H1) (hD : va_D A (cw cI cD bS ad h ++ [(q, ec)])) (hS : va_S A H0 H1 locs1) (hpc : zpc mi i' = pc') (ho2 : okS hs h.1 st') (hst : .ref q :: st'.map (vC bS ad) = stC) : W p l e R s m args below meth c H1 locs1 (cells + 1) (slots + sz) Q (F0 m pc' lsC stC) := by
  obtain ⟨z1, z2, z3, z4, z5, z6, z7, z8, z9, z10, z11⟩ := Z
  subst hpc; subst hst
  have ha : ∀ k, k < h.1 → (fun k => if k = h.1 then q else ad k) k = ad k := fun k hk => if_neg (by omega)
  have hq : (fun k => if k = h.1 then q else ad k) h.1 = q := if_pos rfl
  generalize (fun k => if k = h.1 then q else ad k) = ad' at ha hq
  rw [← hec ad', cw_push (n := sz) z1 ha hq] at hP hD
  have hW := K i' ls (.inr (.inl (some h.1)) :: st') (zaH h sz cc) H1 locs1 (cells + 1) (slots + sz) lsC ad' hr ⟨ho.1, ho.2.1, ho.2.2.1, hP, hD, hS, lR_agree z7 z2 ha, by show n0 + (cells + 1) = h.1 + 1; omega, by show s0 + (slots + sz) = h.2.1 + sz; omega, fun k hk => by rw [ha k (by omega)]; exact z10 k hk, by show hb ≤ h.1 + 1; omega⟩
  have hm : (.inr (.inl (some h.1)) :: st' : List zV).map (vC bS ad') = .ref q :: st'.map (vC bS ad) := by
    rw [List.map_cons]
    congr 1
    · show Value.ref _ = _
      rw [hq]
    · exact List.map_congr_left (fun v hv => vC_agree (ho2 v hv) ha)
  rw [hm] at hW
  exact hW
theorem zs_const (C : zCx p s m args meth c R mi D cI cD bS sc hs A H0) (K : zG0 p l e R s m args below meth c Q mi D cI cD bS sc hs A H0 n0 s0 hb ad0 r h' n) (Z : zSt mi D cI cD bS hs A H0 n0 s0 hb ad0 ls st h H locs cells slots lsC ad) {z : Int} (hr : zR1 sc n mi i ls h (.inl (i + 1, ls, .inl z :: st, h)) = some (r, h')) (ho : okP hs (zds mi) ls h (.inl (i + 1, ls, .inl z :: st, h))) {d : Nat} (hw : W p l e R s m args below meth c H locs cells slots Q (F0 m (zpc mi i + d) lsC (.int (Int32.ofInt z) :: st.map (vC bS ad))) → W p l e R s m args below meth c H locs cells slots Q (F0 m (zpc mi i) lsC (st.map (vC bS ad)))) (hnx : zpc mi (i + 1) = zpc mi i + d) : W p l e R s m args below meth c H locs cells slots Q (F0 m (zpc mi i) lsC (st.map (vC bS ad))) :=
  hw (zf K Z hr ho hnx rfl)
theorem zs_iload_n (C : zCx p s m args meth c R mi D cI cD bS sc hs A H0) (K : zG0 p l e R s m args below meth c Q mi D cI cD bS sc hs A H0 n0 s0 hb ad0 r h' n) (Z : zSt mi D cI cD bS hs A H0 n0 s0 hb ad0 ls st h H locs cells slots lsC ad) {a : Nat} {k : Fin 4} (hk : a = k.val) (hr : zR1 sc n mi i ls h (x_iload i ls st h zNX zBAD a) = some (r, h')) (ho : okP hs (zds mi) ls h (x_iload i ls st h zNX zBAD a)) (hd : decode (zMI mi).2.1 (zpc mi i) = .ok (.iload_n k, 1)) (hnx : zpc mi (i + 1) = zpc mi i + 1) : W p l e R s m args below meth c H locs cells slots Q (F0 m (zpc mi i) lsC (st.map (vC bS ad))) := by
  unfold x_iload at hr ho
  split at hr
  next z hz =>
    try dsimp only at ho
    rw [hz] at ho
    have hl := lR_get Z.2.2.2.2.2.2.1 hz
    exact lv_iload_n C.1 C.2.1 hd hk.symm hl (zf K Z hr ho hnx rfl)
  next => cases hr
theorem zs_iload (C : zCx p s m args meth c R mi D cI cD bS sc hs A H0) (K : zG0 p l e R s m args below meth c Q mi D cI cD bS sc hs A H0 n0 s0 hb ad0 r h' n) (Z : zSt mi D cI cD bS hs A H0 n0 s0 hb ad0 ls st h H locs cells slots lsC ad) {a : Nat}  (hr : zR1 sc n mi i ls h (x_iload i ls st h zNX zBAD a) = some (r, h')) (ho : okP hs (zds mi) ls h (x_iload i ls st h zNX zBAD a)) (hd : decode (zMI mi).2.1 (zpc mi i) = .ok (.iload a, 2)) (hnx : zpc mi (i + 1) = zpc mi i + 2) : W p l e R s m args below meth c H locs cells slots Q (F0 m (zpc mi i) lsC (st.map (vC bS ad))) := by
  unfold x_iload at hr ho
  split at hr
  next z hz =>
    try dsimp only at ho
    rw [hz] at ho
    have hl := lR_get Z.2.2.2.2.2.2.1 hz
    exact lv_iload C.1 C.2.1 hd  hl (zf K Z hr ho hnx rfl)
  next => cases hr
theorem zs_aload_n (C : zCx p s m args meth c R mi D cI cD bS sc hs A H0) (K : zG0 p l e R s m args below meth c Q mi D cI cD bS sc hs A H0 n0 s0 hb ad0 r h' n) (Z : zSt mi D cI cD bS hs A H0 n0 s0 hb ad0 ls st h H locs cells slots lsC ad) {a : Nat} {k : Fin 4} (hk : a = k.val) (hr : zR1 sc n mi i ls h (x_aload i ls st h zNX zBAD a) = some (r, h')) (ho : okP hs (zds mi) ls h (x_aload i ls st h zNX zBAD a)) (hd : decode (zMI mi).2.1 (zpc mi i) = .ok (.aload_n k, 1)) (hnx : zpc mi (i + 1) = zpc mi i + 1) : W p l e R s m args below meth c H locs cells slots Q (F0 m (zpc mi i) lsC (st.map (vC bS ad))) := by
  unfold x_aload at hr ho
  split at hr
  next q hz =>
    try dsimp only at ho
    rw [hz] at ho
    have hl := lR_get Z.2.2.2.2.2.2.1 hz
    cases q with
    | none => exact lv_aload_nN C.1 C.2.1 hd hk.symm hl (zf K Z hr ho hnx rfl)
    | some q => exact lv_aload_n C.1 C.2.1 hd hk.symm hl (zf K Z hr ho hnx rfl)
  next hz =>
    try dsimp only at ho
    rw [hz] at ho
    have hl := lR_get Z.2.2.2.2.2.2.1 hz
    exact lv_aload_n C.1 C.2.1 hd hk.symm hl (zf K Z hr ho hnx rfl)
  next => cases hr
theorem zs_aload (C : zCx p s m args meth c R mi D cI cD bS sc hs A H0) (K : zG0 p l e R s m args below meth c Q mi D cI cD bS sc hs A H0 n0 s0 hb ad0 r h' n) (Z : zSt mi D cI cD bS hs A H0 n0 s0 hb ad0 ls st h H locs cells slots lsC ad) {a : Nat}  (hr : zR1 sc n mi i ls h (x_aload i ls st h zNX zBAD a) = some (r, h')) (ho : okP hs (zds mi) ls h (x_aload i ls st h zNX zBAD a)) (hd : decode (zMI mi).2.1 (zpc mi i) = .ok (.aload a, 2)) (hnx : zpc mi (i + 1) = zpc mi i + 2) : W p l e R s m args below meth c H locs cells slots Q (F0 m (zpc mi i) lsC (st.map (vC bS ad))) := by
  unfold x_aload at hr ho
  split at hr
  next q hz =>
    try dsimp only at ho
    rw [hz] at ho
    have hl := lR_get Z.2.2.2.2.2.2.1 hz
    cases q with
    | none => exact lv_aloadN C.1 C.2.1 hd  hl (zf K Z hr ho hnx rfl)
    | some q => exact lv_aload C.1 C.2.1 hd  hl (zf K Z hr ho hnx rfl)
  next hz =>
    try dsimp only at ho
    rw [hz] at ho
    have hl := lR_get Z.2.2.2.2.2.2.1 hz
    exact lv_aload C.1 C.2.1 hd  hl (zf K Z hr ho hnx rfl)
  next => cases hr
theorem zfil {a : Nat} (hL : okL hs h.1 (zds mi) ls) (hds : (zds mi).all (fun d => d + 1 != a) = true) : ∀ q ∈ zlv bS ad ls, q.1 ≠ a → (!(q.1 == a) && !(q.1 + 1 == a && q.2.category == 2)) = true := by
  intro q hq hne
  obtain ⟨v, h1, h2⟩ := zlv_mem.mp hq
  have hh := (hL _ _ h1).2
  rw [h2, vC_cat]
  simp only [Bool.and_eq_true, Bool.not_eq_true', beq_eq_false_iff_ne, Bool.and_eq_false_iff]
  refine ⟨hne, ?_⟩
  by_cases hd : dbl v = true
  · left
    have := List.all_eq_true.mp hds _ (hh hd)
    simpa using this
  · right
    rw [if_neg hd]
    decide
theorem zs_istore_n (C : zCx p s m args meth c R mi D cI cD bS sc hs A H0) (K : zG0 p l e R s m args below meth c Q mi D cI cD bS sc hs A H0 n0 s0 hb ad0 r h' n) (Z : zSt mi D cI cD bS hs A H0 n0 s0 hb ad0 ls st h H locs cells slots lsC ad) {a : Nat} {k : Fin 4} (hk : a = k.val) (hr : zR1 sc n mi i ls h (x_istore i ls st h zNX zBAD a) = some (r, h')) (ho : okP hs (zds mi) ls h (x_istore i ls st h zNX zBAD a)) (ha : a < (zMI mi).2.2.1) (hds : (zds mi).all (fun d => d + 1 != a) = true) (hd : decode (zMI mi).2.1 (zpc mi i) = .ok (.istore_n k, 1)) (hnx : zpc mi (i + 1) = zpc mi i + 1) : W p l e R s m args below meth c H locs cells slots Q (F0 m (zpc mi i) lsC (st.map (vC bS ad))) := by
  unfold x_istore at hr ho
  split at hr
  next z st' =>
    try dsimp only at ho
    have hL := Z.2.2.2.2.2.2.1
    exact lv_istore_n C.1 C.2.1 hd hk.symm hL.2 ha rfl (fun lsC' hl => zfl K Z hr ho (lR_set hL rfl hl (zfil Z.2.1 hds)) hnx rfl)
  next => cases hr
theorem zs_istore (C : zCx p s m args meth c R mi D cI cD bS sc hs A H0) (K : zG0 p l e R s m args below meth c Q mi D cI cD bS sc hs A H0 n0 s0 hb ad0 r h' n) (Z : zSt mi D cI cD bS hs A H0 n0 s0 hb ad0 ls st h H locs cells slots lsC ad) {a : Nat}  (hr : zR1 sc n mi i ls h (x_istore i ls st h zNX zBAD a) = some (r, h')) (ho : okP hs (zds mi) ls h (x_istore i ls st h zNX zBAD a)) (ha : a < (zMI mi).2.2.1) (hds : (zds mi).all (fun d => d + 1 != a) = true) (hd : decode (zMI mi).2.1 (zpc mi i) = .ok (.istore a, 2)) (hnx : zpc mi (i + 1) = zpc mi i + 2) : W p l e R s m args below meth c H locs cells slots Q (F0 m (zpc mi i) lsC (st.map (vC bS ad))) := by
  unfold x_istore at hr ho
  split at hr
  next z st' =>
    try dsimp only at ho
    have hL := Z.2.2.2.2.2.2.1
    exact lv_istore C.1 C.2.1 hd  hL.2 ha rfl (fun lsC' hl => zfl K Z hr ho (lR_set hL rfl hl (zfil Z.2.1 hds)) hnx rfl)
  next => cases hr
theorem zs_astore_n (C : zCx p s m args meth c R mi D cI cD bS sc hs A H0) (K : zG0 p l e R s m args below meth c Q mi D cI cD bS sc hs A H0 n0 s0 hb ad0 r h' n) (Z : zSt mi D cI cD bS hs A H0 n0 s0 hb ad0 ls st h H locs cells slots lsC ad) {a : Nat} {k : Fin 4} (hk : a = k.val) (hr : zR1 sc n mi i ls h (x_astore i ls st h zNX zBAD a) = some (r, h')) (ho : okP hs (zds mi) ls h (x_astore i ls st h zNX zBAD a)) (ha : a < (zMI mi).2.2.1) (hds : (zds mi).all (fun d => d + 1 != a) = true) (hd : decode (zMI mi).2.1 (zpc mi i) = .ok (.astore_n k, 1)) (hnx : zpc mi (i + 1) = zpc mi i + 1) : W p l e R s m args below meth c H locs cells slots Q (F0 m (zpc mi i) lsC (st.map (vC bS ad))) := by
  unfold x_astore at hr ho
  split at hr
  next q st' =>
    try dsimp only at ho
    have hL := Z.2.2.2.2.2.2.1
    cases q with
    | none => exact lv_astore_nN C.1 C.2.1 hd hk.symm hL.2 ha rfl (fun lsC' hl => zfl K Z hr ho (lR_set hL rfl hl (zfil Z.2.1 hds)) hnx rfl)
    | some q => exact lv_astore_n C.1 C.2.1 hd hk.symm hL.2 ha rfl (fun lsC' hl => zfl K Z hr ho (lR_set hL rfl hl (zfil Z.2.1 hds)) hnx rfl)
  next => cases hr
theorem zs_astore (C : zCx p s m args meth c R mi D cI cD bS sc hs A H0) (K : zG0 p l e R s m args below meth c Q mi D cI cD bS sc hs A H0 n0 s0 hb ad0 r h' n) (Z : zSt mi D cI cD bS hs A H0 n0 s0 hb ad0 ls st h H locs cells slots lsC ad) {a : Nat}  (hr : zR1 sc n mi i ls h (x_astore i ls st h zNX zBAD a) = some (r, h')) (ho : okP hs (zds mi) ls h (x_astore i ls st h zNX zBAD a)) (ha : a < (zMI mi).2.2.1) (hds : (zds mi).all (fun d => d + 1 != a) = true) (hd : decode (zMI mi).2.1 (zpc mi i) = .ok (.astore a, 2)) (hnx : zpc mi (i + 1) = zpc mi i + 2) : W p l e R s m args below meth c H locs cells slots Q (F0 m (zpc mi i) lsC (st.map (vC bS ad))) := by
  unfold x_astore at hr ho
  split at hr
  next q st' =>
    try dsimp only at ho
    have hL := Z.2.2.2.2.2.2.1
    cases q with
    | none => exact lv_astoreN C.1 C.2.1 hd  hL.2 ha rfl (fun lsC' hl => zfl K Z hr ho (lR_set hL rfl hl (zfil Z.2.1 hds)) hnx rfl)
    | some q => exact lv_astore C.1 C.2.1 hd  hL.2 ha rfl (fun lsC' hl => zfl K Z hr ho (lR_set hL rfl hl (zfil Z.2.1 hds)) hnx rfl)
  next => cases hr
theorem zs_iinc (C : zCx p s m args meth c R mi D cI cD bS sc hs A H0) (K : zG0 p l e R s m args below meth c Q mi D cI cD bS sc hs A H0 n0 s0 hb ad0 r h' n) (Z : zSt mi D cI cD bS hs A H0 n0 s0 hb ad0 ls st h H locs cells slots lsC ad) {a : Nat} {z : Int} (hr : zR1 sc n mi i ls h (x_iinc i ls st h zNX zBAD a z) = some (r, h')) (ho : okP hs (zds mi) ls h (x_iinc i ls st h zNX zBAD a z)) (ha : a < (zMI mi).2.2.1) (hds : (zds mi).all (fun d => d + 1 != a) = true) (hd : decode (zMI mi).2.1 (zpc mi i) = .ok (.iinc a z, 3)) (hnx : zpc mi (i + 1) = zpc mi i + 3) : W p l e R s m args below meth c H locs cells slots Q (F0 m (zpc mi i) lsC (st.map (vC bS ad))) := by
  unfold x_iinc at hr ho
  split at hr
  next x hz =>
    try dsimp only at ho
    rw [hz] at ho
    have hL := Z.2.2.2.2.2.2.1
    obtain ⟨k, hk⟩ := List.getElem?_of_mem (zlv_mem.mpr ⟨_, hz, rfl⟩ : (a, vC bS ad (.inl x)) ∈ zlv bS ad ls)
    exact lv_iinc C.1 C.2.1 hd hL.2 hk rfl ha rfl (fun lsC' hl => zfl K Z hr ho (lR_set hL (by show Value.int _ = Value.int _; rw [zi_add]) hl (zfil Z.2.1 hds)) hnx rfl)
  next => cases hr
theorem zs_dload (C : zCx p s m args meth c R mi D cI cD bS sc hs A H0) (K : zG0 p l e R s m args below meth c Q mi D cI cD bS sc hs A H0 n0 s0 hb ad0 r h' n) (Z : zSt mi D cI cD bS hs A H0 n0 s0 hb ad0 ls st h H locs cells slots lsC ad) {a : Nat} (hr : zR1 sc n mi i ls h (x_dload i ls st h zNX zBAD a) = some (r, h')) (ho : okP hs (zds mi) ls h (x_dload i ls st h zNX zBAD a)) (hd : decode (zMI mi).2.1 (zpc mi i) = .ok (.dload a, 2)) (hnx : zpc mi (i + 1) = zpc mi i + 2) : W p l e R s m args below meth c H locs cells slots Q (F0 m (zpc mi i) lsC (st.map (vC bS ad))) := by
  unfold x_dload at hr ho
  split at hr
  next b hz =>
    try dsimp only at ho
    rw [hz] at ho
    exact lv_dload C.1 C.2.1 hd (lR_get Z.2.2.2.2.2.2.1 hz) (zf K Z hr ho hnx rfl)
  next => cases hr
theorem zs_dstore (C : zCx p s m args meth c R mi D cI cD bS sc hs A H0) (K : zG0 p l e R s m args below meth c Q mi D cI cD bS sc hs A H0 n0 s0 hb ad0 r h' n) (Z : zSt mi D cI cD bS hs A H0 n0 s0 hb ad0 ls st h H locs cells slots lsC ad) {a : Nat} (hr : zR1 sc n mi i ls h (x_dstore i ls st h zNX zBAD a) = some (r, h')) (ho : okP hs (zds mi) ls h (x_dstore i ls st h zNX zBAD a)) (ha : a + 1 < (zMI mi).2.2.1) (hds : (zds mi).all (fun d => d + 1 != a && d != a + 1) = true) (hd : decode (zMI mi).2.1 (zpc mi i) = .ok (.dstore a, 2)) (hnx : zpc mi (i + 1) = zpc mi i + 2) : W p l e R s m args below meth c H locs cells slots Q (F0 m (zpc mi i) lsC (st.map (vC bS ad))) := by
  unfold x_dstore at hr ho
  split at hr
  next b st' =>
    try dsimp only at ho
    have hL := Z.2.2.2.2.2.2.1
    refine lv_dstore C.1 C.2.1 hd hL.2 ha rfl (fun lsC' hl => zfl K Z hr ho ?_ hnx rfl)
    refine ⟨by rw [List.length_set, List.length_set]; exact hL.1, hl.1, hl.2.1, fun q hq => ?_⟩
    obtain ⟨w, h1, h2⟩ := zlv_mem.mp hq
    rw [List.getElem?_set] at h1
    by_cases hi : a + 1 = q.1
    · rw [if_pos hi] at h1
      split at h1 <;> cases h1
    · rw [if_neg hi, List.getElem?_set] at h1
      by_cases hj : a = q.1
      · rw [if_pos hj] at h1
        split at h1
        · cases h1
          exact hl.2.2 q (List.mem_cons.mpr (Or.inl (by rw [hj]; exact Prod.ext rfl h2)))
        · cases h1
      · rw [if_neg hj] at h1
        refine hl.2.2 q (List.mem_cons_of_mem _ (List.mem_filter.mpr ⟨zlv_mem.mpr ⟨w, h1, h2⟩, ?_⟩))
        have hh := (Z.2.1 _ _ h1).2
        rw [h2, vC_cat]
        simp only [Bool.and_eq_true, Bool.not_eq_true', beq_eq_false_iff_ne, Bool.and_eq_false_iff]
        refine ⟨fun z => hj z.symm, fun z => hi z.symm, ?_⟩
        by_cases hdb : dbl w = true
        · left
          have := List.all_eq_true.mp hds _ (hh hdb)
          simp only [Bool.and_eq_true, bne_iff_ne] at this
          exact this.1
        · right
          rw [if_neg hdb]
          decide
  next => cases hr
theorem zs_iadd (C : zCx p s m args meth c R mi D cI cD bS sc hs A H0) (K : zG0 p l e R s m args below meth c Q mi D cI cD bS sc hs A H0 n0 s0 hb ad0 r h' n) (Z : zSt mi D cI cD bS hs A H0 n0 s0 hb ad0 ls st h H locs cells slots lsC ad) (hr : zR1 sc n mi i ls h (x_bin i ls st h zNX zBAD (fun x y => zwr (x + y))) = some (r, h')) (ho : okP hs (zds mi) ls h (x_bin i ls st h zNX zBAD (fun x y => zwr (x + y)))) (hd : decode (zMI mi).2.1 (zpc mi i) = .ok (.iadd, 1)) (hnx : zpc mi (i + 1) = zpc mi i + 1) : W p l e R s m args below meth c H locs cells slots Q (F0 m (zpc mi i) lsC (st.map (vC bS ad))) := by
  unfold x_bin at hr ho
  split at hr
  next y x st' => exact lv_iadd C.1 C.2.1 hd (zf K Z hr ho hnx (congrArg (fun z => Value.int z :: st'.map (vC bS ad)) (zi_add _ _)))
  next => cases hr
theorem zs_isub (C : zCx p s m args meth c R mi D cI cD bS sc hs A H0) (K : zG0 p l e R s m args below meth c Q mi D cI cD bS sc hs A H0 n0 s0 hb ad0 r h' n) (Z : zSt mi D cI cD bS hs A H0 n0 s0 hb ad0 ls st h H locs cells slots lsC ad) (hr : zR1 sc n mi i ls h (x_bin i ls st h zNX zBAD (fun x y => zwr (x - y))) = some (r, h')) (ho : okP hs (zds mi) ls h (x_bin i ls st h zNX zBAD (fun x y => zwr (x - y)))) (hd : decode (zMI mi).2.1 (zpc mi i) = .ok (.isub, 1)) (hnx : zpc mi (i + 1) = zpc mi i + 1) : W p l e R s m args below meth c H locs cells slots Q (F0 m (zpc mi i) lsC (st.map (vC bS ad))) := by
  unfold x_bin at hr ho
  split at hr
  next y x st' => exact lv_isub C.1 C.2.1 hd (zf K Z hr ho hnx (congrArg (fun z => Value.int z :: st'.map (vC bS ad)) (zi_sub _ _)))
  next => cases hr
theorem zs_imul (C : zCx p s m args meth c R mi D cI cD bS sc hs A H0) (K : zG0 p l e R s m args below meth c Q mi D cI cD bS sc hs A H0 n0 s0 hb ad0 r h' n) (Z : zSt mi D cI cD bS hs A H0 n0 s0 hb ad0 ls st h H locs cells slots lsC ad) (hr : zR1 sc n mi i ls h (x_bin i ls st h zNX zBAD (fun x y => zwr (x * y))) = some (r, h')) (ho : okP hs (zds mi) ls h (x_bin i ls st h zNX zBAD (fun x y => zwr (x * y)))) (hd : decode (zMI mi).2.1 (zpc mi i) = .ok (.imul, 1)) (hnx : zpc mi (i + 1) = zpc mi i + 1) : W p l e R s m args below meth c H locs cells slots Q (F0 m (zpc mi i) lsC (st.map (vC bS ad))) := by
  unfold x_bin at hr ho
  split at hr
  next y x st' => exact lv_imul C.1 C.2.1 hd (zf K Z hr ho hnx (congrArg (fun z => Value.int z :: st'.map (vC bS ad)) (zi_mul _ _)))
  next => cases hr
theorem zs_iand (C : zCx p s m args meth c R mi D cI cD bS sc hs A H0) (K : zG0 p l e R s m args below meth c Q mi D cI cD bS sc hs A H0 n0 s0 hb ad0 r h' n) (Z : zSt mi D cI cD bS hs A H0 n0 s0 hb ad0 ls st h H locs cells slots lsC ad) (hr : zR1 sc n mi i ls h (x_bin i ls st h zNX zBAD (fun x y => (Int32.ofInt x &&& Int32.ofInt y).toInt)) = some (r, h')) (ho : okP hs (zds mi) ls h (x_bin i ls st h zNX zBAD (fun x y => (Int32.ofInt x &&& Int32.ofInt y).toInt))) (hd : decode (zMI mi).2.1 (zpc mi i) = .ok (.iand, 1)) (hnx : zpc mi (i + 1) = zpc mi i + 1) : W p l e R s m args below meth c H locs cells slots Q (F0 m (zpc mi i) lsC (st.map (vC bS ad))) := by
  unfold x_bin at hr ho
  split at hr
  next y x st' => exact lv_iand C.1 C.2.1 hd (zf K Z hr ho hnx (congrArg (fun z => Value.int z :: st'.map (vC bS ad)) (zi_of _)))
  next => cases hr
theorem zs_ior (C : zCx p s m args meth c R mi D cI cD bS sc hs A H0) (K : zG0 p l e R s m args below meth c Q mi D cI cD bS sc hs A H0 n0 s0 hb ad0 r h' n) (Z : zSt mi D cI cD bS hs A H0 n0 s0 hb ad0 ls st h H locs cells slots lsC ad) (hr : zR1 sc n mi i ls h (x_bin i ls st h zNX zBAD (fun x y => (Int32.ofInt x ||| Int32.ofInt y).toInt)) = some (r, h')) (ho : okP hs (zds mi) ls h (x_bin i ls st h zNX zBAD (fun x y => (Int32.ofInt x ||| Int32.ofInt y).toInt))) (hd : decode (zMI mi).2.1 (zpc mi i) = .ok (.ior, 1)) (hnx : zpc mi (i + 1) = zpc mi i + 1) : W p l e R s m args below meth c H locs cells slots Q (F0 m (zpc mi i) lsC (st.map (vC bS ad))) := by
  unfold x_bin at hr ho
  split at hr
  next y x st' => exact lv_ior C.1 C.2.1 hd (zf K Z hr ho hnx (congrArg (fun z => Value.int z :: st'.map (vC bS ad)) (zi_of _)))
  next => cases hr
theorem zs_ishl (C : zCx p s m args meth c R mi D cI cD bS sc hs A H0) (K : zG0 p l e R s m args below meth c Q mi D cI cD bS sc hs A H0 n0 s0 hb ad0 r h' n) (Z : zSt mi D cI cD bS hs A H0 n0 s0 hb ad0 ls st h H locs cells slots lsC ad) (hr : zR1 sc n mi i ls h (x_bin i ls st h zNX zBAD (fun x y => (Int32.ofInt x <<< (Int32.ofInt y &&& 31)).toInt)) = some (r, h')) (ho : okP hs (zds mi) ls h (x_bin i ls st h zNX zBAD (fun x y => (Int32.ofInt x <<< (Int32.ofInt y &&& 31)).toInt))) (hd : decode (zMI mi).2.1 (zpc mi i) = .ok (.ishl, 1)) (hnx : zpc mi (i + 1) = zpc mi i + 1) : W p l e R s m args below meth c H locs cells slots Q (F0 m (zpc mi i) lsC (st.map (vC bS ad))) := by
  unfold x_bin at hr ho
  split at hr
  next y x st' => exact lv_ishl C.1 C.2.1 hd (zf K Z hr ho hnx (congrArg (fun z => Value.int z :: st'.map (vC bS ad)) (zi_of _)))
  next => cases hr
theorem zs_ishr (C : zCx p s m args meth c R mi D cI cD bS sc hs A H0) (K : zG0 p l e R s m args below meth c Q mi D cI cD bS sc hs A H0 n0 s0 hb ad0 r h' n) (Z : zSt mi D cI cD bS hs A H0 n0 s0 hb ad0 ls st h H locs cells slots lsC ad) (hr : zR1 sc n mi i ls h (x_bin i ls st h zNX zBAD (fun x y => (Int32.ofInt x >>> (Int32.ofInt y &&& 31)).toInt)) = some (r, h')) (ho : okP hs (zds mi) ls h (x_bin i ls st h zNX zBAD (fun x y => (Int32.ofInt x >>> (Int32.ofInt y &&& 31)).toInt))) (hd : decode (zMI mi).2.1 (zpc mi i) = .ok (.ishr, 1)) (hnx : zpc mi (i + 1) = zpc mi i + 1) : W p l e R s m args below meth c H locs cells slots Q (F0 m (zpc mi i) lsC (st.map (vC bS ad))) := by
  unfold x_bin at hr ho
  split at hr
  next y x st' => exact lv_ishr C.1 C.2.1 hd (zf K Z hr ho hnx (congrArg (fun z => Value.int z :: st'.map (vC bS ad)) (zi_of _)))
  next => cases hr
theorem zs_idiv (C : zCx p s m args meth c R mi D cI cD bS sc hs A H0) (K : zG0 p l e R s m args below meth c Q mi D cI cD bS sc hs A H0 n0 s0 hb ad0 r h' n) (Z : zSt mi D cI cD bS hs A H0 n0 s0 hb ad0 ls st h H locs cells slots lsC ad) (hr : zR1 sc n mi i ls h (x_binC i ls st h zNX zBAD (fun x y => 0 ≤ x ∧ 0 < y) (fun x y => x / y)) = some (r, h')) (ho : okP hs (zds mi) ls h (x_binC i ls st h zNX zBAD (fun x y => 0 ≤ x ∧ 0 < y) (fun x y => x / y))) (hd : decode (zMI mi).2.1 (zpc mi i) = .ok (.idiv, 1)) (hnx : zpc mi (i + 1) = zpc mi i + 1) : W p l e R s m args below meth c H locs cells slots Q (F0 m (zpc mi i) lsC (st.map (vC bS ad))) := by
  unfold x_binC at hr ho
  split at hr
  next y x st' =>
    try dsimp only at ho
    split at hr
    next q =>
      try dsimp only at ho
      rw [if_pos q] at ho
      have hS := Z.2.2.1
      have hy : inR y := (okS_tl hS).1
      have hx : inR x := (okS_tl (okS_tl hS).2).1
      exact lv_idiv C.1 C.2.1 hd (zi_ne0 hy q.2) (zf K Z hr ho hnx (congrArg (fun z => Value.int z :: st'.map (vC bS ad)) (zi_div hx hy q.1 q.2)))
    next => cases hr
  next => cases hr
theorem zs_irem (C : zCx p s m args meth c R mi D cI cD bS sc hs A H0) (K : zG0 p l e R s m args below meth c Q mi D cI cD bS sc hs A H0 n0 s0 hb ad0 r h' n) (Z : zSt mi D cI cD bS hs A H0 n0 s0 hb ad0 ls st h H locs cells slots lsC ad) (hr : zR1 sc n mi i ls h (x_binC i ls st h zNX zBAD (fun x y => 0 ≤ x ∧ 0 < y) (fun x y => x % y)) = some (r, h')) (ho : okP hs (zds mi) ls h (x_binC i ls st h zNX zBAD (fun x y => 0 ≤ x ∧ 0 < y) (fun x y => x % y))) (hd : decode (zMI mi).2.1 (zpc mi i) = .ok (.irem, 1)) (hnx : zpc mi (i + 1) = zpc mi i + 1) : W p l e R s m args below meth c H locs cells slots Q (F0 m (zpc mi i) lsC (st.map (vC bS ad))) := by
  unfold x_binC at hr ho
  split at hr
  next y x st' =>
    try dsimp only at ho
    split at hr
    next q =>
      try dsimp only at ho
      rw [if_pos q] at ho
      have hS := Z.2.2.1
      have hy : inR y := (okS_tl hS).1
      have hx : inR x := (okS_tl (okS_tl hS).2).1
      exact lv_irem C.1 C.2.1 hd (zi_ne0 hy q.2) (zf K Z hr ho hnx (congrArg (fun z => Value.int z :: st'.map (vC bS ad)) (zi_mod hx hy q.1 q.2)))
    next => cases hr
  next => cases hr
theorem zs_if_eq (C : zCx p s m args meth c R mi D cI cD bS sc hs A H0) (K : zG0 p l e R s m args below meth c Q mi D cI cD bS sc hs A H0 n0 s0 hb ad0 r h' n) (Z : zSt mi D cI cD bS hs A H0 n0 s0 hb ad0 ls st h H locs cells slots lsC ad) {t : Nat} {off : Int} (hr : zR1 sc n mi i ls h (x_if i ls st h zNX zBAD (fun x => x = 0) t) = some (r, h')) (ho : okP hs (zds mi) ls h (x_if i ls st h zNX zBAD (fun x => x = 0) t)) (hd : decode (zMI mi).2.1 (zpc mi i) = .ok (.ifCond .eq off, 3)) (ht : (zpc mi i : Int) + off = (zpc mi t : Int)) (hnx : zpc mi (i + 1) = zpc mi i + 3) : W p l e R s m args below meth c H locs cells slots Q (F0 m (zpc mi i) lsC (st.map (vC bS ad))) := by
  unfold x_if at hr ho
  split at hr
  next x st' =>
    try dsimp only at ho
    have hx : inR x := (okS_tl Z.2.2.1).1
    have iff := zi_eq hx inR_0
    refine lv_if_eq C.1 C.2.1 hd ht (fun q => ?_) (fun q => ?_)
    · rw [if_pos (iff.mp q)] at hr ho
      exact zf K Z hr ho rfl rfl
    · skip
      rw [if_neg (fun z => q (iff.mpr z))] at hr ho
      exact zf K Z hr ho hnx rfl
  next => cases hr
theorem zs_icmp_eq (C : zCx p s m args meth c R mi D cI cD bS sc hs A H0) (K : zG0 p l e R s m args below meth c Q mi D cI cD bS sc hs A H0 n0 s0 hb ad0 r h' n) (Z : zSt mi D cI cD bS hs A H0 n0 s0 hb ad0 ls st h H locs cells slots lsC ad) {t : Nat} {off : Int} (hr : zR1 sc n mi i ls h (x_icmp i ls st h zNX zBAD (fun x y => x = y) t) = some (r, h')) (ho : okP hs (zds mi) ls h (x_icmp i ls st h zNX zBAD (fun x y => x = y) t)) (hd : decode (zMI mi).2.1 (zpc mi i) = .ok (.if_icmp .eq off, 3)) (ht : (zpc mi i : Int) + off = (zpc mi t : Int)) (hnx : zpc mi (i + 1) = zpc mi i + 3) : W p l e R s m args below meth c H locs cells slots Q (F0 m (zpc mi i) lsC (st.map (vC bS ad))) := by
  unfold x_icmp at hr ho
  split at hr
  next y x st' =>
    try dsimp only at ho
    have hy : inR y := (okS_tl Z.2.2.1).1
    have hx : inR x := (okS_tl (okS_tl Z.2.2.1).2).1
    have iff := zi_eq hx hy
    refine lv_icmp_eq C.1 C.2.1 hd ht (fun q => ?_) (fun q => ?_)
    · rw [if_pos (iff.mp q)] at hr ho
      exact zf K Z hr ho rfl rfl
    · skip
      rw [if_neg (fun z => q (iff.mpr z))] at hr ho
      exact zf K Z hr ho hnx rfl
  next => cases hr
theorem zs_if_ne (C : zCx p s m args meth c R mi D cI cD bS sc hs A H0) (K : zG0 p l e R s m args below meth c Q mi D cI cD bS sc hs A H0 n0 s0 hb ad0 r h' n) (Z : zSt mi D cI cD bS hs A H0 n0 s0 hb ad0 ls st h H locs cells slots lsC ad) {t : Nat} {off : Int} (hr : zR1 sc n mi i ls h (x_if i ls st h zNX zBAD (fun x => x ≠ 0) t) = some (r, h')) (ho : okP hs (zds mi) ls h (x_if i ls st h zNX zBAD (fun x => x ≠ 0) t)) (hd : decode (zMI mi).2.1 (zpc mi i) = .ok (.ifCond .ne off, 3)) (ht : (zpc mi i : Int) + off = (zpc mi t : Int)) (hnx : zpc mi (i + 1) = zpc mi i + 3) : W p l e R s m args below meth c H locs cells slots Q (F0 m (zpc mi i) lsC (st.map (vC bS ad))) := by
  unfold x_if at hr ho
  split at hr
  next x st' =>
    try dsimp only at ho
    have hx : inR x := (okS_tl Z.2.2.1).1
    have iff := not_congr (zi_eq hx inR_0)
    refine lv_if_ne C.1 C.2.1 hd ht (fun q => ?_) (fun q => ?_)
    · rw [if_pos (iff.mp q)] at hr ho
      exact zf K Z hr ho rfl rfl
    · have q : ¬ ¬ Int32.ofInt x = 0 := fun z => z q
      rw [if_neg (fun z => q (iff.mpr z))] at hr ho
      exact zf K Z hr ho hnx rfl
  next => cases hr
theorem zs_icmp_ne (C : zCx p s m args meth c R mi D cI cD bS sc hs A H0) (K : zG0 p l e R s m args below meth c Q mi D cI cD bS sc hs A H0 n0 s0 hb ad0 r h' n) (Z : zSt mi D cI cD bS hs A H0 n0 s0 hb ad0 ls st h H locs cells slots lsC ad) {t : Nat} {off : Int} (hr : zR1 sc n mi i ls h (x_icmp i ls st h zNX zBAD (fun x y => x ≠ y) t) = some (r, h')) (ho : okP hs (zds mi) ls h (x_icmp i ls st h zNX zBAD (fun x y => x ≠ y) t)) (hd : decode (zMI mi).2.1 (zpc mi i) = .ok (.if_icmp .ne off, 3)) (ht : (zpc mi i : Int) + off = (zpc mi t : Int)) (hnx : zpc mi (i + 1) = zpc mi i + 3) : W p l e R s m args below meth c H locs cells slots Q (F0 m (zpc mi i) lsC (st.map (vC bS ad))) := by
  unfold x_icmp at hr ho
  split at hr
  next y x st' =>
    try dsimp only at ho
    have hy : inR y := (okS_tl Z.2.2.1).1
    have hx : inR x := (okS_tl (okS_tl Z.2.2.1).2).1
    have iff := not_congr (zi_eq hx hy)
    refine lv_icmp_ne C.1 C.2.1 hd ht (fun q => ?_) (fun q => ?_)
    · rw [if_pos (iff.mp q)] at hr ho
      exact zf K Z hr ho rfl rfl
    · have q : ¬ ¬ Int32.ofInt x = Int32.ofInt y := fun z => z q
      rw [if_neg (fun z => q (iff.mpr z))] at hr ho
      exact zf K Z hr ho hnx rfl
  next => cases hr
theorem zs_if_lt (C : zCx p s m args meth c R mi D cI cD bS sc hs A H0) (K : zG0 p l e R s m args below meth c Q mi D cI cD bS sc hs A H0 n0 s0 hb ad0 r h' n) (Z : zSt mi D cI cD bS hs A H0 n0 s0 hb ad0 ls st h H locs cells slots lsC ad) {t : Nat} {off : Int} (hr : zR1 sc n mi i ls h (x_if i ls st h zNX zBAD (fun x => x < 0) t) = some (r, h')) (ho : okP hs (zds mi) ls h (x_if i ls st h zNX zBAD (fun x => x < 0) t)) (hd : decode (zMI mi).2.1 (zpc mi i) = .ok (.ifCond .lt off, 3)) (ht : (zpc mi i : Int) + off = (zpc mi t : Int)) (hnx : zpc mi (i + 1) = zpc mi i + 3) : W p l e R s m args below meth c H locs cells slots Q (F0 m (zpc mi i) lsC (st.map (vC bS ad))) := by
  unfold x_if at hr ho
  split at hr
  next x st' =>
    try dsimp only at ho
    have hx : inR x := (okS_tl Z.2.2.1).1
    have iff := zi_lt hx inR_0
    refine lv_if_lt C.1 C.2.1 hd ht (fun q => ?_) (fun q => ?_)
    · rw [if_pos (iff.mp q)] at hr ho
      exact zf K Z hr ho rfl rfl
    · skip
      rw [if_neg (fun z => q (iff.mpr z))] at hr ho
      exact zf K Z hr ho hnx rfl
  next => cases hr
theorem zs_icmp_lt (C : zCx p s m args meth c R mi D cI cD bS sc hs A H0) (K : zG0 p l e R s m args below meth c Q mi D cI cD bS sc hs A H0 n0 s0 hb ad0 r h' n) (Z : zSt mi D cI cD bS hs A H0 n0 s0 hb ad0 ls st h H locs cells slots lsC ad) {t : Nat} {off : Int} (hr : zR1 sc n mi i ls h (x_icmp i ls st h zNX zBAD (fun x y => x < y) t) = some (r, h')) (ho : okP hs (zds mi) ls h (x_icmp i ls st h zNX zBAD (fun x y => x < y) t)) (hd : decode (zMI mi).2.1 (zpc mi i) = .ok (.if_icmp .lt off, 3)) (ht : (zpc mi i : Int) + off = (zpc mi t : Int)) (hnx : zpc mi (i + 1) = zpc mi i + 3) : W p l e R s m args below meth c H locs cells slots Q (F0 m (zpc mi i) lsC (st.map (vC bS ad))) := by
  unfold x_icmp at hr ho
  split at hr
  next y x st' =>
    try dsimp only at ho
    have hy : inR y := (okS_tl Z.2.2.1).1
    have hx : inR x := (okS_tl (okS_tl Z.2.2.1).2).1
    have iff := zi_lt hx hy
    refine lv_icmp_lt C.1 C.2.1 hd ht (fun q => ?_) (fun q => ?_)
    · rw [if_pos (iff.mp q)] at hr ho
      exact zf K Z hr ho rfl rfl
    · skip
      rw [if_neg (fun z => q (iff.mpr z))] at hr ho
      exact zf K Z hr ho hnx rfl
  next => cases hr
theorem zs_if_ge (C : zCx p s m args meth c R mi D cI cD bS sc hs A H0) (K : zG0 p l e R s m args below meth c Q mi D cI cD bS sc hs A H0 n0 s0 hb ad0 r h' n) (Z : zSt mi D cI cD bS hs A H0 n0 s0 hb ad0 ls st h H locs cells slots lsC ad) {t : Nat} {off : Int} (hr : zR1 sc n mi i ls h (x_if i ls st h zNX zBAD (fun x => 0 ≤ x) t) = some (r, h')) (ho : okP hs (zds mi) ls h (x_if i ls st h zNX zBAD (fun x => 0 ≤ x) t)) (hd : decode (zMI mi).2.1 (zpc mi i) = .ok (.ifCond .ge off, 3)) (ht : (zpc mi i : Int) + off = (zpc mi t : Int)) (hnx : zpc mi (i + 1) = zpc mi i + 3) : W p l e R s m args below meth c H locs cells slots Q (F0 m (zpc mi i) lsC (st.map (vC bS ad))) := by
  unfold x_if at hr ho
  split at hr
  next x st' =>
    try dsimp only at ho
    have hx : inR x := (okS_tl Z.2.2.1).1
    have iff := zi_le inR_0 hx
    refine lv_if_ge C.1 C.2.1 hd ht (fun q => ?_) (fun q => ?_)
    · rw [if_pos (iff.mp q)] at hr ho
      exact zf K Z hr ho rfl rfl
    · skip
      rw [if_neg (fun z => q (iff.mpr z))] at hr ho
      exact zf K Z hr ho hnx rfl
  next => cases hr
theorem zs_icmp_ge (C : zCx p s m args meth c R mi D cI cD bS sc hs A H0) (K : zG0 p l e R s m args below meth c Q mi D cI cD bS sc hs A H0 n0 s0 hb ad0 r h' n) (Z : zSt mi D cI cD bS hs A H0 n0 s0 hb ad0 ls st h H locs cells slots lsC ad) {t : Nat} {off : Int} (hr : zR1 sc n mi i ls h (x_icmp i ls st h zNX zBAD (fun x y => y ≤ x) t) = some (r, h')) (ho : okP hs (zds mi) ls h (x_icmp i ls st h zNX zBAD (fun x y => y ≤ x) t)) (hd : decode (zMI mi).2.1 (zpc mi i) = .ok (.if_icmp .ge off, 3)) (ht : (zpc mi i : Int) + off = (zpc mi t : Int)) (hnx : zpc mi (i + 1) = zpc mi i + 3) : W p l e R s m args below meth c H locs cells slots Q (F0 m (zpc mi i) lsC (st.map (vC bS ad))) := by
  unfold x_icmp at hr ho
  split at hr
  next y x st' =>
    try dsimp only at ho
    have hy : inR y := (okS_tl Z.2.2.1).1
    have hx : inR x := (okS_tl (okS_tl Z.2.2.1).2).1
    have iff := zi_le hy hx
    refine lv_icmp_ge C.1 C.2.1 hd ht (fun q => ?_) (fun q => ?_)
    · rw [if_pos (iff.mp q)] at hr ho
      exact zf K Z hr ho rfl rfl
    · skip
      rw [if_neg (fun z => q (iff.mpr z))] at hr ho
      exact zf K Z hr ho hnx rfl
  next => cases hr
theorem zs_if_gt (C : zCx p s m args meth c R mi D cI cD bS sc hs A H0) (K : zG0 p l e R s m args below meth c Q mi D cI cD bS sc hs A H0 n0 s0 hb ad0 r h' n) (Z : zSt mi D cI cD bS hs A H0 n0 s0 hb ad0 ls st h H locs cells slots lsC ad) {t : Nat} {off : Int} (hr : zR1 sc n mi i ls h (x_if i ls st h zNX zBAD (fun x => 0 < x) t) = some (r, h')) (ho : okP hs (zds mi) ls h (x_if i ls st h zNX zBAD (fun x => 0 < x) t)) (hd : decode (zMI mi).2.1 (zpc mi i) = .ok (.ifCond .gt off, 3)) (ht : (zpc mi i : Int) + off = (zpc mi t : Int)) (hnx : zpc mi (i + 1) = zpc mi i + 3) : W p l e R s m args below meth c H locs cells slots Q (F0 m (zpc mi i) lsC (st.map (vC bS ad))) := by
  unfold x_if at hr ho
  split at hr
  next x st' =>
    try dsimp only at ho
    have hx : inR x := (okS_tl Z.2.2.1).1
    have iff := zi_lt inR_0 hx
    refine lv_if_gt C.1 C.2.1 hd ht (fun q => ?_) (fun q => ?_)
    · rw [if_pos (iff.mp q)] at hr ho
      exact zf K Z hr ho rfl rfl
    · skip
      rw [if_neg (fun z => q (iff.mpr z))] at hr ho
      exact zf K Z hr ho hnx rfl
  next => cases hr
theorem zs_icmp_gt (C : zCx p s m args meth c R mi D cI cD bS sc hs A H0) (K : zG0 p l e R s m args below meth c Q mi D cI cD bS sc hs A H0 n0 s0 hb ad0 r h' n) (Z : zSt mi D cI cD bS hs A H0 n0 s0 hb ad0 ls st h H locs cells slots lsC ad) {t : Nat} {off : Int} (hr : zR1 sc n mi i ls h (x_icmp i ls st h zNX zBAD (fun x y => y < x) t) = some (r, h')) (ho : okP hs (zds mi) ls h (x_icmp i ls st h zNX zBAD (fun x y => y < x) t)) (hd : decode (zMI mi).2.1 (zpc mi i) = .ok (.if_icmp .gt off, 3)) (ht : (zpc mi i : Int) + off = (zpc mi t : Int)) (hnx : zpc mi (i + 1) = zpc mi i + 3) : W p l e R s m args below meth c H locs cells slots Q (F0 m (zpc mi i) lsC (st.map (vC bS ad))) := by
  unfold x_icmp at hr ho
  split at hr
  next y x st' =>
    try dsimp only at ho
    have hy : inR y := (okS_tl Z.2.2.1).1
    have hx : inR x := (okS_tl (okS_tl Z.2.2.1).2).1
    have iff := zi_lt hy hx
    refine lv_icmp_gt C.1 C.2.1 hd ht (fun q => ?_) (fun q => ?_)
    · rw [if_pos (iff.mp q)] at hr ho
      exact zf K Z hr ho rfl rfl
    · skip
      rw [if_neg (fun z => q (iff.mpr z))] at hr ho
      exact zf K Z hr ho hnx rfl
  next => cases hr
theorem zs_if_le (C : zCx p s m args meth c R mi D cI cD bS sc hs A H0) (K : zG0 p l e R s m args below meth c Q mi D cI cD bS sc hs A H0 n0 s0 hb ad0 r h' n) (Z : zSt mi D cI cD bS hs A H0 n0 s0 hb ad0 ls st h H locs cells slots lsC ad) {t : Nat} {off : Int} (hr : zR1 sc n mi i ls h (x_if i ls st h zNX zBAD (fun x => x ≤ 0) t) = some (r, h')) (ho : okP hs (zds mi) ls h (x_if i ls st h zNX zBAD (fun x => x ≤ 0) t)) (hd : decode (zMI mi).2.1 (zpc mi i) = .ok (.ifCond .le off, 3)) (ht : (zpc mi i : Int) + off = (zpc mi t : Int)) (hnx : zpc mi (i + 1) = zpc mi i + 3) : W p l e R s m args below meth c H locs cells slots Q (F0 m (zpc mi i) lsC (st.map (vC bS ad))) := by
  unfold x_if at hr ho
  split at hr
  next x st' =>
    try dsimp only at ho
    have hx : inR x := (okS_tl Z.2.2.1).1
    have iff := zi_le hx inR_0
    refine lv_if_le C.1 C.2.1 hd ht (fun q => ?_) (fun q => ?_)
    · rw [if_pos (iff.mp q)] at hr ho
      exact zf K Z hr ho rfl rfl
    · skip
      rw [if_neg (fun z => q (iff.mpr z))] at hr ho
      exact zf K Z hr ho hnx rfl
  next => cases hr
theorem zs_icmp_le (C : zCx p s m args meth c R mi D cI cD bS sc hs A H0) (K : zG0 p l e R s m args below meth c Q mi D cI cD bS sc hs A H0 n0 s0 hb ad0 r h' n) (Z : zSt mi D cI cD bS hs A H0 n0 s0 hb ad0 ls st h H locs cells slots lsC ad) {t : Nat} {off : Int} (hr : zR1 sc n mi i ls h (x_icmp i ls st h zNX zBAD (fun x y => x ≤ y) t) = some (r, h')) (ho : okP hs (zds mi) ls h (x_icmp i ls st h zNX zBAD (fun x y => x ≤ y) t)) (hd : decode (zMI mi).2.1 (zpc mi i) = .ok (.if_icmp .le off, 3)) (ht : (zpc mi i : Int) + off = (zpc mi t : Int)) (hnx : zpc mi (i + 1) = zpc mi i + 3) : W p l e R s m args below meth c H locs cells slots Q (F0 m (zpc mi i) lsC (st.map (vC bS ad))) := by
  unfold x_icmp at hr ho
  split at hr
  next y x st' =>
    try dsimp only at ho
    have hy : inR y := (okS_tl Z.2.2.1).1
    have hx : inR x := (okS_tl (okS_tl Z.2.2.1).2).1
    have iff := zi_le hx hy
    refine lv_icmp_le C.1 C.2.1 hd ht (fun q => ?_) (fun q => ?_)
    · rw [if_pos (iff.mp q)] at hr ho
      exact zf K Z hr ho rfl rfl
    · skip
      rw [if_neg (fun z => q (iff.mpr z))] at hr ho
      exact zf K Z hr ho hnx rfl
  next => cases hr
theorem zcat : ∀ {st : List zV}, st.all zplain = true → ((st.map (vC bS ad)).map fun v => v.category).sum = st.length
  | [], _ => rfl
  | v :: st, h => by
    simp only [List.all_cons, Bool.and_eq_true] at h
    rw [List.map_cons, List.map_cons, List.sum_cons, zcat h.2, vC_cat, List.length_cons]
    have : dbl v = false := by
      rcases v with z | (_ | k) | b | b | u
      · rfl
      · rfl
      · rfl
      · cases h.1
      · cases h.1
      · rfl
    rw [this]
    simp [Nat.add_comm]
theorem zcat2 : ∀ {st : List zV}, ((st.map (vC bS ad)).map fun v => v.category).sum ≤ 2 * st.length
  | [] => Nat.le_refl 0
  | v :: st => by
    have := zcat2 (st := st)
    rw [List.map_cons, List.map_cons, List.sum_cons, vC_cat, List.length_cons]
    split <;> omega
theorem zs_mmax (C : zCx p s m args meth c R mi D cI cD bS sc hs A H0) (K : zG0 p l e R s m args below meth c Q mi D cI cD bS sc hs A H0 n0 s0 hb ad0 r h' n) (Z : zSt mi D cI cD bS hs A H0 n0 s0 hb ad0 ls st h H locs cells slots lsC ad) {ix : Nat} (hr : zR1 sc n mi i ls h (x_binS i ls st h zNX zBAD (fun x y => if x < y then y else x)) = some (r, h')) (ho : okP hs (zds mi) ls h (x_binS i ls st h zNX zBAD (fun x y => if x < y then y else x))) (hbd : cells ≤ R.cells ∧ slots ≤ R.slots) (hcp : ((zMI mi).2.2.2.2.1, ix, 6, (0 : Int), 0) ∈ ctab) (hrm : 1 ≤ rmF.getD mi 0 ∧ 21 ≤ rmL.getD mi 0) (hd : decode (zMI mi).2.1 (zpc mi i) = .ok (.invokestatic ix, 3)) (hnx : zpc mi (i + 1) = zpc mi i + 3) : W p l e R s m args below meth c H locs cells slots Q (F0 m (zpc mi i) lsC (st.map (vC bS ad))) := by
  unfold x_binS at hr ho
  split at hr
  next y x st' =>
    try dsimp only at ho
    split at hr
    next hst4 =>
      try dsimp only at ho
      rw [if_pos hst4] at ho
      have hy : inR y := (okS_tl Z.2.2.1).1
      have hx : inR x := (okS_tl (okS_tl Z.2.2.1).2).1
      have hl := C.2.2.2.2.1 _ (cp_in hcp (by intro q; dsimp only at q; omega))
      have hR := C.2.2.2.2.2.2.2.2.2
      have hw := fun (k : Nat) (w : Cond) (hk : oW[k]? = some w) => C.2.2.2.2.1 _ (o_in _ (List.mem_of_getElem? hk))
      refine va_mmax C.1 C.2.1 (by rw [C.2.2.1]; exact Z.2.2.2.2.2.2.1.2.1.symm) C.2.2.2.1 hl (hw 3 _ rfl) (hw 7 _ rfl) (hw 4 _ rfl) (Nat.le_trans hrm.1 hR.1) ?_ hbd.1 hbd.2 hd ?_
      · have h1 := zcat2 (bS := bS) (ad := ad) (st := st')
        have h2 := hR.2.1
        omega
      · refine zf K Z hr ho hnx ?_
        show Value.int (Int32.ofInt (if _ then _ else _)) :: _ = _
        by_cases hq : x < y
        · rw [if_pos hq, if_pos ((zi_lt hx hy).mpr hq)]
        · rw [if_neg hq, if_neg (fun z => hq ((zi_lt hx hy).mp z))]
    next => cases hr
  next => cases hr
theorem zs_mmin (C : zCx p s m args meth c R mi D cI cD bS sc hs A H0) (K : zG0 p l e R s m args below meth c Q mi D cI cD bS sc hs A H0 n0 s0 hb ad0 r h' n) (Z : zSt mi D cI cD bS hs A H0 n0 s0 hb ad0 ls st h H locs cells slots lsC ad) {ix : Nat} (hr : zR1 sc n mi i ls h (x_binS i ls st h zNX zBAD (fun x y => if y < x then y else x)) = some (r, h')) (ho : okP hs (zds mi) ls h (x_binS i ls st h zNX zBAD (fun x y => if y < x then y else x))) (hbd : cells ≤ R.cells ∧ slots ≤ R.slots) (hcp : ((zMI mi).2.2.2.2.1, ix, 7, (0 : Int), 0) ∈ ctab) (hrm : 1 ≤ rmF.getD mi 0 ∧ 21 ≤ rmL.getD mi 0) (hd : decode (zMI mi).2.1 (zpc mi i) = .ok (.invokestatic ix, 3)) (hnx : zpc mi (i + 1) = zpc mi i + 3) : W p l e R s m args below meth c H locs cells slots Q (F0 m (zpc mi i) lsC (st.map (vC bS ad))) := by
  unfold x_binS at hr ho
  split at hr
  next y x st' =>
    try dsimp only at ho
    split at hr
    next hst4 =>
      try dsimp only at ho
      rw [if_pos hst4] at ho
      have hy : inR y := (okS_tl Z.2.2.1).1
      have hx : inR x := (okS_tl (okS_tl Z.2.2.1).2).1
      have hl := C.2.2.2.2.1 _ (cp_in hcp (by intro q; dsimp only at q; omega))
      have hR := C.2.2.2.2.2.2.2.2.2
      have hw := fun (k : Nat) (w : Cond) (hk : oW[k]? = some w) => C.2.2.2.2.1 _ (o_in _ (List.mem_of_getElem? hk))
      refine va_mmin C.1 C.2.1 (by rw [C.2.2.1]; exact Z.2.2.2.2.2.2.1.2.1.symm) C.2.2.2.1 hl (hw 5 _ rfl) (hw 7 _ rfl) (hw 6 _ rfl) (Nat.le_trans hrm.1 hR.1) ?_ hbd.1 hbd.2 hd ?_
      · have h1 := zcat2 (bS := bS) (ad := ad) (st := st')
        have h2 := hR.2.1
        omega
      · refine zf K Z hr ho hnx ?_
        show Value.int (Int32.ofInt (if _ then _ else _)) :: _ = _
        by_cases hq : y < x
        · rw [if_pos hq, if_pos ((zi_lt hy hx).mpr hq)]
        · rw [if_neg hq, if_neg (fun z => hq ((zi_lt hy hx).mp z))]
    next => cases hr
  next => cases hr
theorem zs_goto (C : zCx p s m args meth c R mi D cI cD bS sc hs A H0) (K : zG0 p l e R s m args below meth c Q mi D cI cD bS sc hs A H0 n0 s0 hb ad0 r h' n) (Z : zSt mi D cI cD bS hs A H0 n0 s0 hb ad0 ls st h H locs cells slots lsC ad) {t : Nat} {off : Int} (hr : zR1 sc n mi i ls h (.inl (t, ls, st, h)) = some (r, h')) (ho : okP hs (zds mi) ls h (.inl (t, ls, st, h))) (hd : decode (zMI mi).2.1 (zpc mi i) = .ok (.goto off, 3)) (ht : (zpc mi i : Int) + off = (zpc mi t : Int)) : W p l e R s m args below meth c H locs cells slots Q (F0 m (zpc mi i) lsC (st.map (vC bS ad))) :=
  lv_goto C.1 C.2.1 hd ht (zf K Z hr ho rfl rfl)
theorem zs_ifnull (C : zCx p s m args meth c R mi D cI cD bS sc hs A H0) (K : zG0 p l e R s m args below meth c Q mi D cI cD bS sc hs A H0 n0 s0 hb ad0 r h' n) (Z : zSt mi D cI cD bS hs A H0 n0 s0 hb ad0 ls st h H locs cells slots lsC ad) {t : Nat} {off : Int} (hr : zR1 sc n mi i ls h (x_ifnull i ls st h zNX zBAD t) = some (r, h')) (ho : okP hs (zds mi) ls h (x_ifnull i ls st h zNX zBAD t)) (hd : decode (zMI mi).2.1 (zpc mi i) = .ok (.ifnull off, 3)) (ht : (zpc mi i : Int) + off = (zpc mi t : Int)) (hnx : zpc mi (i + 1) = zpc mi i + 3) : W p l e R s m args below meth c H locs cells slots Q (F0 m (zpc mi i) lsC (st.map (vC bS ad))) := by
  unfold x_ifnull at hr ho
  split at hr
  next st' => exact lv_ifnullN C.1 C.2.1 hd ht (zf K Z hr ho rfl rfl)
  next q st' => exact lv_ifnull C.1 C.2.1 hd (zf K Z hr ho hnx rfl)
  next => cases hr
theorem zs_ifnonnull (C : zCx p s m args meth c R mi D cI cD bS sc hs A H0) (K : zG0 p l e R s m args below meth c Q mi D cI cD bS sc hs A H0 n0 s0 hb ad0 r h' n) (Z : zSt mi D cI cD bS hs A H0 n0 s0 hb ad0 ls st h H locs cells slots lsC ad) {t : Nat} {off : Int} (hr : zR1 sc n mi i ls h (x_ifnonnull i ls st h zNX zBAD t) = some (r, h')) (ho : okP hs (zds mi) ls h (x_ifnonnull i ls st h zNX zBAD t)) (hd : decode (zMI mi).2.1 (zpc mi i) = .ok (.ifnonnull off, 3)) (ht : (zpc mi i : Int) + off = (zpc mi t : Int)) (hnx : zpc mi (i + 1) = zpc mi i + 3) : W p l e R s m args below meth c H locs cells slots Q (F0 m (zpc mi i) lsC (st.map (vC bS ad))) := by
  unfold x_ifnonnull at hr ho
  split at hr
  next st' => exact lv_ifnonnullN C.1 C.2.1 hd (zf K Z hr ho hnx rfl)
  next q st' => exact lv_ifnonnull C.1 C.2.1 hd ht (zf K Z hr ho rfl rfl)
  next => cases hr
theorem zs_dup (C : zCx p s m args meth c R mi D cI cD bS sc hs A H0) (K : zG0 p l e R s m args below meth c Q mi D cI cD bS sc hs A H0 n0 s0 hb ad0 r h' n) (Z : zSt mi D cI cD bS hs A H0 n0 s0 hb ad0 ls st h H locs cells slots lsC ad) (hr : zR1 sc n mi i ls h (x_dup i ls st h zNX zBAD) = some (r, h')) (ho : okP hs (zds mi) ls h (x_dup i ls st h zNX zBAD)) (hd : decode (zMI mi).2.1 (zpc mi i) = .ok (.dup, 1)) (hnx : zpc mi (i + 1) = zpc mi i + 1) : W p l e R s m args below meth c H locs cells slots Q (F0 m (zpc mi i) lsC (st.map (vC bS ad))) := by
  unfold x_dup at hr ho
  split at hr
  next z st' => exact lv_dup C.1 C.2.1 hd rfl (zf K Z hr ho hnx rfl)
  next q st' => exact lv_dup C.1 C.2.1 hd (by cases q <;> rfl) (zf K Z hr ho hnx rfl)
  next => cases hr
theorem zs_pop (C : zCx p s m args meth c R mi D cI cD bS sc hs A H0) (K : zG0 p l e R s m args below meth c Q mi D cI cD bS sc hs A H0 n0 s0 hb ad0 r h' n) (Z : zSt mi D cI cD bS hs A H0 n0 s0 hb ad0 ls st h H locs cells slots lsC ad) (hr : zR1 sc n mi i ls h (x_pop i ls st h zNX zBAD) = some (r, h')) (ho : okP hs (zds mi) ls h (x_pop i ls st h zNX zBAD)) (hd : decode (zMI mi).2.1 (zpc mi i) = .ok (.pop, 1)) (hnx : zpc mi (i + 1) = zpc mi i + 1) : W p l e R s m args below meth c H locs cells slots Q (F0 m (zpc mi i) lsC (st.map (vC bS ad))) := by
  unfold x_pop at hr ho
  split at hr
  next z st' => exact lv_pop C.1 C.2.1 hd rfl (zf K Z hr ho hnx rfl)
  next q st' => exact lv_pop C.1 C.2.1 hd (by cases q <;> rfl) (zf K Z hr ho hnx rfl)
  next => cases hr
theorem zs_dup2 (C : zCx p s m args meth c R mi D cI cD bS sc hs A H0) (K : zG0 p l e R s m args below meth c Q mi D cI cD bS sc hs A H0 n0 s0 hb ad0 r h' n) (Z : zSt mi D cI cD bS hs A H0 n0 s0 hb ad0 ls st h H locs cells slots lsC ad) (hr : zR1 sc n mi i ls h (x_dup2 i ls st h zNX zBAD) = some (r, h')) (ho : okP hs (zds mi) ls h (x_dup2 i ls st h zNX zBAD)) (hd : decode (zMI mi).2.1 (zpc mi i) = .ok (.dup2, 1)) (hnx : zpc mi (i + 1) = zpc mi i + 1) : W p l e R s m args below meth c H locs cells slots Q (F0 m (zpc mi i) lsC (st.map (vC bS ad))) := by
  unfold x_dup2 at hr ho
  split at hr
  next z q st' => exact lv_dup2_11 C.1 C.2.1 hd rfl (by cases q <;> rfl) (zf K Z hr ho hnx rfl)
  next => cases hr
theorem zs_i2f (C : zCx p s m args meth c R mi D cI cD bS sc hs A H0) (K : zG0 p l e R s m args below meth c Q mi D cI cD bS sc hs A H0 n0 s0 hb ad0 r h' n) (Z : zSt mi D cI cD bS hs A H0 n0 s0 hb ad0 ls st h H locs cells slots lsC ad) (hr : zR1 sc n mi i ls h (x_i2f i ls st h zNX zBAD) = some (r, h')) (ho : okP hs (zds mi) ls h (x_i2f i ls st h zNX zBAD)) (hd : decode (zMI mi).2.1 (zpc mi i) = .ok (.i2f, 1)) (hnx : zpc mi (i + 1) = zpc mi i + 1) : W p l e R s m args below meth c H locs cells slots Q (F0 m (zpc mi i) lsC (st.map (vC bS ad))) := by
  unfold x_i2f at hr ho
  split at hr
  next z st' => exact lv_i2f C.1 C.2.1 hd (zf K Z hr ho hnx rfl)
  next => cases hr
theorem zs_fdiv (C : zCx p s m args meth c R mi D cI cD bS sc hs A H0) (K : zG0 p l e R s m args below meth c Q mi D cI cD bS sc hs A H0 n0 s0 hb ad0 r h' n) (Z : zSt mi D cI cD bS hs A H0 n0 s0 hb ad0 ls st h H locs cells slots lsC ad) (hr : zR1 sc n mi i ls h (x_fdiv i ls st h zNX zBAD) = some (r, h')) (ho : okP hs (zds mi) ls h (x_fdiv i ls st h zNX zBAD)) (hd : decode (zMI mi).2.1 (zpc mi i) = .ok (.fdiv, 1)) (hnx : zpc mi (i + 1) = zpc mi i + 1) : W p l e R s m args below meth c H locs cells slots Q (F0 m (zpc mi i) lsC (st.map (vC bS ad))) := by
  unfold x_fdiv at hr ho
  split at hr
  next b a st' =>
    try dsimp only at ho
    split at hr
    next q =>
      try dsimp only at ho
      rw [if_pos q] at ho
      exact lv_fdiv C.1 C.2.1 hd (show _ &&& _ ≤ _ from of_decide_eq_true q) (zf K Z hr ho hnx rfl)
    next => cases hr
  next => cases hr
theorem zs_f2d (C : zCx p s m args meth c R mi D cI cD bS sc hs A H0) (K : zG0 p l e R s m args below meth c Q mi D cI cD bS sc hs A H0 n0 s0 hb ad0 r h' n) (Z : zSt mi D cI cD bS hs A H0 n0 s0 hb ad0 ls st h H locs cells slots lsC ad) (hr : zR1 sc n mi i ls h (x_f2d i ls st h zNX zBAD) = some (r, h')) (ho : okP hs (zds mi) ls h (x_f2d i ls st h zNX zBAD)) (hd : decode (zMI mi).2.1 (zpc mi i) = .ok (.f2d, 1)) (hnx : zpc mi (i + 1) = zpc mi i + 1) : W p l e R s m args below meth c H locs cells slots Q (F0 m (zpc mi i) lsC (st.map (vC bS ad))) := by
  unfold x_f2d at hr ho
  split at hr
  next a st' =>
    try dsimp only at ho
    split at hr
    next q =>
      try dsimp only at ho
      rw [if_pos q] at ho
      exact lv_f2d C.1 C.2.1 hd (show _ &&& _ ≤ _ from of_decide_eq_true q) (zf K Z hr ho hnx rfl)
    next => cases hr
  next => cases hr
theorem zs_dcmp (C : zCx p s m args meth c R mi D cI cD bS sc hs A H0) (K : zG0 p l e R s m args below meth c Q mi D cI cD bS sc hs A H0 n0 s0 hb ad0 r h' n) (Z : zSt mi D cI cD bS hs A H0 n0 s0 hb ad0 ls st h H locs cells slots lsC ad) (hr : zR1 sc n mi i ls h (x_dcmp i ls st h zNX zBAD) = some (r, h')) (ho : okP hs (zds mi) ls h (x_dcmp i ls st h zNX zBAD)) (hd : decode (zMI mi).2.1 (zpc mi i) = .ok (.dcmp .l, 1)) (hnx : zpc mi (i + 1) = zpc mi i + 1) : W p l e R s m args below meth c H locs cells slots Q (F0 m (zpc mi i) lsC (st.map (vC bS ad))) := by
  unfold x_dcmp at hr ho
  split at hr
  next b a st' => exact lv_dcmp C.1 C.2.1 hd (zf K Z hr ho hnx (congrArg (fun z => Value.int z :: st'.map (vC bS ad)) (zi_of _)))
  next => cases hr
theorem zs_fcmp (C : zCx p s m args meth c R mi D cI cD bS sc hs A H0) (K : zG0 p l e R s m args below meth c Q mi D cI cD bS sc hs A H0 n0 s0 hb ad0 r h' n) (Z : zSt mi D cI cD bS hs A H0 n0 s0 hb ad0 ls st h H locs cells slots lsC ad) (hr : zR1 sc n mi i ls h (x_fcmp i ls st h zNX zBAD) = some (r, h')) (ho : okP hs (zds mi) ls h (x_fcmp i ls st h zNX zBAD)) (hd : decode (zMI mi).2.1 (zpc mi i) = .ok (.fcmp .l, 1)) (hnx : zpc mi (i + 1) = zpc mi i + 1) : W p l e R s m args below meth c H locs cells slots Q (F0 m (zpc mi i) lsC (st.map (vC bS ad))) := by
  unfold x_fcmp at hr ho
  split at hr
  next b a st' => exact lv_fcmp C.1 C.2.1 hd (zf K Z hr ho hnx (congrArg (fun z => Value.int z :: st'.map (vC bS ad)) (zi_of _)))
  next => cases hr
theorem zs_fconst0 (C : zCx p s m args meth c R mi D cI cD bS sc hs A H0) (K : zG0 p l e R s m args below meth c Q mi D cI cD bS sc hs A H0 n0 s0 hb ad0 r h' n) (Z : zSt mi D cI cD bS hs A H0 n0 s0 hb ad0 ls st h H locs cells slots lsC ad) (hr : zR1 sc n mi i ls h (x_fconst0 i ls st h zNX) = some (r, h')) (ho : okP hs (zds mi) ls h (x_fconst0 i ls st h zNX)) (hd : decode (zMI mi).2.1 (zpc mi i) = .ok (.fconst 0, 1)) (hnx : zpc mi (i + 1) = zpc mi i + 1) : W p l e R s m args below meth c H locs cells slots Q (F0 m (zpc mi i) lsC (st.map (vC bS ad))) :=
  lv_fconst0 C.1 C.2.1 hd (zf K Z hr ho hnx rfl)
theorem zs_getf (C : zCx p s m args meth c R mi D cI cD bS sc hs A H0) (K : zG0 p l e R s m args below meth c Q mi D cI cD bS sc hs A H0 n0 s0 hb ad0 r h' n) (Z : zSt mi D cI cD bS hs A H0 n0 s0 hb ad0 ls st h H locs cells slots lsC ad) {ci j ix : Nat} (hr : zR1 sc n mi i ls h (x_getf i ls st h zNX zBAD ci j) = some (r, h')) (ho : okP hs (zds mi) ls h (x_getf i ls st h zNX zBAD ci j)) (hc : ci < 6 ∧ j < (zT ci).2.2) (hcp : ((zMI mi).2.2.2.2.1, ix, 0, (ci : Int), j) ∈ ctab) (hd : decode (zMI mi).2.1 (zpc mi i) = .ok (.getfield ix, 3)) (hnx : zpc mi (i + 1) = zpc mi i + 3) : W p l e R s m args below meth c H locs cells slots Q (F0 m (zpc mi i) lsC (st.map (vC bS ad))) := by
  unfold x_getf at hr ho
  split at hr
  next k st' =>
    try dsimp only at ho
    have hk : k < h.1 := (okS_tl Z.2.2.1).1
    unfold getK at hr ho
    split at hr
    next c1 fs hg =>
      try dsimp only at ho
      rw [hg] at ho
      split at hr
      next hci =>
        try dsimp only at ho
        subst hci
        have ho := ho
        simp only [if_true] at ho
        split at hr
        next v hv =>
          try dsimp only at ho
          rw [hv] at ho
          have ht := zT_ok hc.1
          have hl := C.2.2.2.2.1 _ (cp_in hcp (by intro q; dsimp only at q; omega))
          refine va_get (ws := cw cI cD bS ad h) (a := ad k) (cl := vwCl) (C := (zT c1).1) (T := (zT c1).2.1) (N := (zT c1).2.2) (ref := (zT c1).1) (ci := c1) (fs := fs.map (vC bS ad)) (v := vC bS ad v) C.1 C.2.1 C.2.2.2.2.1 (fun w hw => x_in c1 hc.1 w (List.mem_append_left _ hw)) C.2.2.2.1 C.2.2.2.2.2.1 Z.2.2.2.1 k (by rw [cw_get hk, hg]; rfl) (zT_get hc.1) j hc.2 hl ?_ (by rw [List.getElem?_map, hv]; rfl) hd ?_
          · rw [(ht.2 j hc.2).1]; exact fun _ q => q
          · exact zf K Z hr ho hnx rfl
        next => cases hr
      next => cases hr
    next => cases hr
  next => cases hr
theorem zs_putf (C : zCx p s m args meth c R mi D cI cD bS sc hs A H0) (K : zG0 p l e R s m args below meth c Q mi D cI cD bS sc hs A H0 n0 s0 hb ad0 r h' n) (Z : zSt mi D cI cD bS hs A H0 n0 s0 hb ad0 ls st h H locs cells slots lsC ad) {ci j ix : Nat} (hr : zR1 sc n mi i ls h (x_putf i ls st h zNX zBAD ci j) = some (r, h')) (ho : okP hs (zds mi) ls h (x_putf i ls st h zNX zBAD ci j)) (hc : ci < 6 ∧ j < (zT ci).2.2) (hcp : ((zMI mi).2.2.2.2.1, ix, 0, (ci : Int), j) ∈ ctab) (hf : (!(((zT ci).2.1 j).2.2.2) || ((zMI mi).2.2.2.2.2 == 2 && (zMI mi).2.2.2.2.1 == ci)) = true) (hown : ci < 6 → zN ci = (zT ci).1) (hd : decode (zMI mi).2.1 (zpc mi i) = .ok (.putfield ix, 3)) (hnx : zpc mi (i + 1) = zpc mi i + 3) : W p l e R s m args below meth c H locs cells slots Q (F0 m (zpc mi i) lsC (st.map (vC bS ad))) := by
  unfold x_putf at hr ho
  split at hr
  next v k st' =>
    try dsimp only at ho
    split at hr
    next hok =>
      try dsimp only at ho
      rw [if_pos hok] at ho
      have hk : k < h.1 := (okS_tl (okS_tl Z.2.2.1).2).1
      unfold putK at hr ho
      split at hr
      next c1 fs hg =>
        try dsimp only at ho
        rw [hg] at ho
        split at hr
        next hci =>
          try dsimp only at ho
          subst hci
          have ho := ho
          simp only [if_true] at ho
          have ht := zT_ok hc.1
          have hl := C.2.2.2.2.1 _ (cp_in hcp (by intro q; dsimp only at q; omega))
          have hfs := Z.1 k hk
          rw [hg] at hfs
          have hlen : j < (fs.map (vC bS ad)).length := by rw [List.length_map, hfs.2.1]; exact hc.2
          have hty : ∀ k, k < (zT c1).2.2 → parseFieldDescriptor ((zT c1).2.1 k).2.2.1 = some ((parseFieldDescriptor ((zT c1).2.1 k).2.2.1).getD .int) := by
            intro k hk
            rcases (ht.2 k hk).2 with ⟨-, q⟩ | ⟨-, ⟨n, q⟩ | ⟨n, q⟩⟩ <;> rw [q] <;> rfl
          have hnf : ∃ ty, parseFieldDescriptor ((zT c1).2.1 j).2.2.1 = some ty ∧ narrow ty (vC bS ad v) = vC bS ad v ∧ Jvm.fits ty (vC bS ad v) = true := by
            unfold okF at hok
            rcases (ht.2 j hc.2).2 with ⟨a, q⟩ | ⟨a, q⟩
            · rw [a] at hok
              rcases v with z | (_ | k) | b | b | u
              · exact ⟨_, q, rfl, rfl⟩
              · cases hok
              · cases hok
              · cases hok
              · cases hok
              · cases hok
            · rw [a] at hok
              rcases v with z | (_ | k) | b | b | u
              · cases hok
              · rcases q with ⟨n, q⟩ | ⟨n, q⟩ <;> exact ⟨_, q, rfl, rfl⟩
              · rcases q with ⟨n, q⟩ | ⟨n, q⟩ <;> exact ⟨_, q, rfl, rfl⟩
              · cases hok
              · cases hok
              · cases hok
          obtain ⟨ty, hp, hn, hfit⟩ := hnf
          have hm : (fs.map (vC bS ad)).set j (vC bS ad v) = (fs.set j v).map (vC bS ad) := by rw [List.map_set]
          by_cases hfin : ((zT c1).2.1 j).2.2.2 = true
          · rw [hfin] at hf
            simp only [Bool.not_true, Bool.false_or, Bool.and_eq_true, beq_iff_eq] at hf
            refine va_putF (ws := cw cI cD bS ad h) (a := ad k) (cl := vwCl) (C := (zT c1).1) (T := (zT c1).2.1) (N := (zT c1).2.2) (ref := (zT c1).1) (ci := c1) (fs := fs.map (vC bS ad)) (v := vC bS ad v) (ty := ty) C.1 C.2.1 C.2.2.2.2.1 (fun w hw => x_in c1 hc.1 w (List.mem_append_left _ hw)) _ hty (zT_nm c1 hc.1) C.2.2.2.1 C.2.2.2.2.2.1 Z.2.2.2.1 Z.2.2.2.2.1 Z.2.2.2.2.2.1 k (by rw [cw_get hk, hg]; rfl) (zT_get hc.1) j hc.2 hl ?_ hfin (C.2.2.2.2.2.2.2.2.1 hf.1) ?_ hp hn hfit hlen hd ?_
            · rw [(ht.2 j hc.2).1]; exact fun _ q => q
            · rw [(ht.2 j hc.2).1, ← hown hc.1, hf.2]
            · intro H1 locs1 hP hD hS
              rw [hm] at hP hD
              exact zfh K Z hr ho hk hP hD hS hnx rfl
          · refine va_put (ws := cw cI cD bS ad h) (a := ad k) (cl := vwCl) (C := (zT c1).1) (T := (zT c1).2.1) (N := (zT c1).2.2) (ref := (zT c1).1) (ci := c1) (fs := fs.map (vC bS ad)) (v := vC bS ad v) (ty := ty) C.1 C.2.1 C.2.2.2.2.1 (fun w hw => x_in c1 hc.1 w (List.mem_append_left _ hw)) _ hty (zT_nm c1 hc.1) C.2.2.2.1 C.2.2.2.2.2.1 Z.2.2.2.1 Z.2.2.2.2.1 Z.2.2.2.2.2.1 k (by rw [cw_get hk, hg]; rfl) (zT_get hc.1) j hc.2 hl ?_ (by simpa using hfin) hp hn hfit hlen hd ?_
            · rw [(ht.2 j hc.2).1]; exact fun _ q => q
            · intro H1 locs1 hP hD hS
              rw [hm] at hP hD
              exact zfh K Z hr ho hk hP hD hS hnx rfl
        next => cases hr
      next => cases hr
    next => cases hr
  next => cases hr
theorem zi_ofn (n : Nat) : Int32.ofInt (n : Int) = Int32.ofNat n := by first | rfl | exact Int32.ofInt_eq_ofNat | simp [Int32.ofInt, Int32.ofNat]
theorem zix {x : Int} {len : Nat} {α : Type} {g : Int → α} (hx : inR x) (h : 0 ≤ x ∧ x < len) : (fun j : Nat => g j) (Int32.ofInt x).toNatClampNeg = g x := by
  show g (((Int32.ofInt x).toNatClampNeg : Nat) : Int) = g x
  rw [zi_nat hx, Int.toNat_of_nonneg h.1]
theorem zixu {x z : Int} {g : Int → Int} (hx : inR x) (h0 : 0 ≤ x) : upd (fun j : Nat => Int32.ofInt (g j)) (Int32.ofInt x).toNatClampNeg (Int32.ofInt z) = fun j : Nat => Int32.ofInt (zup g x z j) := by
  funext j
  rw [zi_nat hx]
  unfold zup
  by_cases hj : j = x.toNat
  · rw [hj, pk_us, if_pos (Int.toNat_of_nonneg h0)]
  · rw [pk_un hj, if_neg (fun q => hj (by omega))]
theorem zixq {x : Int} {v : Nat} {g : Int → Option Nat} (hx : inR x) (h0 : 0 ≤ x) : va_up (fun j : Nat => (g j).map ad) (Int32.ofInt x).toNatClampNeg (some (ad v)) = fun j : Nat => (zup g x (some v) j).map ad := by
  funext j
  rw [zi_nat hx]
  unfold zup va_up
  by_cases hj : j = x.toNat
  · rw [if_pos hj, if_pos (by omega)]; rfl
  · rw [if_neg hj, if_neg (fun q => hj (by omega))]
theorem zs_iald (C : zCx p s m args meth c R mi D cI cD bS sc hs A H0) (K : zG0 p l e R s m args below meth c Q mi D cI cD bS sc hs A H0 n0 s0 hb ad0 r h' n) (Z : zSt mi D cI cD bS hs A H0 n0 s0 hb ad0 ls st h H locs cells slots lsC ad) (hr : zR1 sc n mi i ls h (x_iald i ls st h zNX zBAD sc) = some (r, h')) (ho : okP hs (zds mi) ls h (x_iald i ls st h zNX zBAD sc)) (hd : decode (zMI mi).2.1 (zpc mi i) = .ok (.iaload, 1)) (hnx : zpc mi (i + 1) = zpc mi i + 1) : W p l e R s m args below meth c H locs cells slots Q (F0 m (zpc mi i) lsC (st.map (vC bS ad))) := by
  unfold x_iald at hr ho
  split at hr
  next x k st' =>
    try dsimp only at ho
    have hx : inR x := (okS_tl Z.2.2.1).1
    have hk : k < h.1 := (okS_tl (okS_tl Z.2.2.1).2).1
    unfold ialK at hr ho
    split at hr
    next len g hg =>
      try dsimp only at ho
      rw [hg] at ho
      split at hr
      next q =>
        try dsimp only at ho
        have ho := ho
        simp only [q, and_self, if_true] at ho
        exact va_iald (ws := cw cI cD bS ad h) (a := ad k) (f := fun j : Nat => Int32.ofInt (g j)) C.1 C.2.1 C.2.2.2.2.2.1 Z.2.2.2.1 k 0 (by rw [cw_get hk, hg]; rfl) rfl (zi_vp hx q) hd (zf K Z hr ho hnx (congrArg (fun z => Value.int z :: st'.map (vC bS ad)) (zix (g := fun z => Int32.ofInt (g z)) hx q).symm))
      next => cases hr
    next => cases hr
  next x st' =>
    try dsimp only at ho
    split at hr
    next q =>
      try dsimp only at ho
      rw [if_pos q] at ho
      have hx : inR x := (okS_tl Z.2.2.1).1
      have hh : hs = true := (okS_tl (okS_tl Z.2.2.1).2).1
      obtain ⟨hX, hbl, hbA⟩ := C.2.2.2.2.2.2.2.2.2.2.2.2 hh
      exact va_sld C.1 C.2.1 hX hbl hbA Z.2.2.2.2.2.1 (zi_vp hx q) hd (zf K Z hr ho hnx (congrArg (fun z => Value.int z :: st'.map (vC bS ad)) (zix (g := fun z => Int32.ofInt (sc.2 z)) hx q).symm))
    next => cases hr
  next => cases hr
theorem zs_iast (C : zCx p s m args meth c R mi D cI cD bS sc hs A H0) (K : zG0 p l e R s m args below meth c Q mi D cI cD bS sc hs A H0 n0 s0 hb ad0 r h' n) (Z : zSt mi D cI cD bS hs A H0 n0 s0 hb ad0 ls st h H locs cells slots lsC ad) (hr : zR1 sc n mi i ls h (x_iast i ls st h zNX zBAD) = some (r, h')) (ho : okP hs (zds mi) ls h (x_iast i ls st h zNX zBAD)) (hd : decode (zMI mi).2.1 (zpc mi i) = .ok (.iastore, 1)) (hnx : zpc mi (i + 1) = zpc mi i + 1) : W p l e R s m args below meth c H locs cells slots Q (F0 m (zpc mi i) lsC (st.map (vC bS ad))) := by
  unfold x_iast at hr ho
  split at hr
  next z x k st' =>
    try dsimp only at ho
    have hx : inR x := (okS_tl (okS_tl Z.2.2.1).2).1
    have hk : k < h.1 := (okS_tl (okS_tl (okS_tl Z.2.2.1).2).2).1
    unfold iasK at hr ho
    split at hr
    next len g hg =>
      try dsimp only at ho
      rw [hg] at ho
      split at hr
      next q =>
        try dsimp only at ho
        have ho := ho
        simp only [q, and_self, if_true] at ho
        refine va_iast (ws := cw cI cD bS ad h) (a := ad k) (f := fun j : Nat => Int32.ofInt (g j)) C.1 C.2.1 C.2.2.2.2.2.1 Z.2.2.2.1 Z.2.2.2.2.1 Z.2.2.2.2.2.1 k 0 (by rw [cw_get hk, hg]; rfl) rfl (zi_vp hx q) hd (fun H1 locs1 hP hD hS => ?_)
        rw [zixu hx q.1] at hP hD
        exact zfh K Z hr ho hk hP hD hS hnx rfl
      next => cases hr
    next => cases hr
  next => cases hr
theorem zs_aald (C : zCx p s m args meth c R mi D cI cD bS sc hs A H0) (K : zG0 p l e R s m args below meth c Q mi D cI cD bS sc hs A H0 n0 s0 hb ad0 r h' n) (Z : zSt mi D cI cD bS hs A H0 n0 s0 hb ad0 ls st h H locs cells slots lsC ad) (hr : zR1 sc n mi i ls h (x_aald i ls st h zNX zBAD) = some (r, h')) (ho : okP hs (zds mi) ls h (x_aald i ls st h zNX zBAD)) (hd : decode (zMI mi).2.1 (zpc mi i) = .ok (.aaload, 1)) (hnx : zpc mi (i + 1) = zpc mi i + 1) : W p l e R s m args below meth c H locs cells slots Q (F0 m (zpc mi i) lsC (st.map (vC bS ad))) := by
  unfold x_aald at hr ho
  split at hr
  next x k st' =>
    try dsimp only at ho
    have hx : inR x := (okS_tl Z.2.2.1).1
    have hk : k < h.1 := (okS_tl (okS_tl Z.2.2.1).2).1
    unfold aalK at hr ho
    split at hr
    next len g hg =>
      try dsimp only at ho
      rw [hg] at ho
      split at hr
      next q =>
        try dsimp only at ho
        have ho := ho
        simp only [q, and_self, if_true] at ho
        refine va_aldq (ws := cw cI cD bS ad h) (a := ad k) (C := RX0) (f := fun j : Nat => (g j).map ad) C.1 C.2.1 C.2.2.2.2.2.1 Z.2.2.2.1 k 1 (by rw [cw_get hk, hg]; rfl) rfl (zi_vp hx q) hd (zf K Z hr ho hnx ?_)
        have e : g (((Int32.ofInt x).toNatClampNeg : Nat) : Int) = g x := zix (g := g) hx q
        show _ = va_rf (Option.map ad (g (((Int32.ofInt x).toNatClampNeg : Nat) : Int))) :: _
        rw [e]
        rw [List.map_cons]
        congr 1
        cases g x <;> rfl
      next => cases hr
    next => cases hr
  next => cases hr
theorem zs_aast (C : zCx p s m args meth c R mi D cI cD bS sc hs A H0) (K : zG0 p l e R s m args below meth c Q mi D cI cD bS sc hs A H0 n0 s0 hb ad0 r h' n) (Z : zSt mi D cI cD bS hs A H0 n0 s0 hb ad0 ls st h H locs cells slots lsC ad) (hr : zR1 sc n mi i ls h (x_aast i ls st h zNX zBAD) = some (r, h')) (ho : okP hs (zds mi) ls h (x_aast i ls st h zNX zBAD)) (hd : decode (zMI mi).2.1 (zpc mi i) = .ok (.aastore, 1)) (hnx : zpc mi (i + 1) = zpc mi i + 1) : W p l e R s m args below meth c H locs cells slots Q (F0 m (zpc mi i) lsC (st.map (vC bS ad))) := by
  unfold x_aast at hr ho
  split at hr
  next v x k st' =>
    try dsimp only at ho
    have hv : v < h.1 := (okS_tl Z.2.2.1).1
    have hx : inR x := (okS_tl (okS_tl Z.2.2.1).2).1
    have hk : k < h.1 := (okS_tl (okS_tl (okS_tl Z.2.2.1).2).2).1
    unfold aasK at hr ho
    split at hr
    next len g hg =>
      try dsimp only at ho
      rw [hg] at ho
      split at hr
      next q =>
        try dsimp only at ho
        have ho := ho
        simp only [q, and_self, if_true] at ho
        have hvd := q.2
        unfold isD at hvd
        split at hvd
        next fs hgv =>
          try dsimp only at ho
          refine va_astq (ws := cw cI cD bS ad h) (a := ad k) (v := ad v) (vs := fs.map (vC bS ad)) (f := fun j : Nat => (g j).map ad) (r := zT 0) C.1 C.2.1 C.2.2.2.2.2.1 Z.2.2.2.1 Z.2.2.2.2.1 Z.2.2.2.2.2.1 k 1 v 0 (by rw [cw_get hk, hg]; rfl) rfl (by rw [cw_get hv, hgv]; rfl) (zT_get (by omega)) (zi_vp hx q.1) hd (fun H1 locs1 hP hD hS => ?_)
          rw [zixq hx q.1.1] at hP hD
          exact zfh K Z hr ho hk hP hD hS hnx rfl
        next => cases hvd
      next => cases hr
    next => cases hr
  next => cases hr
theorem zs_alen (C : zCx p s m args meth c R mi D cI cD bS sc hs A H0) (K : zG0 p l e R s m args below meth c Q mi D cI cD bS sc hs A H0 n0 s0 hb ad0 r h' n) (Z : zSt mi D cI cD bS hs A H0 n0 s0 hb ad0 ls st h H locs cells slots lsC ad) (hr : zR1 sc n mi i ls h (x_alen i ls st h zNX zBAD sc) = some (r, h')) (ho : okP hs (zds mi) ls h (x_alen i ls st h zNX zBAD sc)) (hd : decode (zMI mi).2.1 (zpc mi i) = .ok (.arraylength, 1)) (hnx : zpc mi (i + 1) = zpc mi i + 1) : W p l e R s m args below meth c H locs cells slots Q (F0 m (zpc mi i) lsC (st.map (vC bS ad))) := by
  unfold x_alen at hr ho
  split at hr
  next k st' =>
    try dsimp only at ho
    have hk : k < h.1 := (okS_tl Z.2.2.1).1
    unfold alnK at hr ho
    split at hr
    next len g hg =>
      try dsimp only at ho
      rw [hg] at ho
      exact va_alen (ws := cw cI cD bS ad h) (a := ad k) (x := (len, .inl (fun j : Nat => Int32.ofInt (g j)))) C.1 C.2.1 C.2.2.2.2.2.1 Z.2.2.2.1 k 0 (by rw [cw_get hk, hg]; rfl) rfl (v := Int32.ofInt (len : Int)) (zi_ofn len).symm hd (zf K Z hr ho hnx rfl)
    next => cases hr
  next st' =>
    try dsimp only at ho
    have hh : hs = true := (okS_tl Z.2.2.1).1
    obtain ⟨hX, hbl, hbA⟩ := C.2.2.2.2.2.2.2.2.2.2.2.2 hh
    exact va_slen C.1 C.2.1 hX hbl hbA Z.2.2.2.2.2.1 hd (zf K Z hr ho hnx (congrArg (fun z => Value.int z :: st'.map (vC bS ad)) (zi_ofn sc.1)))
  next => cases hr
theorem zs_oinit (C : zCx p s m args meth c R mi D cI cD bS sc hs A H0) (K : zG0 p l e R s m args below meth c Q mi D cI cD bS sc hs A H0 n0 s0 hb ad0 r h' n) (Z : zSt mi D cI cD bS hs A H0 n0 s0 hb ad0 ls st h H locs cells slots lsC ad) {ix : Nat} (hr : zR1 sc n mi i ls h (x_oinit i ls st h zNX zBAD) = some (r, h')) (ho : okP hs (zds mi) ls h (x_oinit i ls st h zNX zBAD)) (hcp : ((zMI mi).2.2.2.2.1, ix, 5, (0 : Int), 0) ∈ ctab) (hrm : 1 ≤ rmF.getD mi 0 ∧ 20 ≤ rmL.getD mi 0) (hd : decode (zMI mi).2.1 (zpc mi i) = .ok (.invokespecial ix, 3)) (hnx : zpc mi (i + 1) = zpc mi i + 3) : W p l e R s m args below meth c H locs cells slots Q (F0 m (zpc mi i) lsC (st.map (vC bS ad))) := by
  unfold x_oinit at hr ho
  split at hr
  next k st' =>
    try dsimp only at ho
    split at hr
    next q =>
      try dsimp only at ho
      rw [if_pos q] at ho
      have hl := C.2.2.2.2.1 _ (cp_in hcp (by intro q; dsimp only at q; omega))
      have hR := C.2.2.2.2.2.2.2.2.2
      refine W.objInit (a := ad k) (rest := st'.map (vC bS ad)) C.1 C.2.1 C.2.2.2.1 hl (C.2.2.2.2.1 _ (o_in _ (by simp [oW]))) (C.2.2.2.2.1 _ (o_in _ (by simp [oW]))) rfl (by rw [C.2.2.1]; exact Z.2.2.2.2.2.2.1.2.1) rfl hd (Nat.le_trans hrm.1 hR.1) ?_ ?_
      · rw [zcat q.2]
        show 2 * 0 + _ + 12 ≤ _
        have := hR.2.1
        omega
      · exact zf K Z hr ho hnx rfl
    next => cases hr
  next => cases hr
end SIM
end
section
/-! MAKING, CALLS, ENDS; the whole run -/
section SIM2
variable {p : Program} {l : Launch} {e : Env} {R : Room} {s : State} {m : MethodId} {args : Array Value} {below : List Frame} {meth : Method} {c : Code} {Q : State → Prop}
variable {mi : Nat} {D : va_G} {cI cD : ClassId} {bS : Nat} {sc : Nat × (Int → Int)} {hs : Bool} {A : Nat → Prop} {H0 : Heap} {n0 s0 hb : Nat} {ad0 : Nat → Nat} {r : Option zV} {h' : zH} {n : Nat}
variable {i : Nat} {ls : zL} {st : List zV} {h : zH} {H : Heap} {locs : List Loc} {cells slots : Nat} {lsC : Array Slot} {ad : Nat → Nat}
/-- a row that makes a cell asks for room: what comes later has it -/
theorem zroom {i' sz : Nat} {ls' : zL} {st' : List zV} {cc : zC} (hsc : ∀ x, inR (sc.2 x)) (hsl : sc.1 < 2147483648) (hn : n0 + cells = h.1) (hs0 : s0 + slots = h.2.1) (hbd : h'.1 ≤ n0 + R.cells ∧ h'.2.1 ≤ s0 + R.slots) (hr : zrun sc n mi i' ls' st' (zaH h sz cc) = some (r, h')) (ho : okP hs (zds mi) ls h (.inl (i', ls', st', zaH h sz cc))) : cells + 1 ≤ R.cells ∧ slots + sz ≤ R.slots := by
  obtain ⟨-, -, h3, h4⟩ := run_ok hsc hsl n hs mi i' ls' st' (zaH h sz cc) r h' hr ho.1 ho.2.1 ho.2.2.1
  have h3 : h.1 + 1 ≤ h'.1 := h3
  have h4 : h.2.1 + sz ≤ h'.2.1 := h4
  omega
theorem zroom0 {n1 : Nat} (hsc : ∀ x, inR (sc.2 x)) (hsl : sc.1 < 2147483648) (hn : n0 + cells = h.1) (hs0 : s0 + slots = h.2.1) (hbd : h'.1 ≤ n0 + R.cells ∧ h'.2.1 ≤ s0 + R.slots) (hr : zrun sc n1 mi i ls st h = some (r, h')) (Z : zSt mi D cI cD bS hs A H0 n0 s0 hb ad0 ls st h H locs cells slots lsC ad) : cells ≤ R.cells ∧ slots ≤ R.slots := by
  obtain ⟨-, -, h3, h4⟩ := run_ok hsc hsl n1 hs mi i ls st h r h' hr Z.1 Z.2.1 Z.2.2.1
  omega
theorem zi_nn {x : Int} (hx : inR x) (h : 0 ≤ x) : ¬ Int32.ofInt x < 0 := by
  rw [zi_0, zi_lt hx inR_0]; omega
theorem zs_newa (hsc : ∀ x, inR (sc.2 x)) (hsl : sc.1 < 2147483648) (hbd : h'.1 ≤ n0 + R.cells ∧ h'.2.1 ≤ s0 + R.slots) (C : zCx p s m args meth c R mi D cI cD bS sc hs A H0) (K : zG0 p l e R s m args below meth c Q mi D cI cD bS sc hs A H0 n0 s0 hb ad0 r h' n) (Z : zSt mi D cI cD bS hs A H0 n0 s0 hb ad0 ls st h H locs cells slots lsC ad) (hr : zR1 sc n mi i ls h (x_newa i ls st h zNX zBAD) = some (r, h')) (ho : okP hs (zds mi) ls h (x_newa i ls st h zNX zBAD)) (hd : decode (zMI mi).2.1 (zpc mi i) = .ok (.newarray .int, 2)) (hnx : zpc mi (i + 1) = zpc mi i + 2) : W p l e R s m args below meth c H locs cells slots Q (F0 m (zpc mi i) lsC (st.map (vC bS ad))) := by
  unfold x_newa at hr ho
  split at hr
  next x st' =>
    try dsimp only at ho
    split at hr
    next q =>
      rw [if_pos q] at ho
      have hx : inR x := (okS_tl Z.2.2.1).1
      have hrm := zroom hsc hsl Z.2.2.2.2.2.2.2.1 Z.2.2.2.2.2.2.2.2.1 hbd hr ho
      refine va_newaK C.1 C.2.1 (atype := .int) (N := x.toNat) (C.2.2.2.2.1 _ (o_in _ (by simp [oW]; rfl))) rfl hd rfl (zi_nn hx q.1) (zi_nat hx) ?_ hrm.1 hrm.2 rfl (fun H1 cA e1 z1 o1 hAr hNm => ?_)
      · show x.toNat * 4 ≤ 536870912
        omega
      · have hcA : cA = cI := by
          have h1 := (C.2.2.2.2.2.1.2 0 (cI, .int) rfl).2
          exact Option.some.inj (hNm.symm.trans h1)
        subst hcA
        have hP := Z.2.2.2.1
        have hD := Z.2.2.2.2.1
        have hS := Z.2.2.2.2.2.1
        have hk : ∀ (k : Nat) (y : Nat × va_E), (cw cA cD bS ad h)[k]? = some y → H1[y.1]? = H[y.1]? := fun k y hy => o1 y.1 ((hP k y hy).lt)
        refine zfa K Z hr ho (q := H.size) (ec := .inl (cA, x.toNat, .inl (fun _ => 0))) (fun ad' => rfl) ((hP.kept hk).app (fun k y hy => ?_)) (hD.push hP rfl (C.2.2.2.2.2.2.2.2.2.2.2.1 _ hS.1)) ⟨Nat.le_trans hS.1 (by omega), fun y h1 h2 => (o1 y (Nat.lt_of_lt_of_le h1 hS.1)).trans (hS.2.1 y h1 h2), hS.2.2⟩ hnx (okS_tl Z.2.2.1).2 rfl
        have hz : k < 1 := (List.getElem?_eq_some_iff.mp hy).1
        rw [show k = 0 by omega] at hy
        cases hy
        exact e1
    next => cases hr
  next => cases hr
theorem zs_anew (hsc : ∀ x, inR (sc.2 x)) (hsl : sc.1 < 2147483648) (hbd : h'.1 ≤ n0 + R.cells ∧ h'.2.1 ≤ s0 + R.slots) (C : zCx p s m args meth c R mi D cI cD bS sc hs A H0) (K : zG0 p l e R s m args below meth c Q mi D cI cD bS sc hs A H0 n0 s0 hb ad0 r h' n) (Z : zSt mi D cI cD bS hs A H0 n0 s0 hb ad0 ls st h H locs cells slots lsC ad) {ix : Nat} (hr : zR1 sc n mi i ls h (x_anew i ls st h zNX zBAD) = some (r, h')) (ho : okP hs (zds mi) ls h (x_anew i ls st h zNX zBAD)) (hcp : ((zMI mi).2.2.2.2.1, ix, 3, (0 : Int), 0) ∈ ctab) (hd : decode (zMI mi).2.1 (zpc mi i) = .ok (.anewarray ix, 3)) (hnx : zpc mi (i + 1) = zpc mi i + 3) : W p l e R s m args below meth c H locs cells slots Q (F0 m (zpc mi i) lsC (st.map (vC bS ad))) := by
  unfold x_anew at hr ho
  split at hr
  next x st' =>
    try dsimp only at ho
    split at hr
    next q =>
      rw [if_pos q] at ho
      have hx : inR x := (okS_tl Z.2.2.1).1
      have hrm := zroom hsc hsl Z.2.2.2.2.2.2.2.1 Z.2.2.2.2.2.2.2.2.1 hbd hr ho
      have hl := C.2.2.2.2.1 _ (cp_in hcp (by intro q; dsimp only at q; omega))
      refine va_newq (ws := cw cI cD bS ad h) (C := RX0) C.1 C.2.1 C.2.2.2.1 hl C.2.2.2.2.2.2.1 C.2.2.2.2.2.1 Z.2.2.2.1 Z.2.2.2.2.1 Z.2.2.2.2.2.1 C.2.2.2.2.2.2.2.2.2.2.2.1 (zi_nn hx q.1) (zi_nat hx) (by omega) hrm.1 hrm.2 hd (fun qa cA H1 hK2 hP hD hS => ?_)
      have hcA : cA = cD := by
        obtain ⟨kA, comp, k1, k2, k3, k4⟩ := (hK2.2 2 (cA, .object RX0) rfl).2
        obtain ⟨kB, comp2, l1, l2, l3, l4⟩ := (C.2.2.2.2.2.1.2 1 (cD, .object RX0) rfl).2
        exact Option.some.inj (k4.symm.trans l4)
      subst hcA
      exact zfa K Z hr ho (fun ad' => rfl) hP hD hS hnx (okS_tl Z.2.2.1).2 rfl
    next => cases hr
  next => cases hr
theorem zs_new (hsc : ∀ x, inR (sc.2 x)) (hsl : sc.1 < 2147483648) (hbd : h'.1 ≤ n0 + R.cells ∧ h'.2.1 ≤ s0 + R.slots) (C : zCx p s m args meth c R mi D cI cD bS sc hs A H0) (K : zG0 p l e R s m args below meth c Q mi D cI cD bS sc hs A H0 n0 s0 hb ad0 r h' n) (Z : zSt mi D cI cD bS hs A H0 n0 s0 hb ad0 ls st h H locs cells slots lsC ad) {ci ix : Nat} (hr : zR1 sc n mi i ls h (x_new i ls st h zNX ci) = some (r, h')) (ho : okP hs (zds mi) ls h (x_new i ls st h zNX ci)) (hc : ci < 6) (hnm : zN ci = (zT ci).1) (hcp : ((zMI mi).2.2.2.2.1, ix, 3, (ci : Int), 0) ∈ ctab) (hd : decode (zMI mi).2.1 (zpc mi i) = .ok (.new ix, 3)) (hnx : zpc mi (i + 1) = zpc mi i + 3) : W p l e R s m args below meth c H locs cells slots Q (F0 m (zpc mi i) lsC (st.map (vC bS ad))) := by
  unfold x_new at hr ho
  have hrm := zroom hsc hsl Z.2.2.2.2.2.2.2.1 Z.2.2.2.2.2.2.2.2.1 hbd hr ho
  have hl := C.2.2.2.2.1 _ (cp_in hcp (by intro q; dsimp only at q; omega))
  have hl : (Cond.classLink (zN (zMI mi).2.2.2.2.1) ix (zN ci)).before args s = true := hl
  rw [hnm] at hl
  have ht := zT_ok hc
  have hnl := (newF_ok (n := 0) hc).1
  have hty : ∀ k, k < (zT ci).2.2 → parseFieldDescriptor ((zT ci).2.1 k).2.2.1 = some ((parseFieldDescriptor ((zT ci).2.1 k).2.2.1).getD .int) := by
    intro k hk
    rcases (ht.2 k hk).2 with ⟨-, q⟩ | ⟨-, ⟨n, q⟩ | ⟨n, q⟩⟩ <;> rw [q] <;> rfl
  rw [hnl] at hrm hr ho
  refine va_new (ws := cw cI cD bS ad h) (cl := vwCl) (C := (zT ci).1) (T := (zT ci).2.1) (N := (zT ci).2.2) (ci := ci) (fs := (newF ci).map (vC bS ad)) C.1 C.2.1 C.2.2.2.2.1 (fun w hw => x_in ci hc w (List.mem_append_left _ hw)) _ hty C.2.2.2.1 hl (C.2.2.2.2.1 _ (x_in ci hc _ (List.mem_append_right _ (by simp)))) (C.2.2.2.2.1 _ (x_in ci hc _ (List.mem_append_right _ (by simp)))) C.2.2.2.2.2.1 Z.2.2.2.1 Z.2.2.2.2.1 Z.2.2.2.2.2.1 C.2.2.2.2.2.2.2.2.2.2.2.1 (zT_get hc) (fun j hj => ?_) hrm.1 hrm.2 hd (fun qa H1 hP hD hS => ?_)
  · unfold vp_V
    rw [List.getD_eq_getElem?_getD, List.getElem?_map, newF, List.getElem?_map]
    have hj2 : j < (fkt.getD ci []).length := by rw [ht.1]; exact hj
    rcases (ht.2 j hj).2 with ⟨a, q⟩ | ⟨a, ⟨n, q⟩ | ⟨n, q⟩⟩
    all_goals
      rw [List.getD_eq_getElem?_getD, List.getElem?_eq_getElem hj2] at a
      have a := (show (fkt.getD ci [])[j] = _ from a)
      rw [List.getElem?_eq_getElem hj2, a, q]
      rfl
  · refine zfa K Z hr ho (fun ad' => ?_) hP hD hS hnx Z.2.2.1 rfl
    show Sum.inr (ci, _) = Sum.inr (ci, _)
    congr 2
    apply List.map_congr_left
    intro v hv
    obtain ⟨k, hk, e⟩ := List.mem_map.mp (show v ∈ (fkt.getD ci []).map (fun k => if k = 0 then aI 0 else aN) from hv)
    rw [← e]
    split <;> rfl
/-- a call, whatever it answers -/
theorem va_callg {pc : Nat} {ls : Array Slot} {rest st0 : List Value} {A0 A1 : Nat → Prop} {mc ms : Nat} {free : Addr → Prop} {Qa : State → Outcome → State → Prop} (hr : va_Run p l e R s m args below meth c H locs cells slots mc ms (F0 m pc ls st0) rest Qa free) (hS : va_S A0 H0 H locs) (hA : ∀ q, q < H.size → A1 q → A0 q) (hf : ∀ q, free q → A0 q) (hQ : ∀ (v : Option Value) (st t : State), Qa st (.returned v) t → va_F A1 st t)
    (kk : ∀ (v : Option Value) (st t : State) (H1 : Heap) (locs1 : List Loc), t.heap = H1 → Qa st (.returned v) t → va_S A0 H0 H1 locs1 → W p l e R s m args below meth c H1 locs1 (cells + mc) (slots + ms) Q (F0 m (pc + 3) ls (v.toList ++ rest))) : W p l e R s m args below meth c H locs cells slots Q (F0 m pc ls st0) := by
  intro T hT X
  obtain ⟨v, st₀, t, T', L, h0, X', hL, e1, e2, hq, st⟩ := hr T hT X
  obtain ⟨hz, hk⟩ := hQ v st₀ t hq
  rw [h0] at hz hk
  obtain ⟨t2, a1, b1⟩ := kk v st₀ t T'.heap (locs ++ L) e1.symm hq
    ⟨Nat.le_trans hS.1 (by rw [e1]; exact hz), fun q h1 h2 => by rw [e1, hk q (Nat.lt_of_lt_of_le h1 hS.1) (fun z => h2 (hA q (Nat.lt_of_lt_of_le h1 hS.1) z))]; exact hS.2.1 q h1 h2, fun q hq => by
      rcases List.mem_append.mp hq with h | h
      · exact hS.2.2 q h
      · exact hf _ (hL q h)⟩ T' rfl X'
  exact ⟨t2, st t2 a1, b1⟩
def zPc (hs : Bool) (sc : Nat × (Int → Int)) (D : va_G) (cI cD : ClassId) (bS : Nat) (ad : Nat → Nat) (as : List zV) (h : zH) (sz : Nat) : Array Value → State → Prop := va_Pc (as.map (vC bS ad)) (fun U => U.heap.size = sz ∧ va_P D vwCl (cw cI cD bS ad h) U.heap ∧ va_K D vwCl [(cI, .int), (cD, .object RX0)] U ∧ va_D (fun _ => True) (cw cI cD bS ad h) ∧ va_AO RX0 U ∧ (∀ q ∈ ctab, q.2.2.1 = 2 → va_Nw (cpW q) U) ∧ (hs = true → va_X bS sc.1 (fun j => Int32.ofInt (sc.2 j)) U U.heap ∧ bS < U.heap.size ∧ ¬ va_A (cw cI cD bS ad h) sz bS))
def zQc (D : va_G) (cI cD : ClassId) (bS : Nat) (ad : Nat → Nat) (h : zH) (sz : Nat) (r : Option zV) (h' : zH) : Array Value → State → Outcome → State → Prop := fun _ st oc t => (∃ ad', (∀ k, k < h.1 → ad' k = ad k) ∧ oc = .returned (r.map (vC bS ad')) ∧ va_P D vwCl (cw cI cD bS ad' h') t.heap ∧ va_D (va_A (cw cI cD bS ad h) sz) (cw cI cD bS ad' h')) ∧ va_F (va_A (cw cI cD bS ad h) sz) st t
def zws (m : Nat) : List Cond := .code (zMI m).1 (zMI m).2.1 (zMI m).2.2.1 (zMI m).2.2.2.1 :: zG
def zrm (m : Nat) (h h' : zH) : Room := { frames := rmF.getD m 0, cells := h'.1 - h.1, slots := h'.2.1 - h.2.1, locals := rmL.getD m 0 }
def zMet (l : Launch) (sc : Nat × (Int → Int)) (n : Nat) : Prop := ∀ (hs : Bool) (m' : Nat), m' < 96 → ∀ (as : List zV) (h : zH) (r : Option zV) (h' : zH), zrun sc n m' 0 (zen m' as) [] h = some (r, h') → okH h → okS hs h.1 as → (∀ v ∈ as, zplain v = true) → as.length ≤ zml m' → ∀ (D : va_G) (cI cD : ClassId) (bS : Nat) (ad : Nat → Nat) (sz : Nat),
  Met l (zMI m').1 (zws m') (zrm m' h h') (zPc hs sc D cI cD bS ad as h sz) (zQc D cI cD bS ad h sz r h') (h'.1 - h.1) (h'.2.1 - h.2.1) (va_A (cw cI cD bS ad h) sz)
theorem zG_good : ∀ w ∈ zG, goodWord w = true := fun _ hw => (List.mem_filter.mp hw).2
theorem zws_good {m' : Nat} (h : m' < 96) : GoodIn zG (zws m') := by
  intro w hw
  rcases List.mem_cons.mp hw with rfl | hw
  · have h1 : Cond.code (zMI m').1 (zMI m').2.1 (zMI m').2.2.1 (zMI m').2.2.2.1 ∈ zG := m_in h _ (List.mem_append_left _ List.mem_cons_self)
    exact ⟨h1, good_of_word (zG_good _ h1)⟩
  · exact ⟨hw, good_of_word (zG_good _ hw)⟩
theorem zPc_blind {as : List zV} {sz : Nat} : FrameBlind (zPc hs sc D cI cD bS ad as h sz) := by
  intro a U g mk q
  obtain ⟨q0, q1, q2, q3, q4, q5, q6, q7⟩ := q
  exact ⟨q0, q1, q2, va_K.moved (u := U) (U := U.calling g mk a) (Vm.Alike.refl U.vm) q3, q4, va_AO.moved (u := U) (U := U.calling g mk a) (Vm.Alike.refl U.vm) q5, fun w h1 h2 => va_Nw.same (by unfold cpW; rw [h2]; rfl) (show U.vm = (U.calling g mk a).vm from rfl) (q6 w h1 h2), fun hh => ⟨va_X.moved (u := U) (U := U.calling g mk a) (Vm.Alike.refl U.vm) (q7 hh).1, (q7 hh).2⟩⟩
theorem zPc_at {as : List zV} (C : zCx p s m args meth c R mi D cI cD bS sc hs A H0) (hP : va_P D vwCl (cw cI cD bS ad h) H) (hD : va_D A (cw cI cD bS ad h)) (hS : va_S A H0 H locs) : ∀ U : State, U.heap = H → s.WarmedH U.vm → zPc hs sc D cI cD bS ad as h H.size (as.map (vC bS ad)).toArray U := by
  intro U hU hW
  refine ⟨rfl, by rw [hU], by rw [hU]; exact hP, va_K.moved hW.alike C.2.2.2.2.2.1, hD.weaken (fun _ _ _ _ => trivial), va_AO.moved hW.alike C.2.2.2.2.2.2.1, fun w h1 h2 => ?_, fun hh => ?_⟩
  case refine_2 =>
    obtain ⟨hX, hbl, hbA⟩ := C.2.2.2.2.2.2.2.2.2.2.2.2 hh
    rw [hU]
    refine ⟨va_X.moved hW.alike (hX.kept (hS.2.1 bS hbl hbA)), Nat.lt_of_lt_of_le hbl hS.1, fun q => ?_⟩
    rcases q with ⟨k, e, hk⟩ | q
    · exact hbA (hD.2 k (bS, e) hk)
    · exact absurd (Nat.lt_of_lt_of_le hbl hS.1) (Nat.not_lt.mpr q)
  have h3 := C.2.2.2.2.2.2.2.1 w h1 h2
  unfold cpW at h3 ⊢
  rw [h2] at h3 ⊢
  exact va_Nw.warmM hW h3
/-- behind a call -/
theorem zcb {as : List zV} {r1 : Option zV} {h1 : zH} {st0 : List zV} {st' : List zV} {stC : List Value} (C : zCx p s m args meth c R mi D cI cD bS sc hs A H0) (K : zG0 p l e R s m args below meth c Q mi D cI cD bS sc hs A H0 n0 s0 hb ad0 r h' n) (Z : zSt mi D cI cD bS hs A H0 n0 s0 hb ad0 ls st0 h H locs cells slots lsC ad)
    (ho : okH h1 ∧ (∀ v, r1 = some v → okV false h1.1 v) ∧ h.1 ≤ h1.1 ∧ h.2.1 ≤ h1.2.1) (hst : okS hs h.1 st') (hr : zrun sc n mi (i + 1) ls (r1.toList ++ st') h1 = some (r, h')) (hnx : zpc mi (i + 1) = zpc mi i + 3)
    (hv : va_Run p l e R s m args below meth c H locs cells slots (h1.1 - h.1) (h1.2.1 - h.2.1) (F0 m (zpc mi i) lsC stC) (st'.map (vC bS ad)) (zQc D cI cD bS ad h H.size r1 h1 (as.map (vC bS ad)).toArray) (va_A (cw cI cD bS ad h) H.size)) : W p l e R s m args below meth c H locs cells slots Q (F0 m (zpc mi i) lsC stC) := by
  obtain ⟨z1, z2, z3, z4, z5, z6, z7, z8, z9, z10, z11⟩ := Z
  have hA : ∀ q, va_A (cw cI cD bS ad h) H.size q → A q := by
    intro q hq
    rcases hq with ⟨k, e, hk⟩ | hq
    · exact z5.2 k (q, e) hk
    · exact C.2.2.2.2.2.2.2.2.2.2.2.1 q (Nat.le_trans z6.1 hq)
  refine va_callg (A1 := va_A (cw cI cD bS ad h) H.size) hv z6 (fun q _ hq => hA q hq) hA (fun v st t hq => hq.2) (fun v st t H1 locs1 ht hq hS => ?_)
  obtain ⟨⟨ad', ha, hov, hP, hD⟩, -⟩ := hq
  cases hov
  rw [ht] at hP
  have hW := K (i + 1) ls (r1.toList ++ st') h1 H1 locs1 (cells + (h1.1 - h.1)) (slots + (h1.2.1 - h.2.1)) lsC ad' hr ⟨ho.1, okL_mono z2 ho.2.2.1, fun v hv => ?_, hP, hD.weaken (fun k q _ hq => hA q.1 hq), hS, lR_agree z7 z2 ha, by omega, by omega, fun k hk => by rw [ha k (by omega)]; exact z10 k hk, by omega⟩
  · rw [hnx] at hW
    have hm : (r1.toList ++ st').map (vC bS ad') = (r1.map (vC bS ad')).toList ++ st'.map (vC bS ad) := by
      rw [List.map_append]
      congr 1
      · cases r1 <;> rfl
      · exact List.map_congr_left (fun v hv => vC_agree (hst v hv) ha)
    rw [hm] at hW
    exact hW
  · rcases List.mem_append.mp hv with q | q
    · exact okV_f (ho.2.1 v (by cases r1 with | none => cases q | some w => rw [List.mem_singleton.mp q]))
    · exact okV_mono (hst v q) ho.2.2.1
theorem ztake {j : Nat} (hj : j ≤ st.length) : st.map (vC bS ad) = ((st.take j).reverse.map (vC bS ad)).reverse ++ (st.drop j).map (vC bS ad) := by
  rw [List.map_reverse, List.reverse_reverse, ← List.map_append, List.take_append_drop]
theorem zrest {st' : List zV} (h : st'.length ≤ 4) : ((st'.map (vC bS ad)).map fun v => v.category).sum ≤ 8 := Nat.le_trans zcat2 (by omega)
theorem zrun_b {ρ : zP} {m' : Nat} {as st' : List zV} (hρ : ρ = .inr (.inl (m', as, st'))) (hr : zR1 sc n mi i ls h ρ = some (r, h')) : ∃ r1 h1, zrun sc n m' 0 (zen m' as) [] h = some (r1, h1) ∧ zrun sc n mi (i + 1) ls (r1.toList ++ st') h1 = some (r, h') := by
  subst hρ
  have hr : (zrun sc n m' 0 (zen m' as) [] h).bind (fun r => zrun sc n mi (i + 1) ls (r.1.toList ++ st') r.2) = some (r, h') := hr
  cases hc : zrun sc n m' 0 (zen m' as) [] h with
  | none => rw [hc] at hr; cases hr
  | some x => rw [hc] at hr; exact ⟨x.1, x.2, rfl, hr⟩
theorem zCl_ok {rf rl m' j kind : Nat} (h : zCl rf rl m' j kind = true) : m' < 96 ∧ (zMI m').2.2.2.2.2 = kind ∧ (parseMethodDescriptor (zMI m').1.desc).map (fun d => d.parameters.length) = some j ∧ rmF.getD m' 0 + 1 ≤ rf ∧ 8 + ((zMI m').2.2.1 + 11) + rmL.getD m' 0 ≤ rl ∧ (zMI m').1.cls ≠ "java/lang/invoke/MethodHandle" ∧ (zMI m').1.cls ≠ "java/lang/invoke/VarHandle" := by
  simp only [zCl, Bool.and_eq_true, decide_eq_true_eq, beq_iff_eq] at h
  obtain ⟨⟨⟨⟨⟨a, b⟩, c⟩, d⟩, e⟩, f⟩ := h
  exact ⟨a, b, c, d, e, f⟩
theorem zs_calls (hsc : ∀ x, inR (sc.2 x)) (hsl : sc.1 < 2147483648) (hbd : h'.1 ≤ n0 + R.cells ∧ h'.2.1 ≤ s0 + R.slots) (HM : zMet l sc n) (C : zCx p s m args meth c R mi D cI cD bS sc hs A H0) (K : zG0 p l e R s m args below meth c Q mi D cI cD bS sc hs A H0 n0 s0 hb ad0 r h' n) (Z : zSt mi D cI cD bS hs A H0 n0 s0 hb ad0 ls st h H locs cells slots lsC ad) {m' j ix : Nat} (hr : zR1 sc n mi i ls h (x_calls st zCL zBAD m' j) = some (r, h')) (ho : okP hs (zds mi) ls h (x_calls st zCL zBAD m' j)) (hj : j ≤ zml m') (hcp : ((zMI mi).2.2.2.2.1, ix, 1, (m' : Int), 0) ∈ ctab ∨ ((zMI mi).2.2.2.2.1, ix, 2, (m' : Int), 5) ∈ ctab) (hcl : zCl (rmF.getD mi 0) (rmL.getD mi 0) m' j 0 = true) (hd : decode (zMI mi).2.1 (zpc mi i) = .ok (.invokestatic ix, 3)) (hnx : zpc mi (i + 1) = zpc mi i + 3) : W p l e R s m args below meth c H locs cells slots Q (F0 m (zpc mi i) lsC (st.map (vC bS ad))) := by
  unfold x_calls at hr ho
  split at hr
  next q =>
    rw [if_pos q] at ho
    obtain ⟨r1, h1, hr1, hr2⟩ := zrun_b rfl hr
    obtain ⟨o1, o2, o3⟩ := ho
    obtain ⟨c1, c2, c3, c4, c5, c6⟩ := zCl_ok hcl
    have hlen : (st.take j).reverse.length = j := by rw [List.length_reverse, List.length_take]; omega
    have hM := HM hs m' c1 _ h r1 h1 hr1 Z.1 o1 o2 (by rw [hlen]; exact hj) D cI cD bS ad H.size
    have hok := run_ok hsc hsl n hs m' 0 _ [] h r1 h1 hr1 Z.1 (zen_ok o1 o2) (fun v hv => by cases hv)
    have hfin := run_ok hsc hsl n hs mi (i + 1) ls _ h1 r h' hr2 hok.1 (okL_mono Z.2.1 hok.2.2.1) (fun v hv => by
      rcases List.mem_append.mp hv with q | q
      · exact okV_f (hok.2.1 v (by cases r1 with | none => cases q | some w => rw [List.mem_singleton.mp q]))
      · exact okV_mono (o3 v q) hok.2.2.1)
    have hz8 := Z.2.2.2.2.2.2.2.1
    have hz9 := Z.2.2.2.2.2.2.2.2.1
    have hR := C.2.2.2.2.2.2.2.2.2
    have hw := m_in c1
    have hini := C.2.2.2.2.1 _ (hw _ (List.mem_append_left _ (List.mem_cons_of_mem _ List.mem_cons_self)))
    have hsta : (Cond.static (zMI m').1).before args s = true := C.2.2.2.2.1 _ (hw _ (List.mem_append_right _ (by rw [c2]; exact List.mem_cons_self)))
    have hp : PreS s H (zPc hs sc D cI cD bS ad (st.take j).reverse h H.size) ((st.take j).reverse.map (vC bS ad)) := ⟨zPc_blind, zPc_at C Z.2.2.2.1 Z.2.2.2.2.1 Z.2.2.2.2.2.1⟩
    refine zcb (as := (st.take j).reverse) C K Z hok o3 hr2 hnx ?_
    rcases hcp with hcp | hcp
    · exact va_runS ⟨C.1, C.2.1, C.2.2.1, C.2.2.2.1, C.2.2.2.2.1⟩ hM ⟨callB_of j C.2.2.2.2.1 (zws_good c1) rfl rfl rfl hini (C.2.2.2.2.1 _ (cp_in hcp (by intro q; dsimp only at q; omega))) ⟨c6.1, c6.2, c3⟩ ⟨Nat.le_trans c4 hR.1, Nat.le_trans c5 hR.2.1⟩, hsta⟩ hp rfl (by rw [List.length_map]; exact hlen) Z.2.2.2.2.2.2.1.2.1 (ztake q.1.1) (lv_room (zrest (by rw [List.length_drop]; omega))) hd ⟨by omega, by omega⟩
    · have hn := C.2.2.2.2.2.2.2.1 _ hcp rfl
      exact va_runSN (host := zN 5) ⟨C.1, C.2.1, C.2.2.1, C.2.2.2.1, C.2.2.2.2.1⟩ hM ⟨va_cnB j C.2.2.2.2.1 (zws_good c1) rfl rfl rfl hn hini ⟨c6.1, c6.2, c3⟩ ⟨Nat.le_trans c4 hR.1, Nat.le_trans c5 hR.2.1⟩, hsta, trivial⟩ hp rfl (by rw [List.length_map]; exact hlen) Z.2.2.2.2.2.2.1.2.1 (ztake q.1.1) (lv_room (zrest (by rw [List.length_drop]; omega))) hd ⟨by omega, by omega⟩
  next => cases hr
theorem zs_callv (hsc : ∀ x, inR (sc.2 x)) (hsl : sc.1 < 2147483648) (hbd : h'.1 ≤ n0 + R.cells ∧ h'.2.1 ≤ s0 + R.slots) (HM : zMet l sc n) (C : zCx p s m args meth c R mi D cI cD bS sc hs A H0) (K : zG0 p l e R s m args below meth c Q mi D cI cD bS sc hs A H0 n0 s0 hb ad0 r h' n) (Z : zSt mi D cI cD bS hs A H0 n0 s0 hb ad0 ls st h H locs cells slots lsC ad) {z : Int} {m' j ix : Nat} (hr : zR1 sc n mi i ls h (x_callv st h zCL zBAD z m' j) = some (r, h')) (ho : okP hs (zds mi) ls h (x_callv st h zCL zBAD z m' j)) (hj : j ≤ zml m') (hj0 : 0 < j) (hcn : z.toNat < 6 ∧ (zT z.toNat).1 = (zMI m').1.cls) (hcp : ((zMI mi).2.2.2.2.1, ix, 1, (m' : Int), 0) ∈ ctab) (hcl : zCl (rmF.getD mi 0) (rmL.getD mi 0) m' (j - 1) 1 = true) (hd : decode (zMI mi).2.1 (zpc mi i) = .ok (.invokevirtual ix, 3)) (hnx : zpc mi (i + 1) = zpc mi i + 3) : W p l e R s m args below meth c H locs cells slots Q (F0 m (zpc mi i) lsC (st.map (vC bS ad))) := by
  unfold x_callv at hr ho
  split at hr
  next q =>
    rw [if_pos q] at ho
    obtain ⟨r1, h1, hr1, hr2⟩ := zrun_b rfl hr
    obtain ⟨o1, o2, o3⟩ := ho
    obtain ⟨c1, c2, c3, c4, c5, c6⟩ := zCl_ok hcl
    have hlen : (st.take j).reverse.length = j := by rw [List.length_reverse, List.length_take]; omega
    have hM := HM hs m' c1 _ h r1 h1 hr1 Z.1 o1 o2 (by rw [hlen]; exact hj) D cI cD bS ad H.size
    have hok := run_ok hsc hsl n hs m' 0 _ [] h r1 h1 hr1 Z.1 (zen_ok o1 o2) (fun v hv => by cases hv)
    have hfin := run_ok hsc hsl n hs mi (i + 1) ls _ h1 r h' hr2 hok.1 (okL_mono Z.2.1 hok.2.2.1) (fun v hv => by
      rcases List.mem_append.mp hv with q | q
      · exact okV_f (hok.2.1 v (by cases r1 with | none => cases q | some w => rw [List.mem_singleton.mp q]))
      · exact okV_mono (o3 v q) hok.2.2.1)
    have hz8 := Z.2.2.2.2.2.2.2.1
    have hz9 := Z.2.2.2.2.2.2.2.2.1
    have hR := C.2.2.2.2.2.2.2.2.2
    have hw := m_in c1
    have hini := C.2.2.2.2.1 _ (hw _ (List.mem_append_left _ (List.mem_cons_of_mem _ List.mem_cons_self)))
    have hins : (Cond.instanceMethod (zMI m').1).before args s = true := C.2.2.2.2.1 _ (hw _ (List.mem_append_right _ (by rw [c2]; exact List.mem_cons_self)))
    have hl := C.2.2.2.2.1 _ (cp_in hcp (by intro q; dsimp only at q; omega))
    have hrc := q.2
    have hstk0 := ztake (bS := bS) (ad := ad) q.1.1.1
    have hpa := zPc_at (as := (st.take j).reverse) C Z.2.2.2.1 Z.2.2.2.2.1 Z.2.2.2.2.2.1
    generalize hasq : (st.take j).reverse = as at *
    unfold zrecv at hrc
    split at hrc
    next k as1 =>
      split at hrc
      next c9 fs hg =>
        have hci : c9 = z.toNat := by simpa using hrc
        have hkl : k < h.1 := o1 _ List.mem_cons_self
        have hlen2 : as1.length = j - 1 := by rw [List.length_cons] at hlen; omega
        have hstk : st.map (vC bS ad) = (as1.map (vC bS ad)).reverse ++ .ref (ad k) :: (st.drop j).map (vC bS ad) := by
          rw [hstk0, List.map_cons, List.reverse_cons, List.append_assoc]
          rfl
        refine zcb (as := .inr (.inl (some k)) :: as1) C K Z hok o3 hr2 hnx ?_
        have hsel : (Cond.selects (zMI m').1.cls (zMI m').1 (zMI m').1).before args s = true := C.2.2.2.2.1 _ (hw _ (List.mem_append_right _ (by rw [c2]; exact List.mem_cons_of_mem _ List.mem_cons_self)))
        exact va_runV (C := (zMI m').1.cls) ⟨C.1, C.2.1, C.2.2.1, C.2.2.2.1, C.2.2.2.2.1⟩ hM ⟨callB_of (j - 1) C.2.2.2.2.1 (zws_good c1) rfl rfl rfl hini hl ⟨c6.1, c6.2, c3⟩ ⟨Nat.le_trans c4 hR.1, Nat.le_trans c5 hR.2.1⟩, hins, hsel⟩ ⟨zPc_blind, by rw [← hcn.2]; exact va_recv C.2.2.2.2.2.1 Z.2.2.2.1 (ci := z.toNat) (q0 := k) (zT_get hcn.1) (by rw [cw_get hkl, hg, hci]; rfl), hpa⟩ rfl (by rw [List.length_map]; exact hlen2) Z.2.2.2.2.2.2.1.2.1 hstk (lv_room (zrest (by rw [List.length_drop]; omega))) hd ⟨by omega, by omega⟩
      next => cases hrc
    next => cases hrc
  next => cases hr
theorem zs_calli (hsc : ∀ x, inR (sc.2 x)) (hsl : sc.1 < 2147483648) (hbd : h'.1 ≤ n0 + R.cells ∧ h'.2.1 ≤ s0 + R.slots) (HM : zMet l sc n) (C : zCx p s m args meth c R mi D cI cD bS sc hs A H0) (K : zG0 p l e R s m args below meth c Q mi D cI cD bS sc hs A H0 n0 s0 hb ad0 r h' n) (Z : zSt mi D cI cD bS hs A H0 n0 s0 hb ad0 ls st h H locs cells slots lsC ad) {z : Int} {m' j ix : Nat} (hr : zR1 sc n mi i ls h (x_callv st h zCL zBAD z m' j) = some (r, h')) (ho : okP hs (zds mi) ls h (x_callv st h zCL zBAD z m' j)) (hj : j ≤ zml m') (hj0 : 0 < j) (hin : (zMI m').1.name = "<init>") (hrn : (zMI m').2.2.2.1 = none) (hcp : ((zMI mi).2.2.2.2.1, ix, 1, (m' : Int), 0) ∈ ctab) (hcl : zCl (rmF.getD mi 0) (rmL.getD mi 0) m' (j - 1) 2 = true) (hd : decode (zMI mi).2.1 (zpc mi i) = .ok (.invokespecial ix, 3)) (hnx : zpc mi (i + 1) = zpc mi i + 3) : W p l e R s m args below meth c H locs cells slots Q (F0 m (zpc mi i) lsC (st.map (vC bS ad))) := by
  unfold x_callv at hr ho
  split at hr
  next q =>
    rw [if_pos q] at ho
    obtain ⟨r1, h1, hr1, hr2⟩ := zrun_b rfl hr
    obtain ⟨o1, o2, o3⟩ := ho
    obtain ⟨c1, c2, c3, c4, c5, c6⟩ := zCl_ok hcl
    have hlen : (st.take j).reverse.length = j := by rw [List.length_reverse, List.length_take]; omega
    have hM := HM hs m' c1 _ h r1 h1 hr1 Z.1 o1 o2 (by rw [hlen]; exact hj) D cI cD bS ad H.size
    have hok := run_ok hsc hsl n hs m' 0 _ [] h r1 h1 hr1 Z.1 (zen_ok o1 o2) (fun v hv => by cases hv)
    have hfin := run_ok hsc hsl n hs mi (i + 1) ls _ h1 r h' hr2 hok.1 (okL_mono Z.2.1 hok.2.2.1) (fun v hv => by
      rcases List.mem_append.mp hv with q | q
      · exact okV_f (hok.2.1 v (by cases r1 with | none => cases q | some w => rw [List.mem_singleton.mp q]))
      · exact okV_mono (o3 v q) hok.2.2.1)
    have hz8 := Z.2.2.2.2.2.2.2.1
    have hz9 := Z.2.2.2.2.2.2.2.2.1
    have hR := C.2.2.2.2.2.2.2.2.2
    have hw := m_in c1
    have hini := C.2.2.2.2.1 _ (hw _ (List.mem_append_left _ (List.mem_cons_of_mem _ List.mem_cons_self)))
    have hins : (Cond.instanceMethod (zMI m').1).before args s = true := C.2.2.2.2.1 _ (hw _ (List.mem_append_right _ (by rw [c2]; exact List.mem_cons_self)))
    have hl := C.2.2.2.2.1 _ (cp_in hcp (by intro q; dsimp only at q; omega))
    have hrc := q.2
    have hstk0 := ztake (bS := bS) (ad := ad) q.1.1.1
    have hpa := zPc_at (as := (st.take j).reverse) C Z.2.2.2.1 Z.2.2.2.2.1 Z.2.2.2.2.2.1
    generalize hasq : (st.take j).reverse = as at *
    unfold zrecv at hrc
    split at hrc
    next k as1 =>
      split at hrc
      next c9 fs hg =>
        have hci : c9 = z.toNat := by simpa using hrc
        have hkl : k < h.1 := o1 _ List.mem_cons_self
        have hlen2 : as1.length = j - 1 := by rw [List.length_cons] at hlen; omega
        have hstk : st.map (vC bS ad) = (as1.map (vC bS ad)).reverse ++ .ref (ad k) :: (st.drop j).map (vC bS ad) := by
          rw [hstk0, List.map_cons, List.reverse_cons, List.append_assoc]
          rfl
        refine zcb (as := .inr (.inl (some k)) :: as1) C K Z hok o3 hr2 hnx ?_
        exact va_runI ⟨C.1, C.2.1, C.2.2.1, C.2.2.2.1, C.2.2.2.2.1⟩ hM ⟨callB_of (j - 1) C.2.2.2.2.1 (zws_good c1) (by rw [← hrn]; rfl) rfl rfl hini hl ⟨c6.1, c6.2, c3⟩ ⟨Nat.le_trans c4 hR.1, Nat.le_trans c5 hR.2.1⟩, hin, hins⟩ ⟨zPc_blind, hpa⟩ rfl (by rw [List.length_map]; exact hlen2) Z.2.2.2.2.2.2.1.2.1 hstk (lv_room (zrest (by rw [List.length_drop]; omega))) hd ⟨by omega, by omega⟩
      next => cases hrc
    next => cases hrc
  next => cases hr
theorem zswIn {α : Type} {x : Int} {f : Nat → α} {d : Nat} {t : Nat} {v : Int} : ∀ {tb : List (Int × Nat)} {k : Nat}, tb[k]? = some (v, t) → x = v → (∀ k2 v2 t2, k2 < k → tb[k2]? = some (v2, t2) → v2 ≠ v) → swK tb x f d = f t
  | [], k, h, _, _ => by simp at h
  | (v0, t0) :: tb, 0, h, hx, _ => by
    simp only [List.getElem?_cons_zero, Option.some.injEq, Prod.mk.injEq] at h
    unfold swK
    rw [if_pos (by rw [hx, h.1]), h.2]
  | (v0, t0) :: tb, k + 1, h, hx, hn => by
    unfold swK
    rw [if_neg (by rw [hx]; exact fun q => hn 0 v0 t0 (by omega) rfl q.symm)]
    exact zswIn (k := k) (by simpa using h) hx (fun k2 v2 t2 h2 h3 => hn (k2 + 1) v2 t2 (by omega) (by simpa using h3))
theorem zswOut {α : Type} {x : Int} {f : Nat → α} {d : Nat} : ∀ {tb : List (Int × Nat)}, (∀ q ∈ tb, x ≠ q.1) → swK tb x f d = f d
  | [], _ => rfl
  | (v0, t0) :: tb, h => by
    unfold swK
    rw [if_neg (h (v0, t0) List.mem_cons_self)]
    exact zswOut (fun q hq => h q (List.mem_cons_of_mem _ hq))
theorem zs_tsw (C : zCx p s m args meth c R mi D cI cD bS sc hs A H0) (K : zG0 p l e R s m args below meth c Q mi D cI cD bS sc hs A H0 n0 s0 hb ad0 r h' n) (Z : zSt mi D cI cD bS hs A H0 n0 s0 hb ad0 ls st h H locs cells slots lsC ad) {tb : List (Int × Nat)} {d len : Nat} {dd lo hi : Int} {offs : Array Int} (hr : zR1 sc n mi i ls h (x_sw ls st h zNX zBAD tb d) = some (r, h')) (ho : okP hs (zds mi) ls h (x_sw ls st h zNX zBAD tb d)) (hd : decode (zMI mi).2.1 (zpc mi i) = .ok (.tableswitch dd lo hi offs, len)) (h1 : (zpc mi i : Int) + dd = (zpc mi d : Int)) (h2 : hi - lo + 1 = (offs.size : Int)) (h3 : tb.length = offs.size) (h4 : ∀ k, k < offs.size → ∃ t o, tb[k]? = some (lo + (k : Int), t) ∧ offs[k]? = some o ∧ (zpc mi i : Int) + o = (zpc mi t : Int)) : W p l e R s m args below meth c H locs cells slots Q (F0 m (zpc mi i) lsC (st.map (vC bS ad))) := by
  unfold x_sw at hr ho
  split at hr
  next x st' =>
    try dsimp only at ho
    try dsimp only at ho
    have hx : inR x := (okS_tl Z.2.2.1).1
    by_cases hin : lo ≤ x ∧ x ≤ hi
    · obtain ⟨t, o, e1, e2, e3⟩ := h4 (x - lo).toNat (by omega)
      have hsw : ∀ f : Nat → zP, swK tb x f d = f t := fun f => zswIn e1 (by omega) (fun k2 v2 t2 hk2 hv2 hne => by
        obtain ⟨t', o', e1', -, -⟩ := h4 k2 (by omega)
        rw [e1'] at hv2
        cases hv2
        omega)
      rw [hsw] at hr ho
      exact lv_tableIn C.1 C.2.1 hd (by rw [zi_ti hx]; omega) (by rw [zi_ti hx]; omega) (by rw [zi_ti hx]; exact e2) e3 (zf K Z hr ho rfl rfl)
    · have hsw : ∀ f : Nat → zP, swK tb x f d = f d := fun f => zswOut (fun q hq => by
        obtain ⟨k, hk⟩ := List.getElem?_of_mem hq
        have hkl := (List.getElem?_eq_some_iff.mp hk).1
        obtain ⟨t', o', e1', -, -⟩ := h4 k (by omega)
        rw [e1'] at hk
        cases hk
        intro hxx
        dsimp only at hxx
        omega)
      rw [hsw] at hr ho
      exact lv_tableOut C.1 C.2.1 hd (by rw [zi_ti hx]; omega) h1 (zf K Z hr ho rfl rfl)
  next => cases hr
theorem zlook {x dd : Int} {d : Nat} : ∀ {tb : List (Int × Nat)} {ps : List (Int × Int)}, (zpc mi i : Int) + dd = (zpc mi d : Int) → tb.length = ps.length → (∀ q ∈ tb.zip ps, q.1.1 = q.2.1 ∧ (zpc mi i : Int) + q.2.2 = (zpc mi q.1.2 : Int)) → ∃ t, (∀ f : Nat → zP, swK tb x f d = f t) ∧ (zpc mi i : Int) + Op.lookupswitch.offset ps dd x = (zpc mi t : Int)
  | [], [], h1, _, _ => ⟨d, fun _ => rfl, h1⟩
  | [], _ :: _, _, h, _ => by simp at h
  | _ :: _, [], _, h, _ => by simp at h
  | (v, t) :: tb, (a, off) :: ps, h1, h2, h3 => by
    obtain ⟨e1, e2⟩ := h3 ((v, t), (a, off)) (by simp)
    dsimp only at e1 e2
    by_cases hx : x = v
    · refine ⟨t, fun f => by unfold swK; rw [if_pos hx], ?_⟩
      rw [Op.lookupswitch.offset_cons, if_pos (by rw [← e1, hx])]
      exact e2
    · obtain ⟨t', e3, e4⟩ := zlook (tb := tb) (ps := ps) h1 (by simpa using h2) (fun q hq => h3 q (by simp [hq]))
      refine ⟨t', fun f => by unfold swK; rw [if_neg hx]; exact e3 f, ?_⟩
      rw [Op.lookupswitch.offset_cons, if_neg (by rw [← e1]; exact fun q => hx q.symm)]
      exact e4
theorem zs_lsw (C : zCx p s m args meth c R mi D cI cD bS sc hs A H0) (K : zG0 p l e R s m args below meth c Q mi D cI cD bS sc hs A H0 n0 s0 hb ad0 r h' n) (Z : zSt mi D cI cD bS hs A H0 n0 s0 hb ad0 ls st h H locs cells slots lsC ad) {tb : List (Int × Nat)} {d len : Nat} {dd : Int} {ps : Array (Int × Int)} (hr : zR1 sc n mi i ls h (x_sw ls st h zNX zBAD tb d) = some (r, h')) (ho : okP hs (zds mi) ls h (x_sw ls st h zNX zBAD tb d)) (hd : decode (zMI mi).2.1 (zpc mi i) = .ok (.lookupswitch dd ps, len)) (h1 : (zpc mi i : Int) + dd = (zpc mi d : Int)) (hp : (ps.toList.zip (ps.toList.drop 1)).all (fun (a, next) => a.1 < next.1) = true) (h3 : tb.length = ps.toList.length) (h4 : ∀ q ∈ tb.zip ps.toList, q.1.1 = q.2.1 ∧ (zpc mi i : Int) + q.2.2 = (zpc mi q.1.2 : Int)) : W p l e R s m args below meth c H locs cells slots Q (F0 m (zpc mi i) lsC (st.map (vC bS ad))) := by
  unfold x_sw at hr ho
  split at hr
  next x st' =>
    try dsimp only at ho
    try dsimp only at ho
    have hx : inR x := (okS_tl Z.2.2.1).1
    obtain ⟨t, e1, e2⟩ := zlook (x := x) h1 h3 h4
    rw [e1] at hr ho
    exact lv_lookup C.1 C.2.1 hd hp rfl (by rw [zi_ti hx]; exact e2) (zf K Z hr ho rfl rfl)
  next => cases hr
end SIM2
end
section
/-! THE STEP, AND ALL STEPS -/
def zEnd (mi i : Nat) (r : Option zV) : Prop := match r with
  | none => decode (zMI mi).2.1 (zpc mi i) = .ok (.return_, 1) ∧ (zMI mi).2.2.2.1 = none
  | some (.inl z) => decode (zMI mi).2.1 (zpc mi i) = .ok (.ireturn, 1) ∧ ((zMI mi).2.2.2.1 = some .int ∨ ((zMI mi).2.2.2.1 = some .boolean ∧ (z = 0 ∨ z = 1)))
  | some (.inr (.inl _)) => decode (zMI mi).2.1 (zpc mi i) = .ok (.areturn, 1) ∧ ((∃ n, (zMI mi).2.2.2.1 = some (.object n)) ∨ ∃ t, (zMI mi).2.2.2.1 = some (.array t))
  | some (.inr (.inr (.inl _))) => decode (zMI mi).2.1 (zpc mi i) = .ok (.freturn, 1) ∧ (zMI mi).2.2.2.1 = some .float
  | _ => False
def zKe (p : Program) (l : Launch) (e : Env) (R : Room) (s : State) (m : MethodId) (args : Array Value) (below : List Frame) (meth : Method) (c : Code) (Q : State → Prop) (mi : Nat) (D : va_G) (cI cD : ClassId) (bS : Nat) (A : Nat → Prop) (H0 : Heap) (n0 s0 hb : Nat) (ad0 : Nat → Nat) (r : Option zV) (h' : zH) : Prop :=
  ∀ (i' : Nat) (ad' : Nat → Nat) (H' : Heap) (locs' : List Loc) (lsC' : Array Slot) (cells' slots' : Nat), zEnd mi i' r → va_P D vwCl (cw cI cD bS ad' h') H' → va_D A (cw cI cD bS ad' h') → va_S A H0 H' locs' → n0 + cells' = h'.1 → s0 + slots' = h'.2.1 → (∀ k, k < hb → ad' k = ad0 k) → W p l e R s m args below meth c H' locs' cells' slots' Q (F0 m (zpc mi i') lsC' (r.toList.map (vC bS ad')))
/-- the calls' arguments fit the callees' locals; classes' names -/
def zarg (op : Op) : Bool := (op.1 != 23 && (op.1 != 24 && op.1 != 25)) || decide (op.2.2.2.1 ≤ zml op.2.2.1)
set_option maxRecDepth 100000 in
theorem zarg_all : pgm.all (fun k => k.all zarg) = true := by decide +kernel
theorem zarg_ok (m i : Nat) (h : (zfe m i).1 = 23 ∨ (zfe m i).1 = 24 ∨ (zfe m i).1 = 25) : (zfe m i).2.2.2.1 ≤ zml (zfe m i).2.2.1 := by
  have key : zarg (zfe m i) = true := by
    unfold zfe
    rw [List.getD_eq_getElem?_getD (l := pgm.getD m [])]
    cases hl : (pgm.getD m [])[i]? with
    | none => rfl
    | some op =>
      rw [List.getD_eq_getElem?_getD (l := pgm)] at hl
      cases hm : pgm[m]? with
      | none => rw [hm] at hl; cases hl
      | some k =>
        rw [hm] at hl
        exact List.all_eq_true.mp (List.all_eq_true.mp zarg_all k (List.mem_of_getElem? hm)) op (List.mem_of_getElem? hl)
  simp only [zarg, Bool.or_eq_true, Bool.and_eq_true, bne_iff_ne, decide_eq_true_eq] at key
  omega
theorem zN_ok : ∀ ci, ci < 6 → zN ci = (zT ci).1 := by decide +kernel
section STEP
variable {p : Program} {l : Launch} {e : Env} {R : Room} {s : State} {m : MethodId} {args : Array Value} {below : List Frame} {meth : Method} {c : Code} {Q : State → Prop}
variable {mi : Nat} {D : va_G} {cI cD : ClassId} {bS : Nat} {sc : Nat × (Int → Int)} {hs : Bool} {A : Nat → Prop} {H0 : Heap} {n0 s0 hb : Nat} {ad0 : Nat → Nat} {r : Option zV} {h' : zH} {n : Nat}
theorem zend {i : Nat} {ls : zL} {st : List zV} {h : zH} {H : Heap} {locs : List Loc} {cells slots : Nat} {lsC : Array Slot} {ad : Nat → Nat} {r1 : Option zV} (Ke : zKe p l e R s m args below meth c Q mi D cI cD bS A H0 n0 s0 hb ad0 r h') (Z : zSt mi D cI cD bS hs A H0 n0 s0 hb ad0 ls st h H locs cells slots lsC ad) (hr : zR1 sc n mi i ls h (zRT r1) = some (r, h')) (hst : st = r1.toList) (he : zEnd mi i r1) : W p l e R s m args below meth c H locs cells slots Q (F0 m (zpc mi i) lsC (st.map (vC bS ad))) := by
  have hr : some (r1, h) = some (r, h') := hr
  cases hr
  subst hst
  exact Ke i ad H locs lsC cells slots he Z.2.2.2.1 Z.2.2.2.2.1 Z.2.2.2.2.2.1 Z.2.2.2.2.2.2.2.1 Z.2.2.2.2.2.2.2.2.1 Z.2.2.2.2.2.2.2.2.2.1
set_option maxHeartbeats 8000000 in
theorem zstep (hsc : ∀ x, inR (sc.2 x)) (hsl : sc.1 < 2147483648) (hbd : h'.1 ≤ n0 + R.cells ∧ h'.2.1 ≤ s0 + R.slots) (HM : zMet l sc n) (C : zCx p s m args meth c R mi D cI cD bS sc hs A H0) (K : zG0 p l e R s m args below meth c Q mi D cI cD bS sc hs A H0 n0 s0 hb ad0 r h' n) (Ke : zKe p l e R s m args below meth c Q mi D cI cD bS A H0 n0 s0 hb ad0 r h') : zG0 p l e R s m args below meth c Q mi D cI cD bS sc hs A H0 n0 s0 hb ad0 r h' (n + 1) := by
  intro i ls st h H locs cells slots lsC ad hr Z
  have hr0 := hr
  rw [zrun_s] at hr
  have hr : zR1 sc n mi i ls h (zexR i ls st h sc (zfe mi i)) = some (r, h') := hr
  have ho := zexR_ok (i := i) (sc := sc) (opk mi i) hsc hsl Z.1 Z.2.1 Z.2.2.1 (fun k c hc hm => by
    obtain ⟨v, hv, ev⟩ := hm
    rw [← hc]
    have := Z.2.2.1 v hv
    rw [ev] at this
    exact Z.1 k this)
  have h99 : (zfe mi i).1 ≠ 99 := by
    intro q
    have : zexR i ls st h sc (zfe mi i) = zBAD := by unfold zexR zex; rw [q]; rfl
    rw [this] at hr
    cases hr
  obtain ⟨hck, hm, -⟩ := ck_ok h99
  have harg := zarg_ok mi i
  unfold zckI zck at hck
  generalize zfe mi i = op at hr ho hck harg
  split at hck
  next n hd =>
    simp only [Bool.and_eq_true, Bool.or_eq_true, beq_iff_eq, decide_eq_true_eq, zNx, zTg] at hck
    obtain ⟨⟨⟨e1, e2⟩, e3⟩, e4⟩ := hck
    have ez : zexR i ls st h sc op = .inl (i + 1, ls, .inl op.2.1 :: st, h) := by unfold zexR zex; rw [e1]; rfl
    rw [ez] at hr ho
    exact zs_const C K Z hr ho (d := 1) (fun k => lv_iconst C.1 C.2.1 hd (by rw [e2]) k) e4
  next n hd =>
    simp only [Bool.and_eq_true, Bool.or_eq_true, beq_iff_eq, decide_eq_true_eq, zNx, zTg] at hck
    obtain ⟨⟨⟨e1, e2⟩, e3⟩, e4⟩ := hck
    have ez : zexR i ls st h sc op = .inl (i + 1, ls, .inl op.2.1 :: st, h) := by unfold zexR zex; rw [e1]; rfl
    rw [ez] at hr ho
    exact zs_const C K Z hr ho (d := 2) (fun k => lv_bipush C.1 C.2.1 hd (by rw [e2]; exact zi_lit e3) k) e4
  next n hd =>
    simp only [Bool.and_eq_true, Bool.or_eq_true, beq_iff_eq, decide_eq_true_eq, zNx, zTg] at hck
    obtain ⟨⟨⟨e1, e2⟩, e3⟩, e4⟩ := hck
    have ez : zexR i ls st h sc op = .inl (i + 1, ls, .inl op.2.1 :: st, h) := by unfold zexR zex; rw [e1]; rfl
    rw [ez] at hr ho
    exact zs_const C K Z hr ho (d := 3) (fun k => lv_sipush C.1 C.2.1 hd (by rw [e2]; exact zi_lit16 e3) k) e4
  next ix hd =>
    simp only [Bool.and_eq_true, Bool.or_eq_true, beq_iff_eq, decide_eq_true_eq, zNx, zTg] at hck
    obtain ⟨⟨⟨e1, e2⟩, e3⟩, e4⟩ := hck
    have ez : zexR i ls st h sc op = .inl (i + 1, ls, .inl op.2.1 :: st, h) := by unfold zexR zex; rw [e1]; rfl
    rw [ez] at hr ho
    have hcp := cIn_ok e2
    have hl := C.2.2.2.2.1 _ (cp_in hcp (by intro q; dsimp only at q; omega))
    exact zs_const C K Z hr ho (d := 2) (fun k => lv_ldc C.1 C.2.1 C.2.2.2.1 hl hd k) e4
  next k hd =>
    simp only [Bool.and_eq_true, Bool.or_eq_true, beq_iff_eq, decide_eq_true_eq, zNx, zTg] at hck
    obtain ⟨⟨e1, e2⟩, e3⟩ := hck
    have ez : zexR i ls st h sc op = x_iload i ls st h zNX zBAD op.2.2.1 := by unfold zexR zex; rw [e1]; rfl
    rw [ez] at hr ho
    exact zs_iload_n C K Z e2 hr ho hd e3
  next k hd =>
    simp only [Bool.and_eq_true, Bool.or_eq_true, beq_iff_eq, decide_eq_true_eq, zNx, zTg] at hck
    obtain ⟨⟨e1, e2⟩, e3⟩ := hck
    have ez : zexR i ls st h sc op = x_iload i ls st h zNX zBAD op.2.2.1 := by unfold zexR zex; rw [e1]; rfl
    rw [ez] at hr ho
    rw [e2] at hr ho
    exact zs_iload C K Z hr ho hd e3
  next k hd =>
    simp only [Bool.and_eq_true, Bool.or_eq_true, beq_iff_eq, decide_eq_true_eq, zNx, zTg] at hck
    obtain ⟨⟨e1, e2⟩, e3⟩ := hck
    have ez : zexR i ls st h sc op = x_aload i ls st h zNX zBAD op.2.2.1 := by unfold zexR zex; rw [e1]; rfl
    rw [ez] at hr ho
    exact zs_aload_n C K Z e2 hr ho hd e3
  next k hd =>
    simp only [Bool.and_eq_true, Bool.or_eq_true, beq_iff_eq, decide_eq_true_eq, zNx, zTg] at hck
    obtain ⟨⟨e1, e2⟩, e3⟩ := hck
    have ez : zexR i ls st h sc op = x_aload i ls st h zNX zBAD op.2.2.1 := by unfold zexR zex; rw [e1]; rfl
    rw [ez] at hr ho
    rw [e2] at hr ho
    exact zs_aload C K Z hr ho hd e3
  next k hd =>
    simp only [Bool.and_eq_true, Bool.or_eq_true, beq_iff_eq, decide_eq_true_eq, zNx, zTg] at hck
    obtain ⟨⟨⟨⟨e1, e2⟩, e3⟩, e4⟩, e5⟩ := hck
    have ez : zexR i ls st h sc op = x_istore i ls st h zNX zBAD op.2.2.1 := by unfold zexR zex; rw [e1]; rfl
    rw [ez] at hr ho
    rw [← e2] at e3 e4
    exact zs_istore_n C K Z e2 hr ho e3 e4 hd e5
  next k hd =>
    simp only [Bool.and_eq_true, Bool.or_eq_true, beq_iff_eq, decide_eq_true_eq, zNx, zTg] at hck
    obtain ⟨⟨⟨⟨e1, e2⟩, e3⟩, e4⟩, e5⟩ := hck
    have ez : zexR i ls st h sc op = x_istore i ls st h zNX zBAD op.2.2.1 := by unfold zexR zex; rw [e1]; rfl
    rw [ez] at hr ho
    rw [e2] at hr ho
    exact zs_istore C K Z hr ho e3 e4 hd e5
  next k hd =>
    simp only [Bool.and_eq_true, Bool.or_eq_true, beq_iff_eq, decide_eq_true_eq, zNx, zTg] at hck
    obtain ⟨⟨⟨⟨e1, e2⟩, e3⟩, e4⟩, e5⟩ := hck
    have ez : zexR i ls st h sc op = x_astore i ls st h zNX zBAD op.2.2.1 := by unfold zexR zex; rw [e1]; rfl
    rw [ez] at hr ho
    rw [← e2] at e3 e4
    exact zs_astore_n C K Z e2 hr ho e3 e4 hd e5
  next k hd =>
    simp only [Bool.and_eq_true, Bool.or_eq_true, beq_iff_eq, decide_eq_true_eq, zNx, zTg] at hck
    obtain ⟨⟨⟨⟨e1, e2⟩, e3⟩, e4⟩, e5⟩ := hck
    have ez : zexR i ls st h sc op = x_astore i ls st h zNX zBAD op.2.2.1 := by unfold zexR zex; rw [e1]; rfl
    rw [ez] at hr ho
    rw [e2] at hr ho
    exact zs_astore C K Z hr ho e3 e4 hd e5
  next k z hd =>
    simp only [Bool.and_eq_true, Bool.or_eq_true, beq_iff_eq, decide_eq_true_eq, zNx, zTg] at hck
    obtain ⟨⟨⟨⟨⟨⟨e1, e2⟩, e3⟩, e4⟩, e5⟩, e6⟩, e7⟩ := hck
    have ez : zexR i ls st h sc op = x_iinc i ls st h zNX zBAD op.2.2.1 op.2.1 := by unfold zexR zex; rw [e1]; rfl
    rw [ez] at hr ho
    rw [e2, e3] at hr ho
    exact zs_iinc C K Z hr ho e4 e6 hd e7
  next  hd =>
    simp only [Bool.and_eq_true, Bool.or_eq_true, beq_iff_eq, decide_eq_true_eq, zNx, zTg] at hck
    obtain ⟨e1, e2⟩ := hck
    have ez : zexR i ls st h sc op = x_bin i ls st h zNX zBAD (fun x y => zwr (x + y)) := by unfold zexR zex; rw [e1]; rfl
    rw [ez] at hr ho
    exact zs_iadd C K Z hr ho hd e2
  next  hd =>
    simp only [Bool.and_eq_true, Bool.or_eq_true, beq_iff_eq, decide_eq_true_eq, zNx, zTg] at hck
    obtain ⟨e1, e2⟩ := hck
    have ez : zexR i ls st h sc op = x_bin i ls st h zNX zBAD (fun x y => zwr (x - y)) := by unfold zexR zex; rw [e1]; rfl
    rw [ez] at hr ho
    exact zs_isub C K Z hr ho hd e2
  next  hd =>
    simp only [Bool.and_eq_true, Bool.or_eq_true, beq_iff_eq, decide_eq_true_eq, zNx, zTg] at hck
    obtain ⟨e1, e2⟩ := hck
    have ez : zexR i ls st h sc op = x_bin i ls st h zNX zBAD (fun x y => zwr (x * y)) := by unfold zexR zex; rw [e1]; rfl
    rw [ez] at hr ho
    exact zs_imul C K Z hr ho hd e2
  next  hd =>
    simp only [Bool.and_eq_true, Bool.or_eq_true, beq_iff_eq, decide_eq_true_eq, zNx, zTg] at hck
    obtain ⟨e1, e2⟩ := hck
    have ez : zexR i ls st h sc op = x_binC i ls st h zNX zBAD (fun x y => 0 ≤ x ∧ 0 < y) (fun x y => x / y) := by unfold zexR zex; rw [e1]; rfl
    rw [ez] at hr ho
    exact zs_idiv C K Z hr ho hd e2
  next  hd =>
    simp only [Bool.and_eq_true, Bool.or_eq_true, beq_iff_eq, decide_eq_true_eq, zNx, zTg] at hck
    obtain ⟨e1, e2⟩ := hck
    have ez : zexR i ls st h sc op = x_binC i ls st h zNX zBAD (fun x y => 0 ≤ x ∧ 0 < y) (fun x y => x % y) := by unfold zexR zex; rw [e1]; rfl
    rw [ez] at hr ho
    exact zs_irem C K Z hr ho hd e2
  next  hd =>
    simp only [Bool.and_eq_true, Bool.or_eq_true, beq_iff_eq, decide_eq_true_eq, zNx, zTg] at hck
    obtain ⟨e1, e2⟩ := hck
    have ez : zexR i ls st h sc op = x_bin i ls st h zNX zBAD (fun x y => (Int32.ofInt x &&& Int32.ofInt y).toInt) := by unfold zexR zex; rw [e1]; rfl
    rw [ez] at hr ho
    exact zs_iand C K Z hr ho hd e2
  next  hd =>
    simp only [Bool.and_eq_true, Bool.or_eq_true, beq_iff_eq, decide_eq_true_eq, zNx, zTg] at hck
    obtain ⟨e1, e2⟩ := hck
    have ez : zexR i ls st h sc op = x_bin i ls st h zNX zBAD (fun x y => (Int32.ofInt x ||| Int32.ofInt y).toInt) := by unfold zexR zex; rw [e1]; rfl
    rw [ez] at hr ho
    exact zs_ior C K Z hr ho hd e2
  next  hd =>
    simp only [Bool.and_eq_true, Bool.or_eq_true, beq_iff_eq, decide_eq_true_eq, zNx, zTg] at hck
    obtain ⟨e1, e2⟩ := hck
    have ez : zexR i ls st h sc op = x_bin i ls st h zNX zBAD (fun x y => (Int32.ofInt x <<< (Int32.ofInt y &&& 31)).toInt) := by unfold zexR zex; rw [e1]; rfl
    rw [ez] at hr ho
    exact zs_ishl C K Z hr ho hd e2
  next  hd =>
    simp only [Bool.and_eq_true, Bool.or_eq_true, beq_iff_eq, decide_eq_true_eq, zNx, zTg] at hck
    obtain ⟨e1, e2⟩ := hck
    have ez : zexR i ls st h sc op = x_bin i ls st h zNX zBAD (fun x y => (Int32.ofInt x >>> (Int32.ofInt y &&& 31)).toInt) := by unfold zexR zex; rw [e1]; rfl
    rw [ez] at hr ho
    exact zs_ishr C K Z hr ho hd e2
  next off hd =>
    simp only [Bool.and_eq_true, Bool.or_eq_true, beq_iff_eq, decide_eq_true_eq, zNx, zTg] at hck
    obtain ⟨⟨e1, e2⟩, e3⟩ := hck
    have ez : zexR i ls st h sc op = x_if i ls st h zNX zBAD (fun x => x = 0) op.2.2.1 := by unfold zexR zex; rw [e1]; rfl
    rw [ez] at hr ho
    exact zs_if_eq C K Z hr ho hd e2 e3
  next off hd =>
    simp only [Bool.and_eq_true, Bool.or_eq_true, beq_iff_eq, decide_eq_true_eq, zNx, zTg] at hck
    obtain ⟨⟨e1, e2⟩, e3⟩ := hck
    have ez : zexR i ls st h sc op = x_if i ls st h zNX zBAD (fun x => x ≠ 0) op.2.2.1 := by unfold zexR zex; rw [e1]; rfl
    rw [ez] at hr ho
    exact zs_if_ne C K Z hr ho hd e2 e3
  next off hd =>
    simp only [Bool.and_eq_true, Bool.or_eq_true, beq_iff_eq, decide_eq_true_eq, zNx, zTg] at hck
    obtain ⟨⟨e1, e2⟩, e3⟩ := hck
    have ez : zexR i ls st h sc op = x_if i ls st h zNX zBAD (fun x => x < 0) op.2.2.1 := by unfold zexR zex; rw [e1]; rfl
    rw [ez] at hr ho
    exact zs_if_lt C K Z hr ho hd e2 e3
  next off hd =>
    simp only [Bool.and_eq_true, Bool.or_eq_true, beq_iff_eq, decide_eq_true_eq, zNx, zTg] at hck
    obtain ⟨⟨e1, e2⟩, e3⟩ := hck
    have ez : zexR i ls st h sc op = x_if i ls st h zNX zBAD (fun x => 0 ≤ x) op.2.2.1 := by unfold zexR zex; rw [e1]; rfl
    rw [ez] at hr ho
    exact zs_if_ge C K Z hr ho hd e2 e3
  next off hd =>
    simp only [Bool.and_eq_true, Bool.or_eq_true, beq_iff_eq, decide_eq_true_eq, zNx, zTg] at hck
    obtain ⟨⟨e1, e2⟩, e3⟩ := hck
    have ez : zexR i ls st h sc op = x_if i ls st h zNX zBAD (fun x => 0 < x) op.2.2.1 := by unfold zexR zex; rw [e1]; rfl
    rw [ez] at hr ho
    exact zs_if_gt C K Z hr ho hd e2 e3
  next off hd =>
    simp only [Bool.and_eq_true, Bool.or_eq_true, beq_iff_eq, decide_eq_true_eq, zNx, zTg] at hck
    obtain ⟨⟨e1, e2⟩, e3⟩ := hck
    have ez : zexR i ls st h sc op = x_if i ls st h zNX zBAD (fun x => x ≤ 0) op.2.2.1 := by unfold zexR zex; rw [e1]; rfl
    rw [ez] at hr ho
    exact zs_if_le C K Z hr ho hd e2 e3
  next off hd =>
    simp only [Bool.and_eq_true, Bool.or_eq_true, beq_iff_eq, decide_eq_true_eq, zNx, zTg] at hck
    obtain ⟨⟨e1, e2⟩, e3⟩ := hck
    have ez : zexR i ls st h sc op = x_icmp i ls st h zNX zBAD (fun x y => x = y) op.2.2.1 := by unfold zexR zex; rw [e1]; rfl
    rw [ez] at hr ho
    exact zs_icmp_eq C K Z hr ho hd e2 e3
  next off hd =>
    simp only [Bool.and_eq_true, Bool.or_eq_true, beq_iff_eq, decide_eq_true_eq, zNx, zTg] at hck
    obtain ⟨⟨e1, e2⟩, e3⟩ := hck
    have ez : zexR i ls st h sc op = x_icmp i ls st h zNX zBAD (fun x y => x ≠ y) op.2.2.1 := by unfold zexR zex; rw [e1]; rfl
    rw [ez] at hr ho
    exact zs_icmp_ne C K Z hr ho hd e2 e3
  next off hd =>
    simp only [Bool.and_eq_true, Bool.or_eq_true, beq_iff_eq, decide_eq_true_eq, zNx, zTg] at hck
    obtain ⟨⟨e1, e2⟩, e3⟩ := hck
    have ez : zexR i ls st h sc op = x_icmp i ls st h zNX zBAD (fun x y => x < y) op.2.2.1 := by unfold zexR zex; rw [e1]; rfl
    rw [ez] at hr ho
    exact zs_icmp_lt C K Z hr ho hd e2 e3
  next off hd =>
    simp only [Bool.and_eq_true, Bool.or_eq_true, beq_iff_eq, decide_eq_true_eq, zNx, zTg] at hck
    obtain ⟨⟨e1, e2⟩, e3⟩ := hck
    have ez : zexR i ls st h sc op = x_icmp i ls st h zNX zBAD (fun x y => y ≤ x) op.2.2.1 := by unfold zexR zex; rw [e1]; rfl
    rw [ez] at hr ho
    exact zs_icmp_ge C K Z hr ho hd e2 e3
  next off hd =>
    simp only [Bool.and_eq_true, Bool.or_eq_true, beq_iff_eq, decide_eq_true_eq, zNx, zTg] at hck
    obtain ⟨⟨e1, e2⟩, e3⟩ := hck
    have ez : zexR i ls st h sc op = x_icmp i ls st h zNX zBAD (fun x y => y < x) op.2.2.1 := by unfold zexR zex; rw [e1]; rfl
    rw [ez] at hr ho
    exact zs_icmp_gt C K Z hr ho hd e2 e3
  next off hd =>
    simp only [Bool.and_eq_true, Bool.or_eq_true, beq_iff_eq, decide_eq_true_eq, zNx, zTg] at hck
    obtain ⟨⟨e1, e2⟩, e3⟩ := hck
    have ez : zexR i ls st h sc op = x_icmp i ls st h zNX zBAD (fun x y => x ≤ y) op.2.2.1 := by unfold zexR zex; rw [e1]; rfl
    rw [ez] at hr ho
    exact zs_icmp_le C K Z hr ho hd e2 e3
  next off hd =>
    simp only [Bool.and_eq_true, Bool.or_eq_true, beq_iff_eq, decide_eq_true_eq, zNx, zTg] at hck
    obtain ⟨e1, e2⟩ := hck
    have ez : zexR i ls st h sc op = .inl (op.2.2.1, ls, st, h) := by unfold zexR zex; rw [e1]; rfl
    rw [ez] at hr ho
    exact zs_goto C K Z hr ho hd e2
  next off hd =>
    simp only [Bool.and_eq_true, Bool.or_eq_true, beq_iff_eq, decide_eq_true_eq, zNx, zTg] at hck
    obtain ⟨⟨e1, e2⟩, e3⟩ := hck
    have ez : zexR i ls st h sc op = x_ifnull i ls st h zNX zBAD op.2.2.1 := by unfold zexR zex; rw [e1]; rfl
    rw [ez] at hr ho
    exact zs_ifnull C K Z hr ho hd e2 e3
  next off hd =>
    simp only [Bool.and_eq_true, Bool.or_eq_true, beq_iff_eq, decide_eq_true_eq, zNx, zTg] at hck
    obtain ⟨⟨e1, e2⟩, e3⟩ := hck
    have ez : zexR i ls st h sc op = x_ifnonnull i ls st h zNX zBAD op.2.2.1 := by unfold zexR zex; rw [e1]; rfl
    rw [ez] at hr ho
    exact zs_ifnonnull C K Z hr ho hd e2 e3
  next ix hd =>
    simp only [Bool.and_eq_true, Bool.or_eq_true, beq_iff_eq, decide_eq_true_eq, zNx, zTg] at hck
    obtain ⟨⟨⟨e1, e2⟩, e3⟩, e4⟩ := hck
    have ez : zexR i ls st h sc op = x_getf i ls st h zNX zBAD op.2.2.1 op.2.2.2.1 := by unfold zexR zex; rw [e1]; rfl
    rw [ez] at hr ho
    exact zs_getf C K Z hr ho e3 (cIn_ok e2) hd e4
  next ix hd =>
    simp only [Bool.and_eq_true, beq_iff_eq, decide_eq_true_eq, zNx] at hck
    obtain ⟨⟨⟨⟨e1, e2⟩, e3⟩, e5⟩, e4⟩ := hck
    have ez : zexR i ls st h sc op = x_putf i ls st h zNX zBAD op.2.2.1 op.2.2.2.1 := by unfold zexR zex; rw [e1]; rfl
    rw [ez] at hr ho
    exact zs_putf C K Z hr ho e3 (cIn_ok e2) e5 (zN_ok _) hd e4
  next  hd =>
    simp only [Bool.and_eq_true, Bool.or_eq_true, beq_iff_eq, decide_eq_true_eq, zNx, zTg] at hck
    obtain ⟨e1, e2⟩ := hck
    have ez : zexR i ls st h sc op = x_iald i ls st h zNX zBAD sc := by unfold zexR zex; rw [e1]; rfl
    rw [ez] at hr ho
    exact zs_iald C K Z hr ho hd e2
  next  hd =>
    simp only [Bool.and_eq_true, Bool.or_eq_true, beq_iff_eq, decide_eq_true_eq, zNx, zTg] at hck
    obtain ⟨e1, e2⟩ := hck
    have ez : zexR i ls st h sc op = x_iast i ls st h zNX zBAD := by unfold zexR zex; rw [e1]; rfl
    rw [ez] at hr ho
    exact zs_iast C K Z hr ho hd e2
  next  hd =>
    simp only [Bool.and_eq_true, Bool.or_eq_true, beq_iff_eq, decide_eq_true_eq, zNx, zTg] at hck
    obtain ⟨e1, e2⟩ := hck
    have ez : zexR i ls st h sc op = x_aald i ls st h zNX zBAD := by unfold zexR zex; rw [e1]; rfl
    rw [ez] at hr ho
    exact zs_aald C K Z hr ho hd e2
  next  hd =>
    simp only [Bool.and_eq_true, Bool.or_eq_true, beq_iff_eq, decide_eq_true_eq, zNx, zTg] at hck
    obtain ⟨e1, e2⟩ := hck
    have ez : zexR i ls st h sc op = x_aast i ls st h zNX zBAD := by unfold zexR zex; rw [e1]; rfl
    rw [ez] at hr ho
    exact zs_aast C K Z hr ho hd e2
  next  hd =>
    simp only [Bool.and_eq_true, Bool.or_eq_true, beq_iff_eq, decide_eq_true_eq, zNx, zTg] at hck
    obtain ⟨e1, e2⟩ := hck
    have ez : zexR i ls st h sc op = x_alen i ls st h zNX zBAD sc := by unfold zexR zex; rw [e1]; rfl
    rw [ez] at hr ho
    exact zs_alen C K Z hr ho hd e2
  next  hd =>
    simp only [Bool.and_eq_true, Bool.or_eq_true, beq_iff_eq, decide_eq_true_eq, zNx, zTg] at hck
    obtain ⟨e1, e2⟩ := hck
    have ez : zexR i ls st h sc op = x_newa i ls st h zNX zBAD := by unfold zexR zex; rw [e1]; rfl
    rw [ez] at hr ho
    exact zs_newa hsc hsl hbd C K Z hr ho hd e2
  next ix hd =>
    simp only [Bool.and_eq_true, Bool.or_eq_true, beq_iff_eq, decide_eq_true_eq, zNx, zTg] at hck
    obtain ⟨⟨e1, e2⟩, e3⟩ := hck
    have ez : zexR i ls st h sc op = x_anew i ls st h zNX zBAD := by unfold zexR zex; rw [e1]; rfl
    rw [ez] at hr ho
    exact zs_anew hsc hsl hbd C K Z hr ho (cIn_ok e2) hd e3
  next ix hd =>
    simp only [Bool.and_eq_true, Bool.or_eq_true, beq_iff_eq, decide_eq_true_eq, zNx, zTg] at hck
    obtain ⟨⟨⟨e1, e2⟩, e3⟩, e4⟩ := hck
    have ez : zexR i ls st h sc op = x_new i ls st h zNX op.2.2.1 := by unfold zexR zex; rw [e1]; rfl
    rw [ez] at hr ho
    exact zs_new hsc hsl hbd C K Z hr ho e3 (zN_ok _ e3) (cIn_ok e2) hd e4
  next  hd =>
    simp only [Bool.and_eq_true, Bool.or_eq_true, beq_iff_eq, decide_eq_true_eq, zNx, zTg] at hck
    obtain ⟨e1, e2⟩ := hck
    have ez : zexR i ls st h sc op = x_dup i ls st h zNX zBAD := by unfold zexR zex; rw [e1]; rfl
    rw [ez] at hr ho
    exact zs_dup C K Z hr ho hd e2
  next  hd =>
    simp only [Bool.and_eq_true, Bool.or_eq_true, beq_iff_eq, decide_eq_true_eq, zNx, zTg] at hck
    obtain ⟨e1, e2⟩ := hck
    have ez : zexR i ls st h sc op = x_pop i ls st h zNX zBAD := by unfold zexR zex; rw [e1]; rfl
    rw [ez] at hr ho
    exact zs_pop C K Z hr ho hd e2
  next  hd =>
    simp only [Bool.and_eq_true, Bool.or_eq_true, beq_iff_eq, decide_eq_true_eq, zNx, zTg] at hck
    obtain ⟨e1, e2⟩ := hck
    have ez : zexR i ls st h sc op = x_dup2 i ls st h zNX zBAD := by unfold zexR zex; rw [e1]; rfl
    rw [ez] at hr ho
    exact zs_dup2 C K Z hr ho hd e2
  next ix hd =>
    simp only [Bool.and_eq_true, Bool.or_eq_true, beq_iff_eq, decide_eq_true_eq, zNx] at hck
    obtain ⟨e4, ⟨⟨e1, e2⟩, e3⟩ | ⟨⟨e1, e2⟩, e3⟩ | ⟨⟨e1, e2⟩, e3⟩⟩ := hck
    · have ez : zexR i ls st h sc op = x_calls st zCL zBAD op.2.2.1 op.2.2.2.1 := by unfold zexR zex; rw [e1]; rfl
      rw [ez] at hr ho
      exact zs_calls hsc hsl hbd HM C K Z hr ho (harg (Or.inl e1)) (e2.imp cIn_ok cIn_ok) e3 hd e4
    · have ez : zexR i ls st h sc op = x_binS i ls st h zNX zBAD (fun x y => if x < y then y else x) := by unfold zexR zex; rw [e1]; rfl
      rw [ez] at hr ho
      exact zs_mmax C K Z hr ho (zroom0 hsc hsl Z.2.2.2.2.2.2.2.1 Z.2.2.2.2.2.2.2.2.1 hbd hr0 Z) (cIn_ok e2) e3 hd e4
    · have ez : zexR i ls st h sc op = x_binS i ls st h zNX zBAD (fun x y => if y < x then y else x) := by unfold zexR zex; rw [e1]; rfl
      rw [ez] at hr ho
      exact zs_mmin C K Z hr ho (zroom0 hsc hsl Z.2.2.2.2.2.2.2.1 Z.2.2.2.2.2.2.2.2.1 hbd hr0 Z) (cIn_ok e2) e3 hd e4
  next ix hd =>
    simp only [Bool.and_eq_true, Bool.or_eq_true, beq_iff_eq, decide_eq_true_eq, zNx, zTg] at hck
    obtain ⟨⟨⟨⟨⟨e1, e2⟩, e3⟩, e4⟩, e5⟩, e6⟩ := hck
    have ez : zexR i ls st h sc op = x_callv st h zCL zBAD op.2.1 op.2.2.1 op.2.2.2.1 := by unfold zexR zex; rw [e1]; rfl
    rw [ez] at hr ho
    exact zs_callv hsc hsl hbd HM C K Z hr ho (harg (Or.inr (Or.inl e1))) e4 ⟨by omega, e5.2⟩ (cIn_ok e2) e3 hd e6
  next ix hd =>
    simp only [Bool.and_eq_true, Bool.or_eq_true, beq_iff_eq, decide_eq_true_eq, zNx] at hck
    obtain ⟨e6, ⟨⟨e1, e2⟩, e3⟩ | ⟨⟨⟨⟨⟨e1, e2⟩, e3⟩, e4⟩, e5⟩, e7⟩⟩ := hck
    · have ez : zexR i ls st h sc op = x_oinit i ls st h zNX zBAD := by unfold zexR zex; rw [e1]; rfl
      rw [ez] at hr ho
      exact zs_oinit C K Z hr ho (cIn_ok e2) e3 hd e6
    · have ez : zexR i ls st h sc op = x_callv st h zCL zBAD op.2.1 op.2.2.1 op.2.2.2.1 := by unfold zexR zex; rw [e1]; rfl
      rw [ez] at hr ho
      exact zs_calli hsc hsl hbd HM C K Z hr ho (harg (Or.inr (Or.inr e1))) e4 e5 e7 (cIn_ok e2) e3 hd e6
  next hd =>
    simp only [Bool.and_eq_true, beq_iff_eq, decide_eq_true_eq] at hck
    obtain ⟨e1, e2⟩ := hck
    have ez : zexR i ls st h sc op = x_vret st zRT zBAD := by unfold zexR zex; rw [e1]; rfl
    rw [ez] at hr
    unfold x_vret at hr
    split at hr
    next => exact zend Ke Z hr rfl ⟨hd, e2⟩
    next => cases hr
  next hd =>
    simp only [Bool.and_eq_true, Bool.or_eq_true, beq_iff_eq, decide_eq_true_eq] at hck
    rcases hck with ⟨e1, e2⟩ | ⟨e1, e2⟩
    · have ez : zexR i ls st h sc op = x_iret st zRT zBAD := by unfold zexR zex; rw [e1]; rfl
      rw [ez] at hr
      unfold x_iret at hr
      split at hr
      next z => exact zend Ke Z hr rfl ⟨hd, Or.inl e2⟩
      next => cases hr
    · have ez : zexR i ls st h sc op = x_zret st zRT zBAD := by unfold zexR zex; rw [e1]; rfl
      rw [ez] at hr
      unfold x_zret at hr
      split at hr
      next z =>
        split at hr
        next q => exact zend Ke Z hr rfl ⟨hd, Or.inr ⟨e2, q⟩⟩
        next => cases hr
      next => cases hr
  next hd =>
    simp only [Bool.and_eq_true, beq_iff_eq] at hck
    obtain ⟨e1, e2⟩ := hck
    have ez : zexR i ls st h sc op = x_aret st zRT zBAD := by unfold zexR zex; rw [e1]; rfl
    rw [ez] at hr
    unfold x_aret at hr
    split at hr
    next q =>
      refine zend Ke Z hr rfl ⟨hd, ?_⟩
      split at e2
      next a he => exact Or.inl ⟨a, he⟩
      next a he => exact Or.inr ⟨a, he⟩
      next => cases e2
    next => cases hr
  next hd =>
    simp only [Bool.and_eq_true, beq_iff_eq, decide_eq_true_eq] at hck
    obtain ⟨e1, e2⟩ := hck
    have ez : zexR i ls st h sc op = x_fret st zRT zBAD := by unfold zexR zex; rw [e1]; rfl
    rw [ez] at hr
    unfold x_fret at hr
    split at hr
    next b => exact zend Ke Z hr rfl ⟨hd, e2⟩
    next => cases hr
  next dd lo hi offs len hd =>
    simp only [Bool.and_eq_true, beq_iff_eq, decide_eq_true_eq, zTg] at hck
    obtain ⟨⟨⟨⟨e1, e2⟩, e3⟩, e4⟩, e5⟩ := hck
    have ez : zexR i ls st h sc op = x_sw ls st h zNX zBAD op.2.2.2.2 op.2.2.1 := by unfold zexR zex; rw [e1]; rfl
    rw [ez] at hr ho
    refine zs_tsw C K Z hr ho hd e2 e3 e4 (fun k hk => ?_)
    have h6 := List.all_eq_true.mp e5 k (List.mem_range.mpr hk)
    split at h6
    next a t o' h7 h8 =>
      simp only [Bool.and_eq_true, beq_iff_eq] at h6
      exact ⟨t, o', by rw [h7, h6.1], h8, h6.2⟩
    next => cases h6
  next dd ps len hd =>
    simp only [Bool.and_eq_true, beq_iff_eq, decide_eq_true_eq, zTg] at hck
    obtain ⟨⟨⟨⟨e1, e2⟩, e3⟩, e4⟩, e5⟩ := hck
    have ez : zexR i ls st h sc op = x_sw ls st h zNX zBAD op.2.2.2.2 op.2.2.1 := by unfold zexR zex; rw [e1]; rfl
    rw [ez] at hr ho
    refine zs_lsw C K Z hr ho hd e2 e3 e4 (fun q hq => ?_)
    have h6 := List.all_eq_true.mp e5 q hq
    simp only [Bool.and_eq_true, beq_iff_eq, decide_eq_true_eq] at h6
    exact ⟨h6.1.1, h6.2⟩
  next  hd =>
    simp only [Bool.and_eq_true, Bool.or_eq_true, beq_iff_eq, decide_eq_true_eq, zNx, zTg] at hck
    obtain ⟨e1, e2⟩ := hck
    have ez : zexR i ls st h sc op = x_i2f i ls st h zNX zBAD := by unfold zexR zex; rw [e1]; rfl
    rw [ez] at hr ho
    exact zs_i2f C K Z hr ho hd e2
  next  hd =>
    simp only [Bool.and_eq_true, Bool.or_eq_true, beq_iff_eq, decide_eq_true_eq, zNx, zTg] at hck
    obtain ⟨e1, e2⟩ := hck
    have ez : zexR i ls st h sc op = x_fdiv i ls st h zNX zBAD := by unfold zexR zex; rw [e1]; rfl
    rw [ez] at hr ho
    exact zs_fdiv C K Z hr ho hd e2
  next  hd =>
    simp only [Bool.and_eq_true, Bool.or_eq_true, beq_iff_eq, decide_eq_true_eq, zNx, zTg] at hck
    obtain ⟨e1, e2⟩ := hck
    have ez : zexR i ls st h sc op = x_f2d i ls st h zNX zBAD := by unfold zexR zex; rw [e1]; rfl
    rw [ez] at hr ho
    exact zs_f2d C K Z hr ho hd e2
  next  hd =>
    simp only [Bool.and_eq_true, Bool.or_eq_true, beq_iff_eq, decide_eq_true_eq, zNx, zTg] at hck
    obtain ⟨e1, e2⟩ := hck
    have ez : zexR i ls st h sc op = x_dcmp i ls st h zNX zBAD := by unfold zexR zex; rw [e1]; rfl
    rw [ez] at hr ho
    exact zs_dcmp C K Z hr ho hd e2
  next  hd =>
    simp only [Bool.and_eq_true, Bool.or_eq_true, beq_iff_eq, decide_eq_true_eq, zNx, zTg] at hck
    obtain ⟨e1, e2⟩ := hck
    have ez : zexR i ls st h sc op = x_fcmp i ls st h zNX zBAD := by unfold zexR zex; rw [e1]; rfl
    rw [ez] at hr ho
    exact zs_fcmp C K Z hr ho hd e2
  next  hd =>
    simp only [Bool.and_eq_true, Bool.or_eq_true, beq_iff_eq, decide_eq_true_eq, zNx, zTg] at hck
    obtain ⟨e1, e2⟩ := hck
    have ez : zexR i ls st h sc op = x_fconst0 i ls st h zNX := by unfold zexR zex; rw [e1]; rfl
    rw [ez] at hr ho
    exact zs_fconst0 C K Z hr ho hd e2
  next k hd =>
    simp only [Bool.and_eq_true, Bool.or_eq_true, beq_iff_eq, decide_eq_true_eq, zNx, zTg] at hck
    obtain ⟨⟨e1, e2⟩, e3⟩ := hck
    have ez : zexR i ls st h sc op = x_dload i ls st h zNX zBAD op.2.2.1 := by unfold zexR zex; rw [e1]; rfl
    rw [ez] at hr ho
    rw [e2] at hr ho
    exact zs_dload C K Z hr ho hd e3
  next k hd =>
    simp only [Bool.and_eq_true, beq_iff_eq, decide_eq_true_eq, zNx] at hck
    obtain ⟨⟨⟨⟨⟨e1, e2⟩, e3⟩, e4⟩, e5⟩, e6⟩ := hck
    have ez : zexR i ls st h sc op = x_dstore i ls st h zNX zBAD op.2.2.1 := by unfold zexR zex; rw [e1]; rfl
    rw [ez] at hr ho
    rw [e2] at hr ho
    exact zs_dstore C K Z hr ho e3 e4 hd e6
  next => cases hck
/-- all steps of one frame, the calls' contracts at hand -/
theorem zframe (hsc : ∀ x, inR (sc.2 x)) (hsl : sc.1 < 2147483648) (hbd : h'.1 ≤ n0 + R.cells ∧ h'.2.1 ≤ s0 + R.slots) (C : zCx p s m args meth c R mi D cI cD bS sc hs A H0) (Ke : zKe p l e R s m args below meth c Q mi D cI cD bS A H0 n0 s0 hb ad0 r h') : ∀ n, (∀ k, k < n → zMet l sc k) → zG0 p l e R s m args below meth c Q mi D cI cD bS sc hs A H0 n0 s0 hb ad0 r h' n := by
  intro n
  induction n with
  | zero => intro _ i ls st h H locs cells slots lsC ad hr; cases hr
  | succ n ih => exact fun HM => zstep hsc hsl hbd (HM n (Nat.lt_succ_self n)) C (ih (fun k hk => HM k (Nat.lt_succ_of_lt hk))) Ke
end STEP
theorem zlg : ∀ {vs : List Value}, (∀ v ∈ vs, v.category = 1) → (lg_sl vs).length = vs.length ∧ ∀ k, lv_args k vs = (List.range vs.length).map (fun i => (k + i, vs.getD i .null))
  | [], _ => ⟨rfl, fun _ => rfl⟩
  | v :: vs, h => by
    obtain ⟨h1, h2⟩ := zlg (vs := vs) (fun w hw => h w (List.mem_cons_of_mem _ hw))
    have hv := h v List.mem_cons_self
    constructor
    · have : lg_sl (v :: vs) = .val v :: lg_sl vs := by simp [lg_sl, hv]
      rw [this, List.length_cons, List.length_cons, h1]
    · intro k
      unfold lv_args
      rw [if_neg (by rw [hv]; omega), h2, List.length_cons, List.range_succ_eq_map, List.map_cons, List.map_map]
      congr 1
      apply List.map_congr_left
      intro i _
      show (k + 1 + i, _) = (k + (i + 1), _)
      rw [show k + 1 + i = k + (i + 1) by omega]
      simp
set_option maxRecDepth 100000 in
theorem znames : (List.range 96).all (fun m => plainName (zMI m).1.cls && (decide (zN (zMI m).2.2.2.2.1 = (zMI m).1.cls) && (!((zMI m).2.2.2.2.2 == 2) || decide ((zMI m).1.name = "<init>")))) = true := by decide +kernel
theorem zplainN (m : Nat) (h : m < 96) : plainName (zMI m).1.cls = true := by
  have := List.all_eq_true.mp znames m (List.mem_range.mpr h)
  simp only [Bool.and_eq_true] at this
  exact this.1
theorem zownN (m : Nat) (h : m < 96) : zN (zMI m).2.2.2.2.1 = (zMI m).1.cls := by
  have := List.all_eq_true.mp znames m (List.mem_range.mpr h)
  simp only [Bool.and_eq_true, decide_eq_true_eq] at this
  exact this.2.1
theorem zinitN (m : Nat) (h : m < 96) (hk : (zMI m).2.2.2.2.2 = 2) : (zMI m).1.name = "<init>" := by
  have := List.all_eq_true.mp znames m (List.mem_range.mpr h)
  simp only [Bool.and_eq_true, decide_eq_true_eq, Bool.or_eq_true, Bool.not_eq_true', beq_eq_false_iff_ne] at this
  exact this.2.2.resolve_left (fun q => q hk)
theorem zmet {l : Launch} {sc : Nat × (Int → Int)} (hsc : ∀ x, inR (sc.2 x)) (hsl : sc.1 < 2147483648) : ∀ n, zMet l sc n := by
  intro n
  induction n using Nat.strongRecOn with
  | ind n ih =>
    intro hs m' hm' as h r h' hr hH hS hp hlen D cI cD bS ad sz
    have hw := m_in hm'
    have hcode : Cond.code (zMI m').1 (zMI m').2.1 (zMI m').2.2.1 (zMI m').2.2.2.1 ∈ zG := hw _ (List.mem_append_left _ List.mem_cons_self)
    have hok := run_ok hsc hsl n hs m' 0 _ [] h r h' hr hH (zen_ok hS hp) (fun v hv => by cases hv)
    refine Met.ofW (cc := (zMI m').2.1) (maxL := (zMI m').2.2.1) (ret := (zMI m').2.2.2.1) (zplainN m' hm') rfl ?_
    intro p e s m args below meth c s₁ B hml hv
    obtain ⟨rfl, hsz, hP, hK, hD0, hAO, hNw, hXs⟩ := hv
    subst hsz
    have hts : ∀ w ∈ zG, w.before (as.map (vC bS ad)).toArray s = true := fun w hw => atoms_spec (ws := zws m') B.pre w (List.mem_cons_of_mem _ hw)
    have hown : s.vm.findClass (zMI m').1.cls = some m.cls := findClass_of_methodNamed B.named
    have hlocks := B.notSynchronized
    have hD := hD0.self (sz := s.heap.size)
    have hC : zCx p s m (as.map (vC bS ad)).toArray meth c (zrm m' h h') m' D cI cD bS sc hs (va_A (cw cI cD bS ad h) s.heap.size) s.heap := by
      refine ⟨B.exec, B.bytes, hml, by rw [zownN m' hm']; exact hown, hts, hK, hAO, hNw, fun hk => ?_, Nat.le_refl _, Nat.le_refl _, fun q hq => Or.inr hq, hXs⟩
      rw [(name_of_methodNamed B.named B.method).1]
      exact zinitN m' hm' hk
    have hcat : ∀ v ∈ as.map (vC bS ad), v.category = 1 := by
      intro v hv
      obtain ⟨w, hw, rfl⟩ := List.mem_map.mp hv
      rw [vC_cat]
      have := hp w hw
      rcases w with z | (_ | k) | b | b | u
      · rfl
      · rfl
      · rfl
      · rfl
      · cases this
      · rfl
    obtain ⟨hlg, hla⟩ := zlg hcat
    have hle : (lg_sl (as.map (vC bS ad))).length ≤ (zMI m').2.2.1 := by rw [hlg, List.length_map]; exact hlen
    have hl := lv_entry (as.map (vC bS ad)) hle
    rw [lg_entry_eq]
    generalize (lg_sl (as.map (vC bS ad)) ++ List.replicate ((zMI m').2.2.1 - (lg_sl (as.map (vC bS ad))).length) Slot.unset).toArray = lsC at hl ⊢
    have hzl : (zen m' as).length = (zMI m').2.2.1 := by
      have hlen : as.length ≤ (zMI m').2.2.1 := hlen
      show (as.map some ++ List.replicate ((zMI m').2.2.1 - as.length) none).length = _
      rw [List.length_append, List.length_map, List.length_replicate]
      omega
    have hlR : lR bS ad (zMI m').2.2.1 (zen m' as) lsC := by
      refine ⟨hzl, hl.1, hl.2.1, fun q hq => ?_⟩
      obtain ⟨v, h1, h2⟩ := zlv_mem.mp hq
      refine hl.2.2 q ?_
      rw [hla 0, List.mem_map]
      unfold zen at h1
      by_cases hi : q.1 < as.length
      · refine ⟨q.1, List.mem_range.mpr (by rw [List.length_map]; exact hi), ?_⟩
        rw [List.getElem?_append_left (by rw [List.length_map]; exact hi), List.getElem?_map] at h1
        have h3 : as[q.1]? = some v := by
          cases hq1 : as[q.1]? with
          | none => rw [hq1] at h1; cases h1
          | some w => rw [hq1] at h1; cases h1; rfl
        rw [List.getD_eq_getElem?_getD, List.getElem?_map, h3, Nat.zero_add]
        exact Prod.ext rfl h2.symm
      · rw [List.getElem?_append_right (by rw [List.length_map]; omega)] at h1
        have := List.eq_of_mem_replicate (List.mem_of_getElem? h1)
        cases this
    have hpc0 : zpc m' 0 = 0 := by
      have h99 : (zfe m' 0).1 ≠ 99 := by
        intro q
        cases n with
        | zero => cases hr
        | succ n =>
          rw [zrun_s] at hr
          have : zexR 0 (zen m' as) [] h sc (zfe m' 0) = zBAD := by unfold zexR zex; rw [q]; rfl
          rw [this] at hr
          cases hr
      exact (ck_ok h99).2.2
    have hret := B.returns
    have Ke : zKe p l e (zrm m' h h') s m (as.map (vC bS ad)).toArray below meth c (MQ below (zQc D cI cD bS ad h s.heap.size r h') (as.map (vC bS ad)).toArray s (h'.1 - h.1) (h'.2.1 - h.2.1) (va_A (cw cI cD bS ad h) s.heap.size)) m' D cI cD bS (va_A (cw cI cD bS ad h) s.heap.size) s.heap h.1 h.2.1 h.1 ad r h' := by
      intro i' ad' H' locs' lsC' cells' slots' he hP' hD' hS' hn hs0 ha
      have ec : cells' = h'.1 - h.1 := by omega
      have es : slots' = h'.2.1 - h.2.1 := by omega
      subst ec; subst es
      have hq : ∀ t : State, t.heap = H' → s.WarmedH t.vm → zQc D cI cD bS ad h s.heap.size r h' (as.map (vC bS ad)).toArray s (.returned (r.map (vC bS ad'))) t := fun t ht _ => ⟨⟨ad', ha, rfl, by rw [ht]; exact hP', hD'⟩, hS'.F ht⟩
      rcases r with _ | z | q | b | b | u
      · exact W.vret B.exec B.bytes (hret.trans he.2) hq hS'.2.2 he.1
      · rcases he.2 with h1 | ⟨h1, h2⟩
        · exact W.iret B.exec B.bytes (hret.trans h1) hq hS'.2.2 he.1
        · refine W.zret B.exec B.bytes (hret.trans h1) ?_ hq hS'.2.2 he.1
          rcases h2 with h2 | h2 <;> subst h2 <;> decide
      · refine W.aret (v := vC bS ad' (.inr (.inl q))) B.exec B.bytes (rt := (zMI m').2.2.2.1.getD .int) ?_ ?_ ?_ hq hS'.2.2 he.1
        · rcases he.2 with ⟨a, h1⟩ | ⟨a, h1⟩ <;> rw [hret, h1] <;> rfl
        · rcases he.2 with ⟨a, h1⟩ | ⟨a, h1⟩ <;> rw [h1]
          · exact Or.inl ⟨a, rfl⟩
          · exact Or.inr ⟨a, rfl⟩
        · cases q with
          | none => exact Or.inl rfl
          | some q => exact Or.inr ⟨_, rfl⟩
      · exact W.fret B.exec B.bytes (hret.trans he.2) hq hS'.2.2 he.1
      · cases he
      · cases he
    have hfr := zframe hsc hsl (n0 := h.1) (s0 := h.2.1) (R := zrm m' h h') (h' := h') ⟨by show h'.1 ≤ h.1 + (h'.1 - h.1); omega, by show h'.2.1 ≤ h.2.1 + (h'.2.1 - h.2.1); omega⟩ hC Ke n (fun k hk => ih k hk)
    have hW := hfr 0 (zen m' as) [] h s.heap [] 0 0 lsC ad hr ⟨hH, zen_ok hS hp, fun v hv => (by cases hv), hP, hD, va_S.rf, hlR, Nat.add_zero _, Nat.add_zero _, fun _ _ => rfl, Nat.le_refl _⟩
    rw [hpc0] at hW
    exact hW
end
section
/-! WHAT HOLDS AT A RUN'S END -/
def zwp (sc : Nat × (Int → Int)) (m i : Nat) (ls : zL) (st : List zV) (h : zH) (Q : Option zV → zH → Prop) : Prop := ∃ n r h', zrun sc n m i ls st h = some (r, h') ∧ Q r h'
def zca (sc : Nat × (Int → Int)) (m : Nat) (as : List zV) (h : zH) (Q : Option zV → zH → Prop) : Prop := zwp sc m 0 (zen m as) [] h Q
section WP
variable {sc : Nat × (Int → Int)} {m i : Nat} {ls : zL} {st : List zV} {h : zH} {Q : Option zV → zH → Prop}
theorem zwp_el : zwp sc m i ls st h Q = zel (fun i' ls' st' h' => zwp sc m i' ls' st' h' Q) (fun m' as st' => zca sc m' as h (fun r h1 => zwp sc m (i + 1) ls (r.toList ++ st') h1 Q)) (fun r => Q r h) False (zexR i ls st h sc (zfe m i)) := by
  apply propext
  constructor
  · rintro ⟨n, r, h', hr, hq⟩
    cases n with
    | zero => cases hr
    | succ n =>
      rw [zrun_s] at hr
      generalize zexR i ls st h sc (zfe m i) = ρ at hr ⊢
      rcases ρ with ⟨i', ls', st', h1⟩ | ⟨m', as, st'⟩ | r1 | u
      · exact ⟨n, r, h', hr, hq⟩
      · have hr : (zrun sc n m' 0 (zen m' as) [] h).bind (fun r => zrun sc n m (i + 1) ls (r.1.toList ++ st') r.2) = some (r, h') := hr
        cases hc : zrun sc n m' 0 (zen m' as) [] h with
        | none => rw [hc] at hr; cases hr
        | some x => rw [hc] at hr; exact ⟨n, x.1, x.2, hc, n, r, h', hr, hq⟩
      · have hr : some (r1, h) = some (r, h') := hr
        cases hr
        exact hq
      · cases hr
  · intro hz
    generalize hρ : zexR i ls st h sc (zfe m i) = ρ at hz
    have key : ∀ n x, zel (fun i' ls' st' h' => zrun sc n m i' ls' st' h') (fun m' as st' => (zrun sc n m' 0 (zen m' as) [] h).bind (fun r => zrun sc n m (i + 1) ls (r.1.toList ++ st') r.2)) (fun r => some (r, h)) none ρ = some x → zrun sc (n + 1) m i ls st h = some x := by
      intro n x hx
      rw [zrun_s, hρ]; exact hx
    rcases ρ with ⟨i', ls', st', h1⟩ | ⟨m', as, st'⟩ | r1 | u
    · obtain ⟨n, r, h', hr, hq⟩ := hz
      exact ⟨n + 1, r, h', key n _ hr, hq⟩
    · obtain ⟨n, r1, h1, hr1, n2, r, h', hr, hq⟩ := hz
      refine ⟨n + n2 + 1, r, h', key (n + n2) _ ?_, hq⟩
      show (zrun sc (n + n2) m' 0 (zen m' as) [] h).bind (fun r => zrun sc (n + n2) m (i + 1) ls (r.1.toList ++ st') r.2) = _
      rw [run_mono n m' 0 _ [] h _ hr1 n2]
      show zrun sc (n + n2) m (i + 1) ls (r1.toList ++ st') h1 = _
      rw [Nat.add_comm n n2]
      exact run_mono n2 m (i + 1) ls _ h1 _ hr n
    · exact ⟨1, r1, h, key 0 _ rfl, hz⟩
    · cases hz
theorem zwp_ex : zwp sc m i ls st h Q = zex i ls st h (fun i' ls' st' h' => zwp sc m i' ls' st' h' Q) (fun m' as st' => zca sc m' as h (fun r h1 => zwp sc m (i + 1) ls (r.toList ++ st') h1 Q)) (fun r => Q r h) False sc (zfe m i) := by
  rw [zwp_el, ← zex_el]
/-- one instruction, its shape at hand -/
theorem zwp_of {op : Op} {X : Prop} (hf : zfe m i = op) (hx : zex i ls st h (fun i' ls' st' h' => zwp sc m i' ls' st' h' Q) (fun m' as st' => zca sc m' as h (fun r h1 => zwp sc m (i + 1) ls (r.toList ++ st') h1 Q)) (fun r => Q r h) False sc op = X) : zwp sc m i ls st h Q = X := by
  rw [zwp_ex, hf, hx]
theorem zwp_cs {m' j : Nat} {as st' : List zV} (hf : zfe m i = (23, 0, m', j, [])) (h1 : st.take j = as.reverse) (h2 : st.drop j = st') (h3 : (Nat.ble j st.length && Nat.ble st.length (j + 4)) = true) (h4 : (st.take j).all zplain = true) : zwp sc m i ls st h Q = zca sc m' as h (fun r h1 => zwp sc m (i + 1) ls (r.toList ++ st') h1 Q) := by
  refine zwp_of hf ?_
  have this : zex i ls st h (fun i' ls' st' h' => zwp sc m i' ls' st' h' Q) (fun m' as st' => zca sc m' as h (fun r h1 => zwp sc m (i + 1) ls (r.toList ++ st') h1 Q)) (fun r => Q r h) False sc (23, 0, m', j, []) = x_calls st (fun m' as st' => zca sc m' as h (fun r h1 => zwp sc m (i + 1) ls (r.toList ++ st') h1 Q)) False m' j := rfl
  rw [this]
  simp only [Bool.and_eq_true, Nat.ble_eq] at h3
  unfold x_calls
  rw [if_pos ⟨h3, h4⟩, h1, h2, List.reverse_reverse]
theorem zwp_cv {m' j t : Nat} {z : Int} {as st' : List zV} (ht : t = 24 ∨ t = 25) (hf : zfe m i = (t, z, m', j, [])) (h1 : st.take j = as.reverse) (h2 : st.drop j = st') (h3 : (Nat.ble j st.length && Nat.ble st.length (j + 4)) = true) (h4 : (st.take j).all zplain = true) : zwp sc m i ls st h Q = (zrecv h z.toNat as = true ∧ zca sc m' as h (fun r h1 => zwp sc m (i + 1) ls (r.toList ++ st') h1 Q)) := by
  refine zwp_of hf ?_
  have : zex i ls st h (fun i' ls' st' h' => zwp sc m i' ls' st' h' Q) (fun m' as st' => zca sc m' as h (fun r h1 => zwp sc m (i + 1) ls (r.toList ++ st') h1 Q)) (fun r => Q r h) False sc (t, z, m', j, []) = x_callv st h (fun m' as st' => zca sc m' as h (fun r h1 => zwp sc m (i + 1) ls (r.toList ++ st') h1 Q)) False z m' j := by
    rcases ht with rfl | rfl <;> rfl
  rw [this]
  simp only [Bool.and_eq_true, Nat.ble_eq] at h3
  unfold x_callv
  rw [h1, h2, List.reverse_reverse]
  by_cases hr : zrecv h z.toNat as = true
  · rw [if_pos ⟨⟨h3, by rw [← h1]; exact h4⟩, hr⟩]
    simp [hr]
  · rw [if_neg (fun q => hr q.2)]
    simp [hr]
theorem zwp_bs {f : Int → Int → Int} {x y : Int} {st' : List zV} (t : Nat) (ht : (t = 49 ∧ f = fun x y => if x < y then y else x) ∨ (t = 56 ∧ f = fun x y => if y < x then y else x)) (hf : zfe m i = (t, 0, 0, 0, [])) (hs : st = .inl y :: .inl x :: st') (h3 : Nat.ble st'.length 4 = true) : zwp sc m i ls st h Q = zwp sc m (i + 1) ls (.inl (f x y) :: st') h Q := by
  refine zwp_of hf ?_
  subst hs
  have : zex i ls (.inl y :: .inl x :: st') h (fun i' ls' st' h' => zwp sc m i' ls' st' h' Q) (fun m' as st' => zca sc m' as h (fun r h1 => zwp sc m (i + 1) ls (r.toList ++ st') h1 Q)) (fun r => Q r h) False sc (t, 0, 0, 0, []) = x_binS i ls (.inl y :: .inl x :: st') h (fun i' ls' st' h' => zwp sc m i' ls' st' h' Q) False f := by
    rcases ht with ⟨rfl, rfl⟩ | ⟨rfl, rfl⟩ <;> rfl
  rw [this]
  unfold x_binS
  dsimp only
  rw [if_pos (Nat.le_of_ble_eq_true h3)]
theorem zwp_oi {q : Nat} {st' : List zV} (hf : zfe m i = (31, 0, 0, 0, [])) (hs : st = .inr (.inl (some q)) :: st') (h3 : Nat.ble st'.length 4 = true) (h4 : st'.all zplain = true) : zwp sc m i ls st h Q = zwp sc m (i + 1) ls st' h Q := by
  refine zwp_of hf ?_
  subst hs
  have this : zex i ls (.inr (.inl (some q)) :: st') h (fun i' ls' st' h' => zwp sc m i' ls' st' h' Q) (fun m' as st' => zca sc m' as h (fun r h1 => zwp sc m (i + 1) ls (r.toList ++ st') h1 Q)) (fun r => Q r h) False sc (31, 0, 0, 0, []) = x_oinit i ls (.inr (.inl (some q)) :: st') h (fun i' ls' st' h' => zwp sc m i' ls' st' h' Q) False := rfl
  rw [this]
  unfold x_oinit
  dsimp only
  rw [if_pos ⟨Nat.le_of_ble_eq_true h3, h4⟩]
theorem zwp_mono {Q' : Option zV → zH → Prop} (hw : zwp sc m i ls st h Q) (hq : ∀ r h', Q r h' → Q' r h') : zwp sc m i ls st h Q' := by
  obtain ⟨n, r, h', a, b⟩ := hw
  exact ⟨n, r, h', a, hq r h' b⟩
theorem zca_mono {as : List zV} {Q' : Option zV → zH → Prop} (hw : zca sc m as h Q) (hq : ∀ r h', Q r h' → Q' r h') : zca sc m as h Q' := zwp_mono hw hq
theorem zwp_det {r0 : Option zV} {h0 : zH} (hw : zwp sc m i ls st h (fun r h' => r = r0 ∧ h' = h0)) : zwp sc m i ls st h Q = Q r0 h0 := by
  obtain ⟨n, r, h', a, rfl, rfl⟩ := hw
  apply propext
  constructor
  · rintro ⟨n2, r2, h2, a2, hq⟩
    have h3 := run_mono n m i ls st h _ a n2
    have h4 := run_mono n2 m i ls st h _ a2 n
    rw [Nat.add_comm n2 n, h3] at h4
    cases h4
    exact hq
  · intro hq
    exact ⟨n, r, h', a, hq⟩
theorem zca_det {as : List zV} {r0 : Option zV} {h0 : zH} (hw : zca sc m as h (fun r h' => r = r0 ∧ h' = h0)) : zca sc m as h Q = Q r0 h0 := zwp_det hw
end WP
end
section
theorem zz_end : True := trivial
end
