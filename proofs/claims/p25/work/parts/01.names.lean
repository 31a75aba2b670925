/-- a private method of a class that the tables say can be made, by its rows of tables_1 -/
def lw_okq (q : MethodName × Nat) : Prop := (q.1.cls ≠ "java/lang/invoke/MethodHandle" ∧ q.1.cls ≠ "java/lang/invoke/VarHandle") ∧ Cond.instantiable q.1.cls q.2 ∈ tables_1 ∧ Cond.privateMethod q.1 ∈ tables_1 ∧ Cond.instanceMethod q.1 ∈ tables_1
theorem lw_p0 : lw_okq (⟨"EqualHeights", "tellStale", "()I"⟩, 6) := ⟨⟨by decide +kernel, by decide +kernel⟩, List.mem_of_getElem? (i := 13) (by decide +kernel), List.mem_of_getElem? (i := 221) (by decide +kernel), List.mem_of_getElem? (i := 222) (by decide +kernel)⟩
theorem lw_p1 : lw_okq (⟨"EqualHeights$ColumnFacts", "rowsOfCommon", "(II)I"⟩, 9) := ⟨⟨by decide +kernel, by decide +kernel⟩, List.mem_of_getElem? (i := 55) (by decide +kernel), List.mem_of_getElem? (i := 271) (by decide +kernel), List.mem_of_getElem? (i := 272) (by decide +kernel)⟩
theorem lw_p2 : lw_okq (⟨"EqualHeights", "recorded", "(I)I"⟩, 6) := ⟨⟨by decide +kernel, by decide +kernel⟩, List.mem_of_getElem? (i := 13) (by decide +kernel), List.mem_of_getElem? (i := 438) (by decide +kernel), List.mem_of_getElem? (i := 439) (by decide +kernel)⟩
theorem lw_p3 : lw_okq (⟨"EqualHeights$ColumnFacts", "countValues", "(LEqualHeights$Table;I)V"⟩, 9) := ⟨⟨by decide +kernel, by decide +kernel⟩, List.mem_of_getElem? (i := 55) (by decide +kernel), List.mem_of_getElem? (i := 500) (by decide +kernel), List.mem_of_getElem? (i := 501) (by decide +kernel)⟩
theorem lw_p4 : lw_okq (⟨"EqualHeights$ColumnFacts", "chooseCommon", "(I)V"⟩, 9) := ⟨⟨by decide +kernel, by decide +kernel⟩, List.mem_of_getElem? (i := 55) (by decide +kernel), List.mem_of_getElem? (i := 508) (by decide +kernel), List.mem_of_getElem? (i := 509) (by decide +kernel)⟩
theorem lw_p5 : lw_okq (⟨"EqualHeights$ColumnFacts", "nextRank", "(I)I"⟩, 9) := ⟨⟨by decide +kernel, by decide +kernel⟩, List.mem_of_getElem? (i := 55) (by decide +kernel), List.mem_of_getElem? (i := 513) (by decide +kernel), List.mem_of_getElem? (i := 514) (by decide +kernel)⟩
theorem lw_p6 : lw_okq (⟨"EqualHeights$ColumnFacts", "cutBuckets", "(II)V"⟩, 9) := ⟨⟨by decide +kernel, by decide +kernel⟩, List.mem_of_getElem? (i := 55) (by decide +kernel), List.mem_of_getElem? (i := 517) (by decide +kernel), List.mem_of_getElem? (i := 518) (by decide +kernel)⟩
theorem lw_p7 : lw_okq (⟨"EqualHeights$ColumnFacts", "isCommon", "(I)Z"⟩, 9) := ⟨⟨by decide +kernel, by decide +kernel⟩, List.mem_of_getElem? (i := 55) (by decide +kernel), List.mem_of_getElem? (i := 521) (by decide +kernel), List.mem_of_getElem? (i := 522) (by decide +kernel)⟩
theorem lw_p8 : lw_okq (⟨"EqualHeights$ColumnFacts", "fullHeight", "(II)I"⟩, 9) := ⟨⟨by decide +kernel, by decide +kernel⟩, List.mem_of_getElem? (i := 55) (by decide +kernel), List.mem_of_getElem? (i := 525) (by decide +kernel), List.mem_of_getElem? (i := 526) (by decide +kernel)⟩
theorem lw_p9 : lw_okq (⟨"EqualHeights$ColumnFacts", "startBucket", "(II)V"⟩, 9) := ⟨⟨by decide +kernel, by decide +kernel⟩, List.mem_of_getElem? (i := 55) (by decide +kernel), List.mem_of_getElem? (i := 529) (by decide +kernel), List.mem_of_getElem? (i := 530) (by decide +kernel)⟩
theorem lw_p10 : lw_okq (⟨"EqualHeights$ColumnFacts", "addToBucket", "(II)V"⟩, 9) := ⟨⟨by decide +kernel, by decide +kernel⟩, List.mem_of_getElem? (i := 55) (by decide +kernel), List.mem_of_getElem? (i := 533) (by decide +kernel), List.mem_of_getElem? (i := 534) (by decide +kernel)⟩
def lw_privs_1 : List (MethodName × Nat) := [(⟨"EqualHeights", "tellStale", "()I"⟩, 6), (⟨"EqualHeights$ColumnFacts", "rowsOfCommon", "(II)I"⟩, 9), (⟨"EqualHeights", "recorded", "(I)I"⟩, 6), (⟨"EqualHeights$ColumnFacts", "countValues", "(LEqualHeights$Table;I)V"⟩, 9), (⟨"EqualHeights$ColumnFacts", "chooseCommon", "(I)V"⟩, 9), (⟨"EqualHeights$ColumnFacts", "nextRank", "(I)I"⟩, 9), (⟨"EqualHeights$ColumnFacts", "cutBuckets", "(II)V"⟩, 9), (⟨"EqualHeights$ColumnFacts", "isCommon", "(I)Z"⟩, 9), (⟨"EqualHeights$ColumnFacts", "fullHeight", "(II)I"⟩, 9), (⟨"EqualHeights$ColumnFacts", "startBucket", "(II)V"⟩, 9), (⟨"EqualHeights$ColumnFacts", "addToBucket", "(II)V"⟩, 9)]
theorem lw_r1 : ∀ q ∈ lw_privs_1, lw_okq q := List.forall_mem_cons.mpr ⟨lw_p0, List.forall_mem_cons.mpr ⟨lw_p1, List.forall_mem_cons.mpr ⟨lw_p2, List.forall_mem_cons.mpr ⟨lw_p3, List.forall_mem_cons.mpr ⟨lw_p4, List.forall_mem_cons.mpr ⟨lw_p5, List.forall_mem_cons.mpr ⟨lw_p6, List.forall_mem_cons.mpr ⟨lw_p7, List.forall_mem_cons.mpr ⟨lw_p8, List.forall_mem_cons.mpr ⟨lw_p9, List.forall_mem_cons.mpr ⟨lw_p10, fun _ h => absurd h List.not_mem_nil⟩⟩⟩⟩⟩⟩⟩⟩⟩⟩⟩
def lw_privs : List (MethodName × Nat) := lw_privs_1
def lw_tbl : List Cond := k2_sels lw_privs ++ tables_1
theorem lw_privs_ok : ∀ q ∈ lw_privs, lw_okq q := lw_r1
/-- the streams that the claim lets the run draw from -/
abbrev lw_cs : List Choice := [Jvm.Choice.named "NaN.bits"]
theorem lw_bits : nanBits ∈ lw_cs := by first | decide | exact List.mem_cons_self | simp [lw_cs, nanBits]
def RX0 : String := "EqualHeights$Analysis"
def TX0 : u_T := fun k => match k with
  | 0 => ("EqualHeights$Analysis", "a", "LEqualHeights$ColumnFacts;", true)
  | 1 => ("EqualHeights$Analysis", "b", "LEqualHeights$ColumnFacts;", true)
  | 2 => ("EqualHeights$Analysis", "pairs", "LEqualHeights$PairFacts;", true)
  | 3 => ("EqualHeights$Analysis", "rows", "I", false)
  | _ => ("EqualHeights$Analysis", "changes", "I", false)
def tyX0 : Nat → FieldType := fun k => match k with
  | 0 => .object "EqualHeights$ColumnFacts"
  | 1 => .object "EqualHeights$ColumnFacts"
  | 2 => .object "EqualHeights$PairFacts"
  | 3 => .int
  | _ => .int
abbrev wsX00 : List Cond := u_ws RX0 TX0 5
theorem nmX0 : ∀ a, a < 5 → ∀ b, b < 5 → a ≠ b → (TX0 a).2.1 ≠ (TX0 b).2.1 := by decide +kernel
theorem tyX0_ok : ∀ k, k < 5 → parseFieldDescriptor (TX0 k).2.2.1 = some (tyX0 k) := by decide +kernel
abbrev cX0_init : ByteArray := prog_2_method_1_code
def yX0_init : MethodName := ⟨RX0, "<init>", "()V"⟩
abbrev cX0_isMade : ByteArray := prog_2_method_2_code
def yX0_isMade : MethodName := ⟨RX0, "isMade", "()Z"⟩
abbrev cX0_facts : ByteArray := prog_2_method_3_code
def yX0_facts : MethodName := ⟨RX0, "facts", "(I)LEqualHeights$ColumnFacts;"⟩
abbrev cX0_learn : ByteArray := prog_2_method_4_code
def yX0_learn : MethodName := ⟨RX0, "learn", "(LEqualHeights$Table;III)V"⟩
abbrev cX0_noteChange : ByteArray := prog_2_method_5_code
def yX0_noteChange : MethodName := ⟨RX0, "noteChange", "()V"⟩
abbrev cX0_isStale : ByteArray := prog_2_method_6_code
def yX0_isStale : MethodName := ⟨RX0, "isStale", "(I)Z"⟩
abbrev cX0_guessBoth : ByteArray := prog_2_method_7_code
def yX0_guessBoth : MethodName := ⟨RX0, "guessBoth", "(IIII)I"⟩
abbrev cX0_copyFrom : ByteArray := prog_2_method_8_code
def yX0_copyFrom : MethodName := ⟨RX0, "copyFrom", "(LEqualHeights$Analysis;)V"⟩
def RX1 : String := "EqualHeights$Bits"
def TX1 : u_T := fun k => match k with
  | _ => ("", "", "", false)
def tyX1 : Nat → FieldType := fun k => match k with
  | _ => .int
abbrev wsX10 : List Cond := u_ws RX1 TX1 0
theorem nmX1 : ∀ a, a < 0 → ∀ b, b < 0 → a ≠ b → (TX1 a).2.1 ≠ (TX1 b).2.1 := by decide +kernel
theorem tyX1_ok : ∀ k, k < 0 → parseFieldDescriptor (TX1 k).2.2.1 = some (tyX1 k) := by decide +kernel
abbrev cX1_ofFloat : ByteArray := prog_3_method_2_code
def yX1_ofFloat : MethodName := ⟨RX1, "ofFloat", "(F)I"⟩
abbrev cX1_ofDouble : ByteArray := prog_3_method_3_code
def yX1_ofDouble : MethodName := ⟨RX1, "ofDouble", "(D)J"⟩
abbrev cX1_bits : ByteArray := prog_3_method_4_code
def yX1_bits : MethodName := ⟨RX1, "bits", "(DII)J"⟩
def RX2 : String := "EqualHeights$ColumnFacts"
def TX2 : u_T := fun k => match k with
  | 0 => ("EqualHeights$ColumnFacts", "had", "[I", true)
  | 1 => ("EqualHeights$ColumnFacts", "commonValue", "[I", true)
  | 2 => ("EqualHeights$ColumnFacts", "commonRows", "[I", true)
  | 3 => ("EqualHeights$ColumnFacts", "commons", "I", false)
  | 4 => ("EqualHeights$ColumnFacts", "lowest", "[I", true)
  | 5 => ("EqualHeights$ColumnFacts", "highest", "[I", true)
  | 6 => ("EqualHeights$ColumnFacts", "bucketRows", "[I", true)
  | 7 => ("EqualHeights$ColumnFacts", "unlike", "[I", true)
  | _ => ("EqualHeights$ColumnFacts", "buckets", "I", false)
def tyX2 : Nat → FieldType := fun k => match k with
  | 0 => .array .int
  | 1 => .array .int
  | 2 => .array .int
  | 3 => .int
  | 4 => .array .int
  | 5 => .array .int
  | 6 => .array .int
  | 7 => .array .int
  | _ => .int
abbrev wsX20 : List Cond := u_ws RX2 TX2 9
theorem nmX2 : ∀ a, a < 9 → ∀ b, b < 9 → a ≠ b → (TX2 a).2.1 ≠ (TX2 b).2.1 := by decide +kernel
theorem tyX2_ok : ∀ k, k < 9 → parseFieldDescriptor (TX2 k).2.2.1 = some (tyX2 k) := by decide +kernel
abbrev cX2_init : ByteArray := prog_4_method_1_code
def yX2_init : MethodName := ⟨RX2, "<init>", "()V"⟩
abbrev cX2_learn : ByteArray := prog_4_method_2_code
def yX2_learn : MethodName := ⟨RX2, "learn", "(LEqualHeights$Table;III)V"⟩
abbrev cX2_countValues : ByteArray := prog_4_method_3_code
def yX2_countValues : MethodName := ⟨RX2, "countValues", "(LEqualHeights$Table;I)V"⟩
abbrev cX2_chooseCommon : ByteArray := prog_4_method_4_code
def yX2_chooseCommon : MethodName := ⟨RX2, "chooseCommon", "(I)V"⟩
abbrev cX2_nextRank : ByteArray := prog_4_method_5_code
def yX2_nextRank : MethodName := ⟨RX2, "nextRank", "(I)I"⟩
abbrev cX2_isCommon : ByteArray := prog_4_method_6_code
def yX2_isCommon : MethodName := ⟨RX2, "isCommon", "(I)Z"⟩
abbrev cX2_cutBuckets : ByteArray := prog_4_method_7_code
def yX2_cutBuckets : MethodName := ⟨RX2, "cutBuckets", "(II)V"⟩
abbrev cX2_fullHeight : ByteArray := prog_4_method_8_code
def yX2_fullHeight : MethodName := ⟨RX2, "fullHeight", "(II)I"⟩
abbrev cX2_startBucket : ByteArray := prog_4_method_9_code
def yX2_startBucket : MethodName := ⟨RX2, "startBucket", "(II)V"⟩
abbrev cX2_addToBucket : ByteArray := prog_4_method_10_code
def yX2_addToBucket : MethodName := ⟨RX2, "addToBucket", "(II)V"⟩
abbrev cX2_tellCommon : ByteArray := prog_4_method_11_code
def yX2_tellCommon : MethodName := ⟨RX2, "tellCommon", "(II)I"⟩
abbrev cX2_tellBucket : ByteArray := prog_4_method_12_code
def yX2_tellBucket : MethodName := ⟨RX2, "tellBucket", "(II)I"⟩
abbrev cX2_rowsOfBuckets : ByteArray := prog_4_method_13_code
def yX2_rowsOfBuckets : MethodName := ⟨RX2, "rowsOfBuckets", "()I"⟩
abbrev cX2_rowsOfCommon : ByteArray := prog_4_method_14_code
def yX2_rowsOfCommon : MethodName := ⟨RX2, "rowsOfCommon", "(II)I"⟩
abbrev cX2_guess : ByteArray := prog_4_method_15_code
def yX2_guess : MethodName := ⟨RX2, "guess", "(II)I"⟩
abbrev cX2_least : ByteArray := prog_4_method_16_code
def yX2_least : MethodName := ⟨RX2, "least", "(II)I"⟩
abbrev cX2_most : ByteArray := prog_4_method_17_code
def yX2_most : MethodName := ⟨RX2, "most", "(II)I"⟩
abbrev cX2_miss : ByteArray := prog_4_method_18_code
def yX2_miss : MethodName := ⟨RX2, "miss", "(I)I"⟩
abbrev cX2_worstValue : ByteArray := prog_4_method_19_code
def yX2_worstValue : MethodName := ⟨RX2, "worstValue", "()I"⟩
abbrev cX2_copyFrom : ByteArray := prog_4_method_20_code
def yX2_copyFrom : MethodName := ⟨RX2, "copyFrom", "(LEqualHeights$ColumnFacts;)V"⟩
def RX3 : String := "EqualHeights$History"
def TX3 : u_T := fun k => match k with
  | 0 => ("EqualHeights$History", "ring", "[LEqualHeights$State;", true)
  | 1 => ("EqualHeights$History", "next", "I", false)
  | _ => ("EqualHeights$History", "held", "I", false)
def tyX3 : Nat → FieldType := fun k => match k with
  | 0 => .array (.object "EqualHeights$State")
  | 1 => .int
  | _ => .int
abbrev wsX30 : List Cond := u_ws RX3 TX3 3
theorem nmX3 : ∀ a, a < 3 → ∀ b, b < 3 → a ≠ b → (TX3 a).2.1 ≠ (TX3 b).2.1 := by decide +kernel
theorem tyX3_ok : ∀ k, k < 3 → parseFieldDescriptor (TX3 k).2.2.1 = some (tyX3 k) := by decide +kernel
abbrev cX3_init : ByteArray := prog_5_method_1_code
def yX3_init : MethodName := ⟨RX3, "<init>", "()V"⟩
abbrev cX3_prepare : ByteArray := prog_5_method_2_code
def yX3_prepare : MethodName := ⟨RX3, "prepare", "(LEqualHeights$State;)V"⟩
abbrev cX3_keep : ByteArray := prog_5_method_3_code
def yX3_keep : MethodName := ⟨RX3, "keep", "()V"⟩
abbrev cX3_bringBack : ByteArray := prog_5_method_4_code
def yX3_bringBack : MethodName := ⟨RX3, "bringBack", "(LEqualHeights$State;)V"⟩
def RX4 : String := "EqualHeights$Pad"
def TX4 : u_T := fun k => match k with
  | 0 => ("EqualHeights$Pad", "signs", "[C", true)
  | _ => ("EqualHeights$Pad", "length", "I", false)
def tyX4 : Nat → FieldType := fun k => match k with
  | 0 => .array .char
  | _ => .int
abbrev wsX40 : List Cond := u_ws RX4 TX4 2
theorem nmX4 : ∀ a, a < 2 → ∀ b, b < 2 → a ≠ b → (TX4 a).2.1 ≠ (TX4 b).2.1 := by decide +kernel
theorem tyX4_ok : ∀ k, k < 2 → parseFieldDescriptor (TX4 k).2.2.1 = some (tyX4 k) := by decide +kernel
abbrev cX4_init : ByteArray := prog_6_method_1_code
def yX4_init : MethodName := ⟨RX4, "<init>", "()V"⟩
def RX5 : String := "EqualHeights$PairFacts"
def TX5 : u_T := fun k => match k with
  | 0 => ("EqualHeights$PairFacts", "valueA", "[I", true)
  | 1 => ("EqualHeights$PairFacts", "valueB", "[I", true)
  | 2 => ("EqualHeights$PairFacts", "pairRows", "[I", true)
  | _ => ("EqualHeights$PairFacts", "pairs", "I", false)
def tyX5 : Nat → FieldType := fun k => match k with
  | 0 => .array .int
  | 1 => .array .int
  | 2 => .array .int
  | _ => .int
abbrev wsX50 : List Cond := u_ws RX5 TX5 4
theorem nmX5 : ∀ a, a < 4 → ∀ b, b < 4 → a ≠ b → (TX5 a).2.1 ≠ (TX5 b).2.1 := by decide +kernel
theorem tyX5_ok : ∀ k, k < 4 → parseFieldDescriptor (TX5 k).2.2.1 = some (tyX5 k) := by decide +kernel
abbrev cX5_init : ByteArray := prog_7_method_1_code
def yX5_init : MethodName := ⟨RX5, "<init>", "()V"⟩
abbrev cX5_learn : ByteArray := prog_7_method_2_code
def yX5_learn : MethodName := ⟨RX5, "learn", "(LEqualHeights$Table;I)V"⟩
abbrev cX5_nextRank : ByteArray := prog_7_method_3_code
def yX5_nextRank : MethodName := ⟨RX5, "nextRank", "(LEqualHeights$Table;I)I"⟩
abbrev cX5_rowsInside : ByteArray := prog_7_method_5_code
def yX5_rowsInside : MethodName := ⟨RX5, "rowsInside", "(IIII)I"⟩
abbrev cX5_copyFrom : ByteArray := prog_7_method_6_code
def yX5_copyFrom : MethodName := ⟨RX5, "copyFrom", "(LEqualHeights$PairFacts;)V"⟩
def RX6 : String := "EqualHeights$Reader"
def TX6 : u_T := fun k => match k with
  | 0 => ("EqualHeights$Reader", "pad", "LEqualHeights$Pad;", true)
  | 1 => ("EqualHeights$Reader", "at", "I", false)
  | 2 => ("EqualHeights$Reader", "kind", "C", false)
  | 3 => ("EqualHeights$Reader", "first", "I", false)
  | 4 => ("EqualHeights$Reader", "second", "I", false)
  | _ => ("EqualHeights$Reader", "times", "I", false)
def tyX6 : Nat → FieldType := fun k => match k with
  | 0 => .object "EqualHeights$Pad"
  | 1 => .int
  | 2 => .char
  | 3 => .int
  | 4 => .int
  | _ => .int
abbrev wsX60 : List Cond := u_ws RX6 TX6 6
theorem nmX6 : ∀ a, a < 6 → ∀ b, b < 6 → a ≠ b → (TX6 a).2.1 ≠ (TX6 b).2.1 := by decide +kernel
theorem tyX6_ok : ∀ k, k < 6 → parseFieldDescriptor (TX6 k).2.2.1 = some (tyX6 k) := by decide +kernel
abbrev cX6_init : ByteArray := prog_8_method_1_code
def yX6_init : MethodName := ⟨RX6, "<init>", "(LEqualHeights$Pad;)V"⟩
def RX7 : String := "EqualHeights$State"
def TX7 : u_T := fun k => match k with
  | 0 => ("EqualHeights$State", "settings", "[I", true)
  | 1 => ("EqualHeights$State", "table", "LEqualHeights$Table;", true)
  | _ => ("EqualHeights$State", "analysis", "LEqualHeights$Analysis;", true)
def tyX7 : Nat → FieldType := fun k => match k with
  | 0 => .array .int
  | 1 => .object "EqualHeights$Table"
  | _ => .object "EqualHeights$Analysis"
abbrev wsX70 : List Cond := u_ws RX7 TX7 3
theorem nmX7 : ∀ a, a < 3 → ∀ b, b < 3 → a ≠ b → (TX7 a).2.1 ≠ (TX7 b).2.1 := by decide +kernel
theorem tyX7_ok : ∀ k, k < 3 → parseFieldDescriptor (TX7 k).2.2.1 = some (tyX7 k) := by decide +kernel
abbrev cX7_init : ByteArray := prog_9_method_1_code
def yX7_init : MethodName := ⟨RX7, "<init>", "()V"⟩
abbrev cX7_setting : ByteArray := prog_9_method_2_code
def yX7_setting : MethodName := ⟨RX7, "setting", "(I)I"⟩
abbrev cX7_change : ByteArray := prog_9_method_3_code
def yX7_change : MethodName := ⟨RX7, "change", "(II)I"⟩
abbrev cX7_isInRange : ByteArray := prog_9_method_4_code
def yX7_isInRange : MethodName := ⟨RX7, "isInRange", "(II)Z"⟩
abbrev cX7_addRow : ByteArray := prog_9_method_5_code
def yX7_addRow : MethodName := ⟨RX7, "addRow", "(II)I"⟩
abbrev cX7_dropRow : ByteArray := prog_9_method_7_code
def yX7_dropRow : MethodName := ⟨RX7, "dropRow", "(I)I"⟩
abbrev cX7_makeAnalysis : ByteArray := prog_9_method_8_code
def yX7_makeAnalysis : MethodName := ⟨RX7, "makeAnalysis", "()I"⟩
abbrev cX7_scale : ByteArray := prog_9_method_9_code
def yX7_scale : MethodName := ⟨RX7, "scale", "(I)I"⟩
abbrev cX7_copyFrom : ByteArray := prog_9_method_10_code
def yX7_copyFrom : MethodName := ⟨RX7, "copyFrom", "(LEqualHeights$State;)V"⟩
def RX8 : String := "EqualHeights$Table"
def TX8 : u_T := fun k => match k with
  | 0 => ("EqualHeights$Table", "a", "[I", true)
  | 1 => ("EqualHeights$Table", "b", "[I", true)
  | _ => ("EqualHeights$Table", "size", "I", false)
def tyX8 : Nat → FieldType := fun k => match k with
  | 0 => .array .int
  | 1 => .array .int
  | _ => .int
abbrev wsX80 : List Cond := u_ws RX8 TX8 3
theorem nmX8 : ∀ a, a < 3 → ∀ b, b < 3 → a ≠ b → (TX8 a).2.1 ≠ (TX8 b).2.1 := by decide +kernel
theorem tyX8_ok : ∀ k, k < 3 → parseFieldDescriptor (TX8 k).2.2.1 = some (tyX8 k) := by decide +kernel
abbrev cX8_init : ByteArray := prog_10_method_1_code
def yX8_init : MethodName := ⟨RX8, "<init>", "()V"⟩
abbrev cX8_isFull : ByteArray := prog_10_method_2_code
def yX8_isFull : MethodName := ⟨RX8, "isFull", "()Z"⟩
abbrev cX8_hasRow : ByteArray := prog_10_method_3_code
def yX8_hasRow : MethodName := ⟨RX8, "hasRow", "(I)Z"⟩
abbrev cX8_value : ByteArray := prog_10_method_4_code
def yX8_value : MethodName := ⟨RX8, "value", "(II)I"⟩
abbrev cX8_add : ByteArray := prog_10_method_5_code
def yX8_add : MethodName := ⟨RX8, "add", "(II)V"⟩
abbrev cX8_drop : ByteArray := prog_10_method_6_code
def yX8_drop : MethodName := ⟨RX8, "drop", "(I)V"⟩
abbrev cX8_rowsInside : ByteArray := prog_10_method_7_code
def yX8_rowsInside : MethodName := ⟨RX8, "rowsInside", "(III)I"⟩
abbrev cX8_rowsInsideBoth : ByteArray := prog_10_method_8_code
def yX8_rowsInsideBoth : MethodName := ⟨RX8, "rowsInsideBoth", "(IIII)I"⟩
abbrev cX8_rowsLike : ByteArray := prog_10_method_9_code
def yX8_rowsLike : MethodName := ⟨RX8, "rowsLike", "(I)I"⟩
abbrev cX8_copyFrom : ByteArray := prog_10_method_10_code
def yX8_copyFrom : MethodName := ⟨RX8, "copyFrom", "(LEqualHeights$Table;)V"⟩
def RX9 : String := "EqualHeights"
def TX9 : u_T := fun k => match k with
  | 0 => ("EqualHeights", "now", "LEqualHeights$State;", true)
  | 1 => ("EqualHeights", "slots", "[LEqualHeights$State;", true)
  | 2 => ("EqualHeights", "history", "LEqualHeights$History;", true)
  | 3 => ("EqualHeights", "pad", "LEqualHeights$Pad;", true)
  | 4 => ("EqualHeights", "reader", "LEqualHeights$Reader;", true)
  | _ => ("EqualHeights", "trial", "LEqualHeights$ColumnFacts;", true)
def tyX9 : Nat → FieldType := fun k => match k with
  | 0 => .object "EqualHeights$State"
  | 1 => .array (.object "EqualHeights$State")
  | 2 => .object "EqualHeights$History"
  | 3 => .object "EqualHeights$Pad"
  | 4 => .object "EqualHeights$Reader"
  | _ => .object "EqualHeights$ColumnFacts"
abbrev wsX90 : List Cond := u_ws RX9 TX9 6
theorem nmX9 : ∀ a, a < 6 → ∀ b, b < 6 → a ≠ b → (TX9 a).2.1 ≠ (TX9 b).2.1 := by decide +kernel
theorem tyX9_ok : ∀ k, k < 6 → parseFieldDescriptor (TX9 k).2.2.1 = some (tyX9 k) := by decide +kernel
abbrev cX9_init : ByteArray := prog_1_method_1_code
def yX9_init : MethodName := ⟨RX9, "<init>", "()V"⟩
abbrev cX9_set : ByteArray := prog_1_method_2_code
def yX9_set : MethodName := ⟨RX9, "set", "(II)I"⟩
abbrev cX9_insert : ByteArray := prog_1_method_3_code
def yX9_insert : MethodName := ⟨RX9, "insert", "(II)I"⟩
abbrev cX9_remove : ByteArray := prog_1_method_4_code
def yX9_remove : MethodName := ⟨RX9, "remove", "(I)I"⟩
abbrev cX9_analyse : ByteArray := prog_1_method_5_code
def yX9_analyse : MethodName := ⟨RX9, "analyse", "()I"⟩
abbrev cX9_bucket : ByteArray := prog_1_method_7_code
def yX9_bucket : MethodName := ⟨RX9, "bucket", "(III)I"⟩
abbrev cX9_common : ByteArray := prog_1_method_8_code
def yX9_common : MethodName := ⟨RX9, "common", "(III)I"⟩
abbrev cX9_count : ByteArray := prog_1_method_10_code
def yX9_count : MethodName := ⟨RX9, "count", "(I)I"⟩
abbrev cX9_tellStale : ByteArray := prog_1_method_11_code
def yX9_tellStale : MethodName := ⟨RX9, "tellStale", "()I"⟩
abbrev cX9_estimate : ByteArray := prog_1_method_12_code
def yX9_estimate : MethodName := ⟨RX9, "estimate", "(IIII)I"⟩
abbrev cX9_both : ByteArray := prog_1_method_13_code
def yX9_both : MethodName := ⟨RX9, "both", "(IIIII)I"⟩
abbrev cX9_share : ByteArray := prog_1_method_14_code
def yX9_share : MethodName := ⟨RX9, "share", "(III)I"⟩
abbrev cX9_height : ByteArray := prog_1_method_15_code
def yX9_height : MethodName := ⟨RX9, "height", "(I)J"⟩
abbrev cX9_worst : ByteArray := prog_1_method_16_code
def yX9_worst : MethodName := ⟨RX9, "worst", "(II)I"⟩
abbrev cX9_undo : ByteArray := prog_1_method_23_code
def yX9_undo : MethodName := ⟨RX9, "undo", "()I"⟩
abbrev cX9_recorded : ByteArray := prog_1_method_26_code
def yX9_recorded : MethodName := ⟨RX9, "recorded", "(I)I"⟩
abbrev cX9_isBetween : ByteArray := prog_1_method_27_code
def yX9_isBetween : MethodName := ⟨RX9, "isBetween", "(III)Z"⟩
abbrev cX9_isColumn : ByteArray := prog_1_method_28_code
def yX9_isColumn : MethodName := ⟨RX9, "isColumn", "(I)Z"⟩
abbrev cX9_isValue : ByteArray := prog_1_method_29_code
def yX9_isValue : MethodName := ⟨RX9, "isValue", "(I)Z"⟩
abbrev cX9_areBounds : ByteArray := prog_1_method_30_code
def yX9_areBounds : MethodName := ⟨RX9, "areBounds", "(II)Z"⟩
abbrev cX9_copyNumbers : ByteArray := prog_1_method_31_code
def yX9_copyNumbers : MethodName := ⟨RX9, "copyNumbers", "([I[I)V"⟩
def RX10 : String := "EqualHeightsModel"
def TX10 : u_T := fun k => match k with
  | _ => ("", "", "", false)
def tyX10 : Nat → FieldType := fun k => match k with
  | _ => .int
abbrev wsX100 : List Cond := u_ws RX10 TX10 0
theorem nmX10 : ∀ a, a < 0 → ∀ b, b < 0 → a ≠ b → (TX10 a).2.1 ≠ (TX10 b).2.1 := by decide +kernel
theorem tyX10_ok : ∀ k, k < 0 → parseFieldDescriptor (TX10 k).2.2.1 = some (tyX10 k) := by decide +kernel
def RJ9 : String := "java/lang/Math"
def TJ9 : u_T := fun k => match k with
  | _ => ("", "", "", false)
def tyJ9 : Nat → FieldType := fun k => match k with
  | _ => .int
abbrev wsJ90 : List Cond := u_ws RJ9 TJ9 0
theorem nmJ9 : ∀ a, a < 0 → ∀ b, b < 0 → a ≠ b → (TJ9 a).2.1 ≠ (TJ9 b).2.1 := by decide +kernel
theorem tyJ9_ok : ∀ k, k < 0 → parseFieldDescriptor (TJ9 k).2.2.1 = some (tyJ9 k) := by decide +kernel
abbrev cJ9_abs_0f7a4 : ByteArray := prog_13_method_59_code
def yJ9_abs_0f7a4 : MethodName := ⟨RJ9, "abs", "(I)I"⟩
abbrev cJ9_max_7cf53 : ByteArray := prog_13_method_65_code
def yJ9_max_7cf53 : MethodName := ⟨RJ9, "max", "(II)I"⟩
abbrev cJ9_min_7cf53 : ByteArray := prog_13_method_69_code
def yJ9_min_7cf53 : MethodName := ⟨RJ9, "min", "(II)I"⟩
def RL : String := "EqualHeightsLaw"
abbrev cL_low : ByteArray := method_2_code
def yL_low : MethodName := ⟨RL, "low", "(II)I"⟩
abbrev cL_cell : ByteArray := method_3_code
def yL_cell : MethodName := ⟨RL, "cell", "([II)I"⟩
abbrev cL_column : ByteArray := method_4_code
def yL_column : MethodName := ⟨RL, "column", "(LEqualHeights;I)Z"⟩
abbrev cL_estimates : ByteArray := method_5_code
def yL_estimates : MethodName := ⟨RL, "estimates", "(LEqualHeights;II)Z"⟩
abbrev cL_act : ByteArray := method_6_code
def yL_act : MethodName := ⟨RL, "act", "(LEqualHeights;[II)I"⟩
abbrev cL_law : ByteArray := code
def yL_law : MethodName := ⟨RL, "law", "([I)Z"⟩
abbrev vwCl : List vw_C := [(RX0, TX0, 5), (RX2, TX2, 9), (RX3, TX3, 3), (RX4, TX4, 2), (RX5, TX5, 4), (RX6, TX6, 6), (RX7, TX7, 3), (RX8, TX8, 3), (RX9, TX9, 6)]
