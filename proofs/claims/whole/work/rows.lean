section
/-- a private method of a class that the tables say can be made, by its rows of tables_1 -/
def lw_okq (q : MethodName × Nat) : Prop := (q.1.cls ≠ "java/lang/invoke/MethodHandle" ∧ q.1.cls ≠ "java/lang/invoke/VarHandle") ∧ Cond.instantiable q.1.cls q.2 ∈ tables_1 ∧ Cond.privateMethod q.1 ∈ tables_1 ∧ Cond.instanceMethod q.1 ∈ tables_1
theorem lw_p0 : lw_okq (⟨"EqualHeights", "recorded", "(I)I"⟩, 6) := ⟨⟨by decide +kernel, by decide +kernel⟩, List.mem_of_getElem? (i := 16) (by decide +kernel), List.mem_of_getElem? (i := 276) (by decide +kernel), List.mem_of_getElem? (i := 277) (by decide +kernel)⟩
theorem lw_p1 : lw_okq (⟨"EqualHeights$ColumnFacts", "countValues", "(LEqualHeights$Table;I)V"⟩, 9) := ⟨⟨by decide +kernel, by decide +kernel⟩, List.mem_of_getElem? (i := 58) (by decide +kernel), List.mem_of_getElem? (i := 353) (by decide +kernel), List.mem_of_getElem? (i := 354) (by decide +kernel)⟩
theorem lw_p2 : lw_okq (⟨"EqualHeights$ColumnFacts", "chooseCommon", "(I)V"⟩, 9) := ⟨⟨by decide +kernel, by decide +kernel⟩, List.mem_of_getElem? (i := 58) (by decide +kernel), List.mem_of_getElem? (i := 361) (by decide +kernel), List.mem_of_getElem? (i := 362) (by decide +kernel)⟩
theorem lw_p3 : lw_okq (⟨"EqualHeights$ColumnFacts", "nextRank", "(I)I"⟩, 9) := ⟨⟨by decide +kernel, by decide +kernel⟩, List.mem_of_getElem? (i := 58) (by decide +kernel), List.mem_of_getElem? (i := 366) (by decide +kernel), List.mem_of_getElem? (i := 367) (by decide +kernel)⟩
theorem lw_p4 : lw_okq (⟨"EqualHeights$ColumnFacts", "cutBuckets", "(II)V"⟩, 9) := ⟨⟨by decide +kernel, by decide +kernel⟩, List.mem_of_getElem? (i := 58) (by decide +kernel), List.mem_of_getElem? (i := 370) (by decide +kernel), List.mem_of_getElem? (i := 371) (by decide +kernel)⟩
theorem lw_p5 : lw_okq (⟨"EqualHeights$ColumnFacts", "isCommon", "(I)Z"⟩, 9) := ⟨⟨by decide +kernel, by decide +kernel⟩, List.mem_of_getElem? (i := 58) (by decide +kernel), List.mem_of_getElem? (i := 375) (by decide +kernel), List.mem_of_getElem? (i := 376) (by decide +kernel)⟩
theorem lw_p6 : lw_okq (⟨"EqualHeights$ColumnFacts", "fullHeight", "(II)I"⟩, 9) := ⟨⟨by decide +kernel, by decide +kernel⟩, List.mem_of_getElem? (i := 58) (by decide +kernel), List.mem_of_getElem? (i := 379) (by decide +kernel), List.mem_of_getElem? (i := 380) (by decide +kernel)⟩
theorem lw_p7 : lw_okq (⟨"EqualHeights$ColumnFacts", "startBucket", "(II)V"⟩, 9) := ⟨⟨by decide +kernel, by decide +kernel⟩, List.mem_of_getElem? (i := 58) (by decide +kernel), List.mem_of_getElem? (i := 383) (by decide +kernel), List.mem_of_getElem? (i := 384) (by decide +kernel)⟩
theorem lw_p8 : lw_okq (⟨"EqualHeights$ColumnFacts", "addToBucket", "(II)V"⟩, 9) := ⟨⟨by decide +kernel, by decide +kernel⟩, List.mem_of_getElem? (i := 58) (by decide +kernel), List.mem_of_getElem? (i := 387) (by decide +kernel), List.mem_of_getElem? (i := 388) (by decide +kernel)⟩
theorem lw_p9 : lw_okq (⟨"EqualHeights", "tellStale", "()I"⟩, 6) := ⟨⟨by decide +kernel, by decide +kernel⟩, List.mem_of_getElem? (i := 16) (by decide +kernel), List.mem_of_getElem? (i := 445) (by decide +kernel), List.mem_of_getElem? (i := 446) (by decide +kernel)⟩
theorem lw_p10 : lw_okq (⟨"EqualHeights$ColumnFacts", "rowsOfCommon", "(II)I"⟩, 9) := ⟨⟨by decide +kernel, by decide +kernel⟩, List.mem_of_getElem? (i := 58) (by decide +kernel), List.mem_of_getElem? (i := 476) (by decide +kernel), List.mem_of_getElem? (i := 477) (by decide +kernel)⟩
theorem lw_p11 : lw_okq (⟨"EqualHeights$Reader", "readRow", "()Z"⟩, 6) := ⟨⟨by decide +kernel, by decide +kernel⟩, List.mem_of_getElem? (i := 181) (by decide +kernel), List.mem_of_getElem? (i := 599) (by decide +kernel), List.mem_of_getElem? (i := 600) (by decide +kernel)⟩
theorem lw_p12 : lw_okq (⟨"EqualHeights$Reader", "readNumber", "()I"⟩, 6) := ⟨⟨by decide +kernel, by decide +kernel⟩, List.mem_of_getElem? (i := 181) (by decide +kernel), List.mem_of_getElem? (i := 603) (by decide +kernel), List.mem_of_getElem? (i := 604) (by decide +kernel)⟩
theorem lw_p13 : lw_okq (⟨"EqualHeights$Reader", "readDigit", "()I"⟩, 6) := ⟨⟨by decide +kernel, by decide +kernel⟩, List.mem_of_getElem? (i := 181) (by decide +kernel), List.mem_of_getElem? (i := 607) (by decide +kernel), List.mem_of_getElem? (i := 608) (by decide +kernel)⟩
theorem lw_p14 : lw_okq (⟨"EqualHeights$Reader", "readTimes", "()Z"⟩, 6) := ⟨⟨by decide +kernel, by decide +kernel⟩, List.mem_of_getElem? (i := 181) (by decide +kernel), List.mem_of_getElem? (i := 615) (by decide +kernel), List.mem_of_getElem? (i := 616) (by decide +kernel)⟩
theorem lw_p15 : lw_okq (⟨"EqualHeights", "followOrder", "()I"⟩, 6) := ⟨⟨by decide +kernel, by decide +kernel⟩, List.mem_of_getElem? (i := 16) (by decide +kernel), List.mem_of_getElem? (i := 625) (by decide +kernel), List.mem_of_getElem? (i := 626) (by decide +kernel)⟩
def lw_privs_1 : List (MethodName × Nat) := [(⟨"EqualHeights", "recorded", "(I)I"⟩, 6), (⟨"EqualHeights$ColumnFacts", "countValues", "(LEqualHeights$Table;I)V"⟩, 9), (⟨"EqualHeights$ColumnFacts", "chooseCommon", "(I)V"⟩, 9), (⟨"EqualHeights$ColumnFacts", "nextRank", "(I)I"⟩, 9), (⟨"EqualHeights$ColumnFacts", "cutBuckets", "(II)V"⟩, 9), (⟨"EqualHeights$ColumnFacts", "isCommon", "(I)Z"⟩, 9), (⟨"EqualHeights$ColumnFacts", "fullHeight", "(II)I"⟩, 9), (⟨"EqualHeights$ColumnFacts", "startBucket", "(II)V"⟩, 9), (⟨"EqualHeights$ColumnFacts", "addToBucket", "(II)V"⟩, 9), (⟨"EqualHeights", "tellStale", "()I"⟩, 6), (⟨"EqualHeights$ColumnFacts", "rowsOfCommon", "(II)I"⟩, 9), (⟨"EqualHeights$Reader", "readRow", "()Z"⟩, 6), (⟨"EqualHeights$Reader", "readNumber", "()I"⟩, 6), (⟨"EqualHeights$Reader", "readDigit", "()I"⟩, 6), (⟨"EqualHeights$Reader", "readTimes", "()Z"⟩, 6), (⟨"EqualHeights", "followOrder", "()I"⟩, 6)]
theorem lw_r1 : ∀ q ∈ lw_privs_1, lw_okq q := List.forall_mem_cons.mpr ⟨lw_p0, List.forall_mem_cons.mpr ⟨lw_p1, List.forall_mem_cons.mpr ⟨lw_p2, List.forall_mem_cons.mpr ⟨lw_p3, List.forall_mem_cons.mpr ⟨lw_p4, List.forall_mem_cons.mpr ⟨lw_p5, List.forall_mem_cons.mpr ⟨lw_p6, List.forall_mem_cons.mpr ⟨lw_p7, List.forall_mem_cons.mpr ⟨lw_p8, List.forall_mem_cons.mpr ⟨lw_p9, List.forall_mem_cons.mpr ⟨lw_p10, List.forall_mem_cons.mpr ⟨lw_p11, List.forall_mem_cons.mpr ⟨lw_p12, List.forall_mem_cons.mpr ⟨lw_p13, List.forall_mem_cons.mpr ⟨lw_p14, List.forall_mem_cons.mpr ⟨lw_p15, fun _ h => absurd h List.not_mem_nil⟩⟩⟩⟩⟩⟩⟩⟩⟩⟩⟩⟩⟩⟩⟩⟩
theorem lw_p16 : lw_okq (⟨"EqualHeightsModel", "records", "()V"⟩, 12) := ⟨⟨by decide +kernel, by decide +kernel⟩, List.mem_of_getElem? (i := 652) (by decide +kernel), List.mem_of_getElem? (i := 714) (by decide +kernel), List.mem_of_getElem? (i := 715) (by decide +kernel)⟩
theorem lw_p17 : lw_okq (⟨"EqualHeightsModel", "truly", "(III)I"⟩, 12) := ⟨⟨by decide +kernel, by decide +kernel⟩, List.mem_of_getElem? (i := 652) (by decide +kernel), List.mem_of_getElem? (i := 731) (by decide +kernel), List.mem_of_getElem? (i := 732) (by decide +kernel)⟩
theorem lw_p18 : lw_okq (⟨"EqualHeightsModel", "scaled", "(I)I"⟩, 12) := ⟨⟨by decide +kernel, by decide +kernel⟩, List.mem_of_getElem? (i := 652) (by decide +kernel), List.mem_of_getElem? (i := 741) (by decide +kernel), List.mem_of_getElem? (i := 742) (by decide +kernel)⟩
theorem lw_p19 : lw_okq (⟨"EqualHeightsModel", "bothOf", "(IIII)I"⟩, 12) := ⟨⟨by decide +kernel, by decide +kernel⟩, List.mem_of_getElem? (i := 652) (by decide +kernel), List.mem_of_getElem? (i := 749) (by decide +kernel), List.mem_of_getElem? (i := 750) (by decide +kernel)⟩
theorem lw_p20 : lw_okq (⟨"EqualHeightsModel", "paired", "(IIII)I"⟩, 12) := ⟨⟨by decide +kernel, by decide +kernel⟩, List.mem_of_getElem? (i := 652) (by decide +kernel), List.mem_of_getElem? (i := 753) (by decide +kernel), List.mem_of_getElem? (i := 754) (by decide +kernel)⟩
theorem lw_p21 : lw_okq (⟨"EqualHeightsModel", "analyses", "([I)V"⟩, 12) := ⟨⟨by decide +kernel, by decide +kernel⟩, List.mem_of_getElem? (i := 652) (by decide +kernel), List.mem_of_getElem? (i := 803) (by decide +kernel), List.mem_of_getElem? (i := 804) (by decide +kernel)⟩
theorem lw_p22 : lw_okq (⟨"EqualHeightsModel", "chooses", "([II)V"⟩, 12) := ⟨⟨by decide +kernel, by decide +kernel⟩, List.mem_of_getElem? (i := 652) (by decide +kernel), List.mem_of_getElem? (i := 807) (by decide +kernel), List.mem_of_getElem? (i := 808) (by decide +kernel)⟩
theorem lw_p23 : lw_okq (⟨"EqualHeightsModel", "cuts", "([II)V"⟩, 12) := ⟨⟨by decide +kernel, by decide +kernel⟩, List.mem_of_getElem? (i := 652) (by decide +kernel), List.mem_of_getElem? (i := 811) (by decide +kernel), List.mem_of_getElem? (i := 812) (by decide +kernel)⟩
theorem lw_p24 : lw_okq (⟨"EqualHeightsModel", "sets", "(II)I"⟩, 12) := ⟨⟨by decide +kernel, by decide +kernel⟩, List.mem_of_getElem? (i := 652) (by decide +kernel), List.mem_of_getElem? (i := 831) (by decide +kernel), List.mem_of_getElem? (i := 832) (by decide +kernel)⟩
theorem lw_p25 : lw_okq (⟨"EqualHeightsModel", "mayCome", "(II)I"⟩, 12) := ⟨⟨by decide +kernel, by decide +kernel⟩, List.mem_of_getElem? (i := 652) (by decide +kernel), List.mem_of_getElem? (i := 839) (by decide +kernel), List.mem_of_getElem? (i := 840) (by decide +kernel)⟩
theorem lw_p26 : lw_okq (⟨"EqualHeightsModel", "comes", "(II)I"⟩, 12) := ⟨⟨by decide +kernel, by decide +kernel⟩, List.mem_of_getElem? (i := 652) (by decide +kernel), List.mem_of_getElem? (i := 843) (by decide +kernel), List.mem_of_getElem? (i := 844) (by decide +kernel)⟩
theorem lw_p27 : lw_okq (⟨"EqualHeightsModel", "isRow", "(I)Z"⟩, 12) := ⟨⟨by decide +kernel, by decide +kernel⟩, List.mem_of_getElem? (i := 652) (by decide +kernel), List.mem_of_getElem? (i := 851) (by decide +kernel), List.mem_of_getElem? (i := 852) (by decide +kernel)⟩
theorem lw_p28 : lw_okq (⟨"EqualHeightsModel", "goes", "(I)I"⟩, 12) := ⟨⟨by decide +kernel, by decide +kernel⟩, List.mem_of_getElem? (i := 652) (by decide +kernel), List.mem_of_getElem? (i := 855) (by decide +kernel), List.mem_of_getElem? (i := 856) (by decide +kernel)⟩
theorem lw_p29 : lw_okq (⟨"EqualHeightsModel", "isText", "()Z"⟩, 12) := ⟨⟨by decide +kernel, by decide +kernel⟩, List.mem_of_getElem? (i := 652) (by decide +kernel), List.mem_of_getElem? (i := 902) (by decide +kernel), List.mem_of_getElem? (i := 903) (by decide +kernel)⟩
theorem lw_p30 : lw_okq (⟨"EqualHeightsModel", "isOrder", "()Z"⟩, 12) := ⟨⟨by decide +kernel, by decide +kernel⟩, List.mem_of_getElem? (i := 652) (by decide +kernel), List.mem_of_getElem? (i := 906) (by decide +kernel), List.mem_of_getElem? (i := 907) (by decide +kernel)⟩
theorem lw_p31 : lw_okq (⟨"EqualHeightsModel", "isComing", "()Z"⟩, 12) := ⟨⟨by decide +kernel, by decide +kernel⟩, List.mem_of_getElem? (i := 652) (by decide +kernel), List.mem_of_getElem? (i := 910) (by decide +kernel), List.mem_of_getElem? (i := 911) (by decide +kernel)⟩
def lw_privs_2 : List (MethodName × Nat) := [(⟨"EqualHeightsModel", "records", "()V"⟩, 12), (⟨"EqualHeightsModel", "truly", "(III)I"⟩, 12), (⟨"EqualHeightsModel", "scaled", "(I)I"⟩, 12), (⟨"EqualHeightsModel", "bothOf", "(IIII)I"⟩, 12), (⟨"EqualHeightsModel", "paired", "(IIII)I"⟩, 12), (⟨"EqualHeightsModel", "analyses", "([I)V"⟩, 12), (⟨"EqualHeightsModel", "chooses", "([II)V"⟩, 12), (⟨"EqualHeightsModel", "cuts", "([II)V"⟩, 12), (⟨"EqualHeightsModel", "sets", "(II)I"⟩, 12), (⟨"EqualHeightsModel", "mayCome", "(II)I"⟩, 12), (⟨"EqualHeightsModel", "comes", "(II)I"⟩, 12), (⟨"EqualHeightsModel", "isRow", "(I)Z"⟩, 12), (⟨"EqualHeightsModel", "goes", "(I)I"⟩, 12), (⟨"EqualHeightsModel", "isText", "()Z"⟩, 12), (⟨"EqualHeightsModel", "isOrder", "()Z"⟩, 12), (⟨"EqualHeightsModel", "isComing", "()Z"⟩, 12)]
theorem lw_r2 : ∀ q ∈ lw_privs_2, lw_okq q := List.forall_mem_cons.mpr ⟨lw_p16, List.forall_mem_cons.mpr ⟨lw_p17, List.forall_mem_cons.mpr ⟨lw_p18, List.forall_mem_cons.mpr ⟨lw_p19, List.forall_mem_cons.mpr ⟨lw_p20, List.forall_mem_cons.mpr ⟨lw_p21, List.forall_mem_cons.mpr ⟨lw_p22, List.forall_mem_cons.mpr ⟨lw_p23, List.forall_mem_cons.mpr ⟨lw_p24, List.forall_mem_cons.mpr ⟨lw_p25, List.forall_mem_cons.mpr ⟨lw_p26, List.forall_mem_cons.mpr ⟨lw_p27, List.forall_mem_cons.mpr ⟨lw_p28, List.forall_mem_cons.mpr ⟨lw_p29, List.forall_mem_cons.mpr ⟨lw_p30, List.forall_mem_cons.mpr ⟨lw_p31, fun _ h => absurd h List.not_mem_nil⟩⟩⟩⟩⟩⟩⟩⟩⟩⟩⟩⟩⟩⟩⟩⟩
theorem lw_p32 : lw_okq (⟨"EqualHeightsModel", "isNumber", "(I)Z"⟩, 12) := ⟨⟨by decide +kernel, by decide +kernel⟩, List.mem_of_getElem? (i := 652) (by decide +kernel), List.mem_of_getElem? (i := 914) (by decide +kernel), List.mem_of_getElem? (i := 915) (by decide +kernel)⟩
theorem lw_p33 : lw_okq (⟨"EqualHeightsModel", "isAt", "(II)Z"⟩, 12) := ⟨⟨by decide +kernel, by decide +kernel⟩, List.mem_of_getElem? (i := 652) (by decide +kernel), List.mem_of_getElem? (i := 918) (by decide +kernel), List.mem_of_getElem? (i := 919) (by decide +kernel)⟩
theorem lw_p34 : lw_okq (⟨"EqualHeightsModel", "isSign", "(I)Z"⟩, 12) := ⟨⟨by decide +kernel, by decide +kernel⟩, List.mem_of_getElem? (i := 652) (by decide +kernel), List.mem_of_getElem? (i := 922) (by decide +kernel), List.mem_of_getElem? (i := 923) (by decide +kernel)⟩
theorem lw_p35 : lw_okq (⟨"EqualHeightsModel", "does", "(I)Z"⟩, 12) := ⟨⟨by decide +kernel, by decide +kernel⟩, List.mem_of_getElem? (i := 652) (by decide +kernel), List.mem_of_getElem? (i := 930) (by decide +kernel), List.mem_of_getElem? (i := 931) (by decide +kernel)⟩
theorem lw_p36 : lw_okq (⟨"EqualHeightsModel", "comeOften", "(III)Z"⟩, 12) := ⟨⟨by decide +kernel, by decide +kernel⟩, List.mem_of_getElem? (i := 652) (by decide +kernel), List.mem_of_getElem? (i := 934) (by decide +kernel), List.mem_of_getElem? (i := 935) (by decide +kernel)⟩
def lw_privs_3 : List (MethodName × Nat) := [(⟨"EqualHeightsModel", "isNumber", "(I)Z"⟩, 12), (⟨"EqualHeightsModel", "isAt", "(II)Z"⟩, 12), (⟨"EqualHeightsModel", "isSign", "(I)Z"⟩, 12), (⟨"EqualHeightsModel", "does", "(I)Z"⟩, 12), (⟨"EqualHeightsModel", "comeOften", "(III)Z"⟩, 12)]
theorem lw_r3 : ∀ q ∈ lw_privs_3, lw_okq q := List.forall_mem_cons.mpr ⟨lw_p32, List.forall_mem_cons.mpr ⟨lw_p33, List.forall_mem_cons.mpr ⟨lw_p34, List.forall_mem_cons.mpr ⟨lw_p35, List.forall_mem_cons.mpr ⟨lw_p36, fun _ h => absurd h List.not_mem_nil⟩⟩⟩⟩⟩
def lw_privs : List (MethodName × Nat) := lw_privs_1 ++ (lw_privs_2 ++ (lw_privs_3))
def lw_tbl : List Cond := k2_sels lw_privs ++ tables_1
theorem lw_privs_ok : ∀ q ∈ lw_privs, lw_okq q := by
  show ∀ q ∈ lw_privs_1 ++ (lw_privs_2 ++ (lw_privs_3)), lw_okq q
  exact List.forall_mem_append.mpr ⟨lw_r1, List.forall_mem_append.mpr ⟨lw_r2, lw_r3⟩⟩
/-- the streams that the claim lets the run draw from -/
abbrev lw_cs : List Choice := [Jvm.Choice.named "NaN.bits"]
theorem lw_bits : nanBits ∈ lw_cs := by first | decide | exact List.mem_cons_self | simp [lw_cs, nanBits]
def RX0 : String := "EqualHeights$Analysis"
def TX0 : u_T := fun k => match k with
  | 0 => ("EqualHeights$Analysis", "a", "LEqualHeights$ColumnFacts;", true)
  | 1 => ("EqualHeights$Analysis", "b", "LEqualHeights$ColumnFacts;", true)
  | 2 => ("EqualHeights$Analysis", "pairs", "LEqualHeights$PairFacts;", true)
  | 3 => ("EqualHeights$Analysis", "rows", "I", false)
  | _ => ("EqualHeights$Analysis", "changes", "I", false)
def tyX0 : Nat → FieldType := fun k => match k with
  | 0 => .object "EqualHeights$ColumnFacts"
  | 1 => .object "EqualHeights$ColumnFacts"
  | 2 => .object "EqualHeights$PairFacts"
  | 3 => .int
  | _ => .int
abbrev wsX00 : List Cond := u_ws RX0 TX0 5
theorem nmX0 : ∀ a, a < 5 → ∀ b, b < 5 → a ≠ b → (TX0 a).2.1 ≠ (TX0 b).2.1 := by decide +kernel
theorem tyX0_ok : ∀ k, k < 5 → parseFieldDescriptor (TX0 k).2.2.1 = some (tyX0 k) := by decide +kernel
abbrev cX0_init : ByteArray := prog_2_method_1_code
def yX0_init : MethodName := ⟨RX0, "<init>", "()V"⟩
abbrev cX0_isMade : ByteArray := prog_2_method_2_code
def yX0_isMade : MethodName := ⟨RX0, "isMade", "()Z"⟩
abbrev cX0_facts : ByteArray := prog_2_method_3_code
def yX0_facts : MethodName := ⟨RX0, "facts", "(I)LEqualHeights$ColumnFacts;"⟩
abbrev cX0_learn : ByteArray := prog_2_method_4_code
def yX0_learn : MethodName := ⟨RX0, "learn", "(LEqualHeights$Table;III)V"⟩
abbrev cX0_noteChange : ByteArray := prog_2_method_5_code
def yX0_noteChange : MethodName := ⟨RX0, "noteChange", "()V"⟩
abbrev cX0_isStale : ByteArray := prog_2_method_6_code
def yX0_isStale : MethodName := ⟨RX0, "isStale", "(I)Z"⟩
abbrev cX0_guessBoth : ByteArray := prog_2_method_7_code
def yX0_guessBoth : MethodName := ⟨RX0, "guessBoth", "(IIII)I"⟩
abbrev cX0_copyFrom : ByteArray := prog_2_method_8_code
def yX0_copyFrom : MethodName := ⟨RX0, "copyFrom", "(LEqualHeights$Analysis;)V"⟩
def RX1 : String := "EqualHeights$Bits"
def TX1 : u_T := fun k => match k with
  | _ => ("", "", "", false)
def tyX1 : Nat → FieldType := fun k => match k with
  | _ => .int
abbrev wsX10 : List Cond := u_ws RX1 TX1 0
theorem nmX1 : ∀ a, a < 0 → ∀ b, b < 0 → a ≠ b → (TX1 a).2.1 ≠ (TX1 b).2.1 := by decide +kernel
theorem tyX1_ok : ∀ k, k < 0 → parseFieldDescriptor (TX1 k).2.2.1 = some (tyX1 k) := by decide +kernel
abbrev cX1_ofFloat : ByteArray := prog_3_method_2_code
def yX1_ofFloat : MethodName := ⟨RX1, "ofFloat", "(F)I"⟩
abbrev cX1_ofDouble : ByteArray := prog_3_method_3_code
def yX1_ofDouble : MethodName := ⟨RX1, "ofDouble", "(D)J"⟩
abbrev cX1_bits : ByteArray := prog_3_method_4_code
def yX1_bits : MethodName := ⟨RX1, "bits", "(DII)J"⟩
def RX2 : String := "EqualHeights$ColumnFacts"
def TX2 : u_T := fun k => match k with
  | 0 => ("EqualHeights$ColumnFacts", "had", "[I", true)
  | 1 => ("EqualHeights$ColumnFacts", "commonValue", "[I", true)
  | 2 => ("EqualHeights$ColumnFacts", "commonRows", "[I", true)
  | 3 => ("EqualHeights$ColumnFacts", "commons", "I", false)
  | 4 => ("EqualHeights$ColumnFacts", "lowest", "[I", true)
  | 5 => ("EqualHeights$ColumnFacts", "highest", "[I", true)
  | 6 => ("EqualHeights$ColumnFacts", "bucketRows", "[I", true)
  | 7 => ("EqualHeights$ColumnFacts", "unlike", "[I", true)
  | _ => ("EqualHeights$ColumnFacts", "buckets", "I", false)
def tyX2 : Nat → FieldType := fun k => match k with
  | 0 => .array .int
  | 1 => .array .int
  | 2 => .array .int
  | 3 => .int
  | 4 => .array .int
  | 5 => .array .int
  | 6 => .array .int
  | 7 => .array .int
  | _ => .int
abbrev wsX20 : List Cond := u_ws RX2 TX2 9
theorem nmX2 : ∀ a, a < 9 → ∀ b, b < 9 → a ≠ b → (TX2 a).2.1 ≠ (TX2 b).2.1 := by decide +kernel
theorem tyX2_ok : ∀ k, k < 9 → parseFieldDescriptor (TX2 k).2.2.1 = some (tyX2 k) := by decide +kernel
abbrev cX2_init : ByteArray := prog_4_method_1_code
def yX2_init : MethodName := ⟨RX2, "<init>", "()V"⟩
abbrev cX2_learn : ByteArray := prog_4_method_2_code
def yX2_learn : MethodName := ⟨RX2, "learn", "(LEqualHeights$Table;III)V"⟩
abbrev cX2_countValues : ByteArray := prog_4_method_3_code
def yX2_countValues : MethodName := ⟨RX2, "countValues", "(LEqualHeights$Table;I)V"⟩
abbrev cX2_chooseCommon : ByteArray := prog_4_method_4_code
def yX2_chooseCommon : MethodName := ⟨RX2, "chooseCommon", "(I)V"⟩
abbrev cX2_nextRank : ByteArray := prog_4_method_5_code
def yX2_nextRank : MethodName := ⟨RX2, "nextRank", "(I)I"⟩
abbrev cX2_isCommon : ByteArray := prog_4_method_6_code
def yX2_isCommon : MethodName := ⟨RX2, "isCommon", "(I)Z"⟩
abbrev cX2_cutBuckets : ByteArray := prog_4_method_7_code
def yX2_cutBuckets : MethodName := ⟨RX2, "cutBuckets", "(II)V"⟩
abbrev cX2_fullHeight : ByteArray := prog_4_method_8_code
def yX2_fullHeight : MethodName := ⟨RX2, "fullHeight", "(II)I"⟩
abbrev cX2_startBucket : ByteArray := prog_4_method_9_code
def yX2_startBucket : MethodName := ⟨RX2, "startBucket", "(II)V"⟩
abbrev cX2_addToBucket : ByteArray := prog_4_method_10_code
def yX2_addToBucket : MethodName := ⟨RX2, "addToBucket", "(II)V"⟩
abbrev cX2_tellCommon : ByteArray := prog_4_method_11_code
def yX2_tellCommon : MethodName := ⟨RX2, "tellCommon", "(II)I"⟩
abbrev cX2_tellBucket : ByteArray := prog_4_method_12_code
def yX2_tellBucket : MethodName := ⟨RX2, "tellBucket", "(II)I"⟩
abbrev cX2_rowsOfBuckets : ByteArray := prog_4_method_13_code
def yX2_rowsOfBuckets : MethodName := ⟨RX2, "rowsOfBuckets", "()I"⟩
abbrev cX2_rowsOfCommon : ByteArray := prog_4_method_14_code
def yX2_rowsOfCommon : MethodName := ⟨RX2, "rowsOfCommon", "(II)I"⟩
abbrev cX2_guess : ByteArray := prog_4_method_15_code
def yX2_guess : MethodName := ⟨RX2, "guess", "(II)I"⟩
abbrev cX2_least : ByteArray := prog_4_method_16_code
def yX2_least : MethodName := ⟨RX2, "least", "(II)I"⟩
abbrev cX2_most : ByteArray := prog_4_method_17_code
def yX2_most : MethodName := ⟨RX2, "most", "(II)I"⟩
abbrev cX2_miss : ByteArray := prog_4_method_18_code
def yX2_miss : MethodName := ⟨RX2, "miss", "(I)I"⟩
abbrev cX2_worstValue : ByteArray := prog_4_method_19_code
def yX2_worstValue : MethodName := ⟨RX2, "worstValue", "()I"⟩
abbrev cX2_copyFrom : ByteArray := prog_4_method_20_code
def yX2_copyFrom : MethodName := ⟨RX2, "copyFrom", "(LEqualHeights$ColumnFacts;)V"⟩
def RX3 : String := "EqualHeights$History"
def TX3 : u_T := fun k => match k with
  | 0 => ("EqualHeights$History", "ring", "[LEqualHeights$State;", true)
  | 1 => ("EqualHeights$History", "next", "I", false)
  | _ => ("EqualHeights$History", "held", "I", false)
def tyX3 : Nat → FieldType := fun k => match k with
  | 0 => .array (.object "EqualHeights$State")
  | 1 => .int
  | _ => .int
abbrev wsX30 : List Cond := u_ws RX3 TX3 3
theorem nmX3 : ∀ a, a < 3 → ∀ b, b < 3 → a ≠ b → (TX3 a).2.1 ≠ (TX3 b).2.1 := by decide +kernel
theorem tyX3_ok : ∀ k, k < 3 → parseFieldDescriptor (TX3 k).2.2.1 = some (tyX3 k) := by decide +kernel
abbrev cX3_init : ByteArray := prog_5_method_1_code
def yX3_init : MethodName := ⟨RX3, "<init>", "()V"⟩
abbrev cX3_prepare : ByteArray := prog_5_method_2_code
def yX3_prepare : MethodName := ⟨RX3, "prepare", "(LEqualHeights$State;)V"⟩
abbrev cX3_keep : ByteArray := prog_5_method_3_code
def yX3_keep : MethodName := ⟨RX3, "keep", "()V"⟩
abbrev cX3_bringBack : ByteArray := prog_5_method_4_code
def yX3_bringBack : MethodName := ⟨RX3, "bringBack", "(LEqualHeights$State;)V"⟩
def RX4 : String := "EqualHeights$Pad"
def TX4 : u_T := fun k => match k with
  | 0 => ("EqualHeights$Pad", "signs", "[C", true)
  | _ => ("EqualHeights$Pad", "length", "I", false)
def tyX4 : Nat → FieldType := fun k => match k with
  | 0 => .array .char
  | _ => .int
abbrev wsX40 : List Cond := u_ws RX4 TX4 2
theorem nmX4 : ∀ a, a < 2 → ∀ b, b < 2 → a ≠ b → (TX4 a).2.1 ≠ (TX4 b).2.1 := by decide +kernel
theorem tyX4_ok : ∀ k, k < 2 → parseFieldDescriptor (TX4 k).2.2.1 = some (tyX4 k) := by decide +kernel
abbrev cX4_init : ByteArray := prog_6_method_1_code
def yX4_init : MethodName := ⟨RX4, "<init>", "()V"⟩
abbrev cX4_append : ByteArray := prog_6_method_2_code
def yX4_append : MethodName := ⟨RX4, "append", "(J)I"⟩
abbrev cX4_signsIn : ByteArray := prog_6_method_3_code
def yX4_signsIn : MethodName := ⟨RX4, "signsIn", "(J)I"⟩
abbrev cX4_signAt : ByteArray := prog_6_method_4_code
def yX4_signAt : MethodName := ⟨RX4, "signAt", "(I)C"⟩
abbrev cX4_clear : ByteArray := prog_6_method_5_code
def yX4_clear : MethodName := ⟨RX4, "clear", "()I"⟩
def RX5 : String := "EqualHeights$PairFacts"
def TX5 : u_T := fun k => match k with
  | 0 => ("EqualHeights$PairFacts", "valueA", "[I", true)
  | 1 => ("EqualHeights$PairFacts", "valueB", "[I", true)
  | 2 => ("EqualHeights$PairFacts", "pairRows", "[I", true)
  | _ => ("EqualHeights$PairFacts", "pairs", "I", false)
def tyX5 : Nat → FieldType := fun k => match k with
  | 0 => .array .int
  | 1 => .array .int
  | 2 => .array .int
  | _ => .int
abbrev wsX50 : List Cond := u_ws RX5 TX5 4
theorem nmX5 : ∀ a, a < 4 → ∀ b, b < 4 → a ≠ b → (TX5 a).2.1 ≠ (TX5 b).2.1 := by decide +kernel
theorem tyX5_ok : ∀ k, k < 4 → parseFieldDescriptor (TX5 k).2.2.1 = some (tyX5 k) := by decide +kernel
abbrev cX5_init : ByteArray := prog_7_method_1_code
def yX5_init : MethodName := ⟨RX5, "<init>", "()V"⟩
abbrev cX5_learn : ByteArray := prog_7_method_2_code
def yX5_learn : MethodName := ⟨RX5, "learn", "(LEqualHeights$Table;I)V"⟩
abbrev cX5_nextRank : ByteArray := prog_7_method_3_code
def yX5_nextRank : MethodName := ⟨RX5, "nextRank", "(LEqualHeights$Table;I)I"⟩
abbrev cX5_tellPair : ByteArray := prog_7_method_4_code
def yX5_tellPair : MethodName := ⟨RX5, "tellPair", "(II)I"⟩
abbrev cX5_rowsInside : ByteArray := prog_7_method_5_code
def yX5_rowsInside : MethodName := ⟨RX5, "rowsInside", "(IIII)I"⟩
abbrev cX5_copyFrom : ByteArray := prog_7_method_6_code
def yX5_copyFrom : MethodName := ⟨RX5, "copyFrom", "(LEqualHeights$PairFacts;)V"⟩
def RX6 : String := "EqualHeights$Reader"
def TX6 : u_T := fun k => match k with
  | 0 => ("EqualHeights$Reader", "pad", "LEqualHeights$Pad;", true)
  | 1 => ("EqualHeights$Reader", "at", "I", false)
  | 2 => ("EqualHeights$Reader", "kind", "C", false)
  | 3 => ("EqualHeights$Reader", "first", "I", false)
  | 4 => ("EqualHeights$Reader", "second", "I", false)
  | _ => ("EqualHeights$Reader", "times", "I", false)
def tyX6 : Nat → FieldType := fun k => match k with
  | 0 => .object "EqualHeights$Pad"
  | 1 => .int
  | 2 => .char
  | 3 => .int
  | 4 => .int
  | _ => .int
abbrev wsX60 : List Cond := u_ws RX6 TX6 6
theorem nmX6 : ∀ a, a < 6 → ∀ b, b < 6 → a ≠ b → (TX6 a).2.1 ≠ (TX6 b).2.1 := by decide +kernel
theorem tyX6_ok : ∀ k, k < 6 → parseFieldDescriptor (TX6 k).2.2.1 = some (tyX6 k) := by decide +kernel
abbrev cX6_init : ByteArray := prog_8_method_1_code
def yX6_init : MethodName := ⟨RX6, "<init>", "(LEqualHeights$Pad;)V"⟩
abbrev cX6_start : ByteArray := prog_8_method_2_code
def yX6_start : MethodName := ⟨RX6, "start", "()V"⟩
abbrev cX6_findFault : ByteArray := prog_8_method_3_code
def yX6_findFault : MethodName := ⟨RX6, "findFault", "()I"⟩
abbrev cX6_readOrder : ByteArray := prog_8_method_4_code
def yX6_readOrder : MethodName := ⟨RX6, "readOrder", "()Z"⟩
abbrev cX6_readRow : ByteArray := prog_8_method_5_code
def yX6_readRow : MethodName := ⟨RX6, "readRow", "()Z"⟩
abbrev cX6_readTimes : ByteArray := prog_8_method_6_code
def yX6_readTimes : MethodName := ⟨RX6, "readTimes", "()Z"⟩
abbrev cX6_readNumber : ByteArray := prog_8_method_7_code
def yX6_readNumber : MethodName := ⟨RX6, "readNumber", "()I"⟩
abbrev cX6_readDigit : ByteArray := prog_8_method_8_code
def yX6_readDigit : MethodName := ⟨RX6, "readDigit", "()I"⟩
abbrev cX6_passSign : ByteArray := prog_8_method_9_code
def yX6_passSign : MethodName := ⟨RX6, "passSign", "(C)Z"⟩
def RX7 : String := "EqualHeights$State"
def TX7 : u_T := fun k => match k with
  | 0 => ("EqualHeights$State", "settings", "[I", true)
  | 1 => ("EqualHeights$State", "table", "LEqualHeights$Table;", true)
  | _ => ("EqualHeights$State", "analysis", "LEqualHeights$Analysis;", true)
def tyX7 : Nat → FieldType := fun k => match k with
  | 0 => .array .int
  | 1 => .object "EqualHeights$Table"
  | _ => .object "EqualHeights$Analysis"
abbrev wsX70 : List Cond := u_ws RX7 TX7 3
theorem nmX7 : ∀ a, a < 3 → ∀ b, b < 3 → a ≠ b → (TX7 a).2.1 ≠ (TX7 b).2.1 := by decide +kernel
theorem tyX7_ok : ∀ k, k < 3 → parseFieldDescriptor (TX7 k).2.2.1 = some (tyX7 k) := by decide +kernel
abbrev cX7_init : ByteArray := prog_9_method_1_code
def yX7_init : MethodName := ⟨RX7, "<init>", "()V"⟩
abbrev cX7_setting : ByteArray := prog_9_method_2_code
def yX7_setting : MethodName := ⟨RX7, "setting", "(I)I"⟩
abbrev cX7_change : ByteArray := prog_9_method_3_code
def yX7_change : MethodName := ⟨RX7, "change", "(II)I"⟩
abbrev cX7_isInRange : ByteArray := prog_9_method_4_code
def yX7_isInRange : MethodName := ⟨RX7, "isInRange", "(II)Z"⟩
abbrev cX7_addRow : ByteArray := prog_9_method_5_code
def yX7_addRow : MethodName := ⟨RX7, "addRow", "(II)I"⟩
abbrev cX7_addRows : ByteArray := prog_9_method_6_code
def yX7_addRows : MethodName := ⟨RX7, "addRows", "(III)I"⟩
abbrev cX7_dropRow : ByteArray := prog_9_method_7_code
def yX7_dropRow : MethodName := ⟨RX7, "dropRow", "(I)I"⟩
abbrev cX7_makeAnalysis : ByteArray := prog_9_method_8_code
def yX7_makeAnalysis : MethodName := ⟨RX7, "makeAnalysis", "()I"⟩
abbrev cX7_scale : ByteArray := prog_9_method_9_code
def yX7_scale : MethodName := ⟨RX7, "scale", "(I)I"⟩
abbrev cX7_copyFrom : ByteArray := prog_9_method_10_code
def yX7_copyFrom : MethodName := ⟨RX7, "copyFrom", "(LEqualHeights$State;)V"⟩
def RX8 : String := "EqualHeights$Table"
def TX8 : u_T := fun k => match k with
  | 0 => ("EqualHeights$Table", "a", "[I", true)
  | 1 => ("EqualHeights$Table", "b", "[I", true)
  | _ => ("EqualHeights$Table", "size", "I", false)
def tyX8 : Nat → FieldType := fun k => match k with
  | 0 => .array .int
  | 1 => .array .int
  | _ => .int
abbrev wsX80 : List Cond := u_ws RX8 TX8 3
theorem nmX8 : ∀ a, a < 3 → ∀ b, b < 3 → a ≠ b → (TX8 a).2.1 ≠ (TX8 b).2.1 := by decide +kernel
theorem tyX8_ok : ∀ k, k < 3 → parseFieldDescriptor (TX8 k).2.2.1 = some (tyX8 k) := by decide +kernel
abbrev cX8_init : ByteArray := prog_10_method_1_code
def yX8_init : MethodName := ⟨RX8, "<init>", "()V"⟩
abbrev cX8_isFull : ByteArray := prog_10_method_2_code
def yX8_isFull : MethodName := ⟨RX8, "isFull", "()Z"⟩
abbrev cX8_hasRow : ByteArray := prog_10_method_3_code
def yX8_hasRow : MethodName := ⟨RX8, "hasRow", "(I)Z"⟩
abbrev cX8_value : ByteArray := prog_10_method_4_code
def yX8_value : MethodName := ⟨RX8, "value", "(II)I"⟩
abbrev cX8_add : ByteArray := prog_10_method_5_code
def yX8_add : MethodName := ⟨RX8, "add", "(II)V"⟩
abbrev cX8_drop : ByteArray := prog_10_method_6_code
def yX8_drop : MethodName := ⟨RX8, "drop", "(I)V"⟩
abbrev cX8_rowsInside : ByteArray := prog_10_method_7_code
def yX8_rowsInside : MethodName := ⟨RX8, "rowsInside", "(III)I"⟩
abbrev cX8_rowsInsideBoth : ByteArray := prog_10_method_8_code
def yX8_rowsInsideBoth : MethodName := ⟨RX8, "rowsInsideBoth", "(IIII)I"⟩
abbrev cX8_rowsLike : ByteArray := prog_10_method_9_code
def yX8_rowsLike : MethodName := ⟨RX8, "rowsLike", "(I)I"⟩
abbrev cX8_copyFrom : ByteArray := prog_10_method_10_code
def yX8_copyFrom : MethodName := ⟨RX8, "copyFrom", "(LEqualHeights$Table;)V"⟩
def RX9 : String := "EqualHeights"
def TX9 : u_T := fun k => match k with
  | 0 => ("EqualHeights", "now", "LEqualHeights$State;", true)
  | 1 => ("EqualHeights", "slots", "[LEqualHeights$State;", true)
  | 2 => ("EqualHeights", "history", "LEqualHeights$History;", true)
  | 3 => ("EqualHeights", "pad", "LEqualHeights$Pad;", true)
  | 4 => ("EqualHeights", "reader", "LEqualHeights$Reader;", true)
  | _ => ("EqualHeights", "trial", "LEqualHeights$ColumnFacts;", true)
def tyX9 : Nat → FieldType := fun k => match k with
  | 0 => .object "EqualHeights$State"
  | 1 => .array (.object "EqualHeights$State")
  | 2 => .object "EqualHeights$History"
  | 3 => .object "EqualHeights$Pad"
  | 4 => .object "EqualHeights$Reader"
  | _ => .object "EqualHeights$ColumnFacts"
abbrev wsX90 : List Cond := u_ws RX9 TX9 6
theorem nmX9 : ∀ a, a < 6 → ∀ b, b < 6 → a ≠ b → (TX9 a).2.1 ≠ (TX9 b).2.1 := by decide +kernel
theorem tyX9_ok : ∀ k, k < 6 → parseFieldDescriptor (TX9 k).2.2.1 = some (tyX9 k) := by decide +kernel
abbrev cX9_init : ByteArray := prog_1_method_1_code
def yX9_init : MethodName := ⟨RX9, "<init>", "()V"⟩
abbrev cX9_set : ByteArray := prog_1_method_2_code
def yX9_set : MethodName := ⟨RX9, "set", "(II)I"⟩
abbrev cX9_insert : ByteArray := prog_1_method_3_code
def yX9_insert : MethodName := ⟨RX9, "insert", "(II)I"⟩
abbrev cX9_remove : ByteArray := prog_1_method_4_code
def yX9_remove : MethodName := ⟨RX9, "remove", "(I)I"⟩
abbrev cX9_analyse : ByteArray := prog_1_method_5_code
def yX9_analyse : MethodName := ⟨RX9, "analyse", "()I"⟩
abbrev cX9_row : ByteArray := prog_1_method_6_code
def yX9_row : MethodName := ⟨RX9, "row", "(II)I"⟩
abbrev cX9_bucket : ByteArray := prog_1_method_7_code
def yX9_bucket : MethodName := ⟨RX9, "bucket", "(III)I"⟩
abbrev cX9_common : ByteArray := prog_1_method_8_code
def yX9_common : MethodName := ⟨RX9, "common", "(III)I"⟩
abbrev cX9_pair : ByteArray := prog_1_method_9_code
def yX9_pair : MethodName := ⟨RX9, "pair", "(II)I"⟩
abbrev cX9_count : ByteArray := prog_1_method_10_code
def yX9_count : MethodName := ⟨RX9, "count", "(I)I"⟩
abbrev cX9_tellStale : ByteArray := prog_1_method_11_code
def yX9_tellStale : MethodName := ⟨RX9, "tellStale", "()I"⟩
abbrev cX9_estimate : ByteArray := prog_1_method_12_code
def yX9_estimate : MethodName := ⟨RX9, "estimate", "(IIII)I"⟩
abbrev cX9_both : ByteArray := prog_1_method_13_code
def yX9_both : MethodName := ⟨RX9, "both", "(IIIII)I"⟩
abbrev cX9_share : ByteArray := prog_1_method_14_code
def yX9_share : MethodName := ⟨RX9, "share", "(III)I"⟩
abbrev cX9_height : ByteArray := prog_1_method_15_code
def yX9_height : MethodName := ⟨RX9, "height", "(I)J"⟩
abbrev cX9_worst : ByteArray := prog_1_method_16_code
def yX9_worst : MethodName := ⟨RX9, "worst", "(II)I"⟩
abbrev cX9_fewest : ByteArray := prog_1_method_17_code
def yX9_fewest : MethodName := ⟨RX9, "fewest", "(II)I"⟩
abbrev cX9_put : ByteArray := prog_1_method_18_code
def yX9_put : MethodName := ⟨RX9, "put", "(J)I"⟩
abbrev cX9_wipe : ByteArray := prog_1_method_19_code
def yX9_wipe : MethodName := ⟨RX9, "wipe", "()I"⟩
abbrev cX9_fault : ByteArray := prog_1_method_20_code
def yX9_fault : MethodName := ⟨RX9, "fault", "()I"⟩
abbrev cX9_carryOut : ByteArray := prog_1_method_21_code
def yX9_carryOut : MethodName := ⟨RX9, "carryOut", "()I"⟩
abbrev cX9_followOrder : ByteArray := prog_1_method_22_code
def yX9_followOrder : MethodName := ⟨RX9, "followOrder", "()I"⟩
abbrev cX9_undo : ByteArray := prog_1_method_23_code
def yX9_undo : MethodName := ⟨RX9, "undo", "()I"⟩
abbrev cX9_save : ByteArray := prog_1_method_24_code
def yX9_save : MethodName := ⟨RX9, "save", "(I)I"⟩
abbrev cX9_restore : ByteArray := prog_1_method_25_code
def yX9_restore : MethodName := ⟨RX9, "restore", "(I)I"⟩
abbrev cX9_recorded : ByteArray := prog_1_method_26_code
def yX9_recorded : MethodName := ⟨RX9, "recorded", "(I)I"⟩
abbrev cX9_isBetween : ByteArray := prog_1_method_27_code
def yX9_isBetween : MethodName := ⟨RX9, "isBetween", "(III)Z"⟩
abbrev cX9_isColumn : ByteArray := prog_1_method_28_code
def yX9_isColumn : MethodName := ⟨RX9, "isColumn", "(I)Z"⟩
abbrev cX9_isValue : ByteArray := prog_1_method_29_code
def yX9_isValue : MethodName := ⟨RX9, "isValue", "(I)Z"⟩
abbrev cX9_areBounds : ByteArray := prog_1_method_30_code
def yX9_areBounds : MethodName := ⟨RX9, "areBounds", "(II)Z"⟩
abbrev cX9_copyNumbers : ByteArray := prog_1_method_31_code
def yX9_copyNumbers : MethodName := ⟨RX9, "copyNumbers", "([I[I)V"⟩
def RX10 : String := "EqualHeightsModel"
def TX10 : u_T := fun k => match k with
  | 0 => ("EqualHeightsModel", "now", "[I", true)
  | 1 => ("EqualHeightsModel", "then", "[I", true)
  | 2 => ("EqualHeightsModel", "past", "[I", true)
  | 3 => ("EqualHeightsModel", "kept", "I", false)
  | 4 => ("EqualHeightsModel", "slots", "[I", true)
  | 5 => ("EqualHeightsModel", "held", "[Z", true)
  | 6 => ("EqualHeightsModel", "pad", "[I", true)
  | 7 => ("EqualHeightsModel", "padded", "I", false)
  | 8 => ("EqualHeightsModel", "at", "I", false)
  | 9 => ("EqualHeightsModel", "orders", "[I", true)
  | 10 => ("EqualHeightsModel", "ordered", "I", false)
  | _ => ("EqualHeightsModel", "left", "[I", true)
def tyX10 : Nat → FieldType := fun k => match k with
  | 0 => .array .int
  | 1 => .array .int
  | 2 => .array .int
  | 3 => .int
  | 4 => .array .int
  | 5 => .array .boolean
  | 6 => .array .int
  | 7 => .int
  | 8 => .int
  | 9 => .array .int
  | 10 => .int
  | _ => .array .int
abbrev wsX100 : List Cond := u_ws RX10 TX10 12
theorem nmX10 : ∀ a, a < 12 → ∀ b, b < 12 → a ≠ b → (TX10 a).2.1 ≠ (TX10 b).2.1 := by decide +kernel
theorem tyX10_ok : ∀ k, k < 12 → parseFieldDescriptor (TX10 k).2.2.1 = some (tyX10 k) := by decide +kernel
abbrev cX10_init : ByteArray := prog_12_method_1_code
def yX10_init : MethodName := ⟨RX10, "<init>", "()V"⟩
abbrev cX10_in : ByteArray := prog_12_method_3_code
def yX10_in : MethodName := ⟨RX10, "in", "(III)Z"⟩
abbrev cX10_isValue : ByteArray := prog_12_method_4_code
def yX10_isValue : MethodName := ⟨RX10, "isValue", "(I)Z"⟩
abbrev cX10_isColumn : ByteArray := prog_12_method_5_code
def yX10_isColumn : MethodName := ⟨RX10, "isColumn", "(I)Z"⟩
abbrev cX10_lays : ByteArray := prog_12_method_6_code
def yX10_lays : MethodName := ⟨RX10, "lays", "([II[II)V"⟩
abbrev cX10_records : ByteArray := prog_12_method_7_code
def yX10_records : MethodName := ⟨RX10, "records", "()V"⟩
abbrev cX10_undo : ByteArray := prog_12_method_8_code
def yX10_undo : MethodName := ⟨RX10, "undo", "()I"⟩
abbrev cX10_save : ByteArray := prog_12_method_9_code
def yX10_save : MethodName := ⟨RX10, "save", "(I)I"⟩
abbrev cX10_restore : ByteArray := prog_12_method_10_code
def yX10_restore : MethodName := ⟨RX10, "restore", "(I)I"⟩
abbrev cX10_of : ByteArray := prog_12_method_11_code
def yX10_of : MethodName := ⟨RX10, "of", "([III)I"⟩
abbrev cX10_had : ByteArray := prog_12_method_12_code
def yX10_had : MethodName := ⟨RX10, "had", "([III)I"⟩
abbrev cX10_chooses : ByteArray := prog_12_method_13_code
def yX10_chooses : MethodName := ⟨RX10, "chooses", "([II)V"⟩
abbrev cX10_cuts : ByteArray := prog_12_method_14_code
def yX10_cuts : MethodName := ⟨RX10, "cuts", "([II)V"⟩
abbrev cX10_rowsWith : ByteArray := prog_12_method_15_code
def yX10_rowsWith : MethodName := ⟨RX10, "rowsWith", "([III)I"⟩
abbrev cX10_isPaired : ByteArray := prog_12_method_16_code
def yX10_isPaired : MethodName := ⟨RX10, "isPaired", "([III)Z"⟩
abbrev cX10_pairs : ByteArray := prog_12_method_17_code
def yX10_pairs : MethodName := ⟨RX10, "pairs", "([I)V"⟩
abbrev cX10_analyses : ByteArray := prog_12_method_18_code
def yX10_analyses : MethodName := ⟨RX10, "analyses", "([I)V"⟩
abbrev cX10_estimated : ByteArray := prog_12_method_19_code
def yX10_estimated : MethodName := ⟨RX10, "estimated", "([IIIII)I"⟩
abbrev cX10_truly : ByteArray := prog_12_method_20_code
def yX10_truly : MethodName := ⟨RX10, "truly", "(III)I"⟩
abbrev cX10_scaled : ByteArray := prog_12_method_21_code
def yX10_scaled : MethodName := ⟨RX10, "scaled", "(I)I"⟩
abbrev cX10_areBounds : ByteArray := prog_12_method_22_code
def yX10_areBounds : MethodName := ⟨RX10, "areBounds", "(II)Z"⟩
abbrev cX10_estimate : ByteArray := prog_12_method_23_code
def yX10_estimate : MethodName := ⟨RX10, "estimate", "(IIII)I"⟩
abbrev cX10_paired : ByteArray := prog_12_method_24_code
def yX10_paired : MethodName := ⟨RX10, "paired", "(IIII)I"⟩
abbrev cX10_bothOf : ByteArray := prog_12_method_25_code
def yX10_bothOf : MethodName := ⟨RX10, "bothOf", "(IIII)I"⟩
abbrev cX10_both : ByteArray := prog_12_method_26_code
def yX10_both : MethodName := ⟨RX10, "both", "(IIIII)I"⟩
abbrev cX10_share : ByteArray := prog_12_method_27_code
def yX10_share : MethodName := ⟨RX10, "share", "(III)I"⟩
abbrev cX10_height : ByteArray := prog_12_method_28_code
def yX10_height : MethodName := ⟨RX10, "height", "(I)J"⟩
abbrev cX10_off : ByteArray := prog_12_method_29_code
def yX10_off : MethodName := ⟨RX10, "off", "([III)I"⟩
abbrev cX10_worstOf : ByteArray := prog_12_method_30_code
def yX10_worstOf : MethodName := ⟨RX10, "worstOf", "([II)I"⟩
abbrev cX10_worst : ByteArray := prog_12_method_31_code
def yX10_worst : MethodName := ⟨RX10, "worst", "(II)I"⟩
abbrev cX10_fewest : ByteArray := prog_12_method_32_code
def yX10_fewest : MethodName := ⟨RX10, "fewest", "(II)I"⟩
abbrev cX10_isFor : ByteArray := prog_12_method_33_code
def yX10_isFor : MethodName := ⟨RX10, "isFor", "(II)Z"⟩
abbrev cX10_sets : ByteArray := prog_12_method_34_code
def yX10_sets : MethodName := ⟨RX10, "sets", "(II)I"⟩
abbrev cX10_set : ByteArray := prog_12_method_35_code
def yX10_set : MethodName := ⟨RX10, "set", "(II)I"⟩
abbrev cX10_mayCome : ByteArray := prog_12_method_36_code
def yX10_mayCome : MethodName := ⟨RX10, "mayCome", "(II)I"⟩
abbrev cX10_comes : ByteArray := prog_12_method_37_code
def yX10_comes : MethodName := ⟨RX10, "comes", "(II)I"⟩
abbrev cX10_insert : ByteArray := prog_12_method_38_code
def yX10_insert : MethodName := ⟨RX10, "insert", "(II)I"⟩
abbrev cX10_isRow : ByteArray := prog_12_method_39_code
def yX10_isRow : MethodName := ⟨RX10, "isRow", "(I)Z"⟩
abbrev cX10_goes : ByteArray := prog_12_method_40_code
def yX10_goes : MethodName := ⟨RX10, "goes", "(I)I"⟩
abbrev cX10_remove : ByteArray := prog_12_method_41_code
def yX10_remove : MethodName := ⟨RX10, "remove", "(I)I"⟩
abbrev cX10_analyse : ByteArray := prog_12_method_42_code
def yX10_analyse : MethodName := ⟨RX10, "analyse", "()I"⟩
abbrev cX10_row : ByteArray := prog_12_method_43_code
def yX10_row : MethodName := ⟨RX10, "row", "(II)I"⟩
abbrev cX10_bucket : ByteArray := prog_12_method_44_code
def yX10_bucket : MethodName := ⟨RX10, "bucket", "(III)I"⟩
abbrev cX10_common : ByteArray := prog_12_method_45_code
def yX10_common : MethodName := ⟨RX10, "common", "(III)I"⟩
abbrev cX10_pair : ByteArray := prog_12_method_46_code
def yX10_pair : MethodName := ⟨RX10, "pair", "(II)I"⟩
abbrev cX10_count : ByteArray := prog_12_method_47_code
def yX10_count : MethodName := ⟨RX10, "count", "(I)I"⟩
abbrev cX10_byteOf : ByteArray := prog_12_method_48_code
def yX10_byteOf : MethodName := ⟨RX10, "byteOf", "(JI)I"⟩
abbrev cX10_toldBy : ByteArray := prog_12_method_49_code
def yX10_toldBy : MethodName := ⟨RX10, "toldBy", "(J)I"⟩
abbrev cX10_put : ByteArray := prog_12_method_50_code
def yX10_put : MethodName := ⟨RX10, "put", "(J)I"⟩
abbrev cX10_wipe : ByteArray := prog_12_method_51_code
def yX10_wipe : MethodName := ⟨RX10, "wipe", "()I"⟩
abbrev cX10_isAt : ByteArray := prog_12_method_52_code
def yX10_isAt : MethodName := ⟨RX10, "isAt", "(II)Z"⟩
abbrev cX10_isSign : ByteArray := prog_12_method_53_code
def yX10_isSign : MethodName := ⟨RX10, "isSign", "(I)Z"⟩
abbrev cX10_isNumber : ByteArray := prog_12_method_54_code
def yX10_isNumber : MethodName := ⟨RX10, "isNumber", "(I)Z"⟩
abbrev cX10_isComing : ByteArray := prog_12_method_55_code
def yX10_isComing : MethodName := ⟨RX10, "isComing", "()Z"⟩
abbrev cX10_isOrder : ByteArray := prog_12_method_56_code
def yX10_isOrder : MethodName := ⟨RX10, "isOrder", "()Z"⟩
abbrev cX10_isText : ByteArray := prog_12_method_57_code
def yX10_isText : MethodName := ⟨RX10, "isText", "()Z"⟩
abbrev cX10_fault : ByteArray := prog_12_method_58_code
def yX10_fault : MethodName := ⟨RX10, "fault", "()I"⟩
abbrev cX10_comeOften : ByteArray := prog_12_method_59_code
def yX10_comeOften : MethodName := ⟨RX10, "comeOften", "(III)Z"⟩
abbrev cX10_does : ByteArray := prog_12_method_60_code
def yX10_does : MethodName := ⟨RX10, "does", "(I)Z"⟩
abbrev cX10_carryOut : ByteArray := prog_12_method_61_code
def yX10_carryOut : MethodName := ⟨RX10, "carryOut", "()I"⟩
def RJxe99ae : String := "java/lang/Double"
def TJxe99ae : u_T := fun k => match k with
  | _ => ("", "", "", false)
def tyJxe99ae : Nat → FieldType := fun k => match k with
  | _ => .int
abbrev wsJxe99ae0 : List Cond := u_ws RJxe99ae TJxe99ae 0
theorem nmJxe99ae : ∀ a, a < 0 → ∀ b, b < 0 → a ≠ b → (TJxe99ae a).2.1 ≠ (TJxe99ae b).2.1 := by decide +kernel
theorem tyJxe99ae_ok : ∀ k, k < 0 → parseFieldDescriptor (TJxe99ae k).2.2.1 = some (tyJxe99ae k) := by decide +kernel
abbrev cJxe99ae_isNaN_b9ae7 : ByteArray := prog_13_method_6_code
def yJxe99ae_isNaN_b9ae7 : MethodName := ⟨RJxe99ae, "isNaN", "(D)Z"⟩
abbrev cJxe99ae_doubleToLongBits_ccdee : ByteArray := prog_13_method_23_code
def yJxe99ae_doubleToLongBits_ccdee : MethodName := ⟨RJxe99ae, "doubleToLongBits", "(D)J"⟩
def RJxf58ca : String := "java/lang/Float"
def TJxf58ca : u_T := fun k => match k with
  | _ => ("", "", "", false)
def tyJxf58ca : Nat → FieldType := fun k => match k with
  | _ => .int
abbrev wsJxf58ca0 : List Cond := u_ws RJxf58ca TJxf58ca 0
theorem nmJxf58ca : ∀ a, a < 0 → ∀ b, b < 0 → a ≠ b → (TJxf58ca a).2.1 ≠ (TJxf58ca b).2.1 := by decide +kernel
theorem tyJxf58ca_ok : ∀ k, k < 0 → parseFieldDescriptor (TJxf58ca k).2.2.1 = some (tyJxf58ca k) := by decide +kernel
abbrev cJxf58ca_isNaN_12338 : ByteArray := prog_14_method_6_code
def yJxf58ca_isNaN_12338 : MethodName := ⟨RJxf58ca, "isNaN", "(F)Z"⟩
abbrev cJxf58ca_floatToIntBits_5c35a : ByteArray := prog_14_method_24_code
def yJxf58ca_floatToIntBits_5c35a : MethodName := ⟨RJxf58ca, "floatToIntBits", "(F)I"⟩
def RJ9 : String := "java/lang/Math"
def TJ9 : u_T := fun k => match k with
  | _ => ("", "", "", false)
def tyJ9 : Nat → FieldType := fun k => match k with
  | _ => .int
abbrev wsJ90 : List Cond := u_ws RJ9 TJ9 0
theorem nmJ9 : ∀ a, a < 0 → ∀ b, b < 0 → a ≠ b → (TJ9 a).2.1 ≠ (TJ9 b).2.1 := by decide +kernel
theorem tyJ9_ok : ∀ k, k < 0 → parseFieldDescriptor (TJ9 k).2.2.1 = some (tyJ9 k) := by decide +kernel
abbrev cJ9_abs_0f7a4 : ByteArray := prog_15_method_59_code
def yJ9_abs_0f7a4 : MethodName := ⟨RJ9, "abs", "(I)I"⟩
abbrev cJ9_max_7cf53 : ByteArray := prog_15_method_65_code
def yJ9_max_7cf53 : MethodName := ⟨RJ9, "max", "(II)I"⟩
abbrev cJ9_min_7cf53 : ByteArray := prog_15_method_69_code
def yJ9_min_7cf53 : MethodName := ⟨RJ9, "min", "(II)I"⟩
def RL : String := "EqualHeightsLaw"
abbrev cL_law : ByteArray := code
abbrev vwCl : List vw_C := [(RX0, TX0, 5), (RX2, TX2, 9), (RX3, TX3, 3), (RX4, TX4, 2), (RX5, TX5, 4), (RX6, TX6, 6), (RX7, TX7, 3), (RX8, TX8, 3), (RX9, TX9, 6), (RX10, TX10, 12)]
end
section
theorem dX0_init_0 : decode cX0_init 0 = .ok (.aload_n 0, 1) := by decide +kernel
theorem dX0_init_1 : decode cX0_init 1 = .ok (.invokespecial 3, 3) := by decide +kernel
theorem dX0_init_4 : decode cX0_init 4 = .ok (.aload_n 0, 1) := by decide +kernel
theorem dX0_init_5 : decode cX0_init 5 = .ok (.new 9, 3) := by decide +kernel
theorem dX0_init_8 : decode cX0_init 8 = .ok (.dup, 1) := by decide +kernel
theorem dX0_init_9 : decode cX0_init 9 = .ok (.invokespecial 11, 3) := by decide +kernel
theorem dX0_init_12 : decode cX0_init 12 = .ok (.putfield 12, 3) := by decide +kernel
theorem dX0_init_15 : decode cX0_init 15 = .ok (.aload_n 0, 1) := by decide +kernel
theorem dX0_init_16 : decode cX0_init 16 = .ok (.new 9, 3) := by decide +kernel
theorem dX0_init_19 : decode cX0_init 19 = .ok (.dup, 1) := by decide +kernel
theorem dX0_init_20 : decode cX0_init 20 = .ok (.invokespecial 11, 3) := by decide +kernel
theorem dX0_init_23 : decode cX0_init 23 = .ok (.putfield 18, 3) := by decide +kernel
theorem dX0_init_26 : decode cX0_init 26 = .ok (.aload_n 0, 1) := by decide +kernel
theorem dX0_init_27 : decode cX0_init 27 = .ok (.new 21, 3) := by decide +kernel
theorem dX0_init_30 : decode cX0_init 30 = .ok (.dup, 1) := by decide +kernel
theorem dX0_init_31 : decode cX0_init 31 = .ok (.invokespecial 23, 3) := by decide +kernel
theorem dX0_init_34 : decode cX0_init 34 = .ok (.putfield 24, 3) := by decide +kernel
theorem dX0_init_37 : decode cX0_init 37 = .ok (.return_, 1) := by decide +kernel
theorem dX0_isMade_0 : decode cX0_isMade 0 = .ok (.aload_n 0, 1) := by decide +kernel
theorem dX0_isMade_1 : decode cX0_isMade 1 = .ok (.getfield 28, 3) := by decide +kernel
theorem dX0_isMade_4 : decode cX0_isMade 4 = .ok (.ifCond .le 7, 3) := by decide +kernel
theorem dX0_isMade_7 : decode cX0_isMade 7 = .ok (.iconst 1, 1) := by decide +kernel
theorem dX0_isMade_8 : decode cX0_isMade 8 = .ok (.goto 4, 3) := by decide +kernel
theorem dX0_isMade_11 : decode cX0_isMade 11 = .ok (.iconst 0, 1) := by decide +kernel
theorem dX0_isMade_12 : decode cX0_isMade 12 = .ok (.ireturn, 1) := by decide +kernel
theorem dX0_facts_0 : decode cX0_facts 0 = .ok (.iload_n 1, 1) := by decide +kernel
theorem dX0_facts_1 : decode cX0_facts 1 = .ok (.ifCond .ne 10, 3) := by decide +kernel
theorem dX0_facts_4 : decode cX0_facts 4 = .ok (.aload_n 0, 1) := by decide +kernel
theorem dX0_facts_5 : decode cX0_facts 5 = .ok (.getfield 12, 3) := by decide +kernel
theorem dX0_facts_8 : decode cX0_facts 8 = .ok (.goto 7, 3) := by decide +kernel
theorem dX0_facts_11 : decode cX0_facts 11 = .ok (.aload_n 0, 1) := by decide +kernel
theorem dX0_facts_12 : decode cX0_facts 12 = .ok (.getfield 18, 3) := by decide +kernel
theorem dX0_facts_15 : decode cX0_facts 15 = .ok (.areturn, 1) := by decide +kernel
theorem dX0_learn_0 : decode cX0_learn 0 = .ok (.aload_n 0, 1) := by decide +kernel
theorem dX0_learn_1 : decode cX0_learn 1 = .ok (.getfield 12, 3) := by decide +kernel
theorem dX0_learn_4 : decode cX0_learn 4 = .ok (.aload_n 1, 1) := by decide +kernel
theorem dX0_learn_5 : decode cX0_learn 5 = .ok (.iconst 0, 1) := by decide +kernel
theorem dX0_learn_6 : decode cX0_learn 6 = .ok (.iload_n 3, 1) := by decide +kernel
theorem dX0_learn_7 : decode cX0_learn 7 = .ok (.iload_n 2, 1) := by decide +kernel
theorem dX0_learn_8 : decode cX0_learn 8 = .ok (.invokevirtual 32, 3) := by decide +kernel
theorem dX0_learn_11 : decode cX0_learn 11 = .ok (.aload_n 0, 1) := by decide +kernel
theorem dX0_learn_12 : decode cX0_learn 12 = .ok (.getfield 18, 3) := by decide +kernel
theorem dX0_learn_15 : decode cX0_learn 15 = .ok (.aload_n 1, 1) := by decide +kernel
theorem dX0_learn_16 : decode cX0_learn 16 = .ok (.iconst 1, 1) := by decide +kernel
theorem dX0_learn_17 : decode cX0_learn 17 = .ok (.iload_n 3, 1) := by decide +kernel
theorem dX0_learn_18 : decode cX0_learn 18 = .ok (.iload_n 2, 1) := by decide +kernel
theorem dX0_learn_19 : decode cX0_learn 19 = .ok (.invokevirtual 32, 3) := by decide +kernel
theorem dX0_learn_22 : decode cX0_learn 22 = .ok (.aload_n 0, 1) := by decide +kernel
theorem dX0_learn_23 : decode cX0_learn 23 = .ok (.getfield 24, 3) := by decide +kernel
theorem dX0_learn_26 : decode cX0_learn 26 = .ok (.aload_n 1, 1) := by decide +kernel
theorem dX0_learn_27 : decode cX0_learn 27 = .ok (.iload 4, 2) := by decide +kernel
theorem dX0_learn_29 : decode cX0_learn 29 = .ok (.invokevirtual 36, 3) := by decide +kernel
theorem dX0_learn_32 : decode cX0_learn 32 = .ok (.aload_n 0, 1) := by decide +kernel
theorem dX0_learn_33 : decode cX0_learn 33 = .ok (.aload_n 1, 1) := by decide +kernel
theorem dX0_learn_34 : decode cX0_learn 34 = .ok (.getfield 39, 3) := by decide +kernel
theorem dX0_learn_37 : decode cX0_learn 37 = .ok (.putfield 28, 3) := by decide +kernel
theorem dX0_learn_40 : decode cX0_learn 40 = .ok (.aload_n 0, 1) := by decide +kernel
theorem dX0_learn_41 : decode cX0_learn 41 = .ok (.iconst 0, 1) := by decide +kernel
theorem dX0_learn_42 : decode cX0_learn 42 = .ok (.putfield 44, 3) := by decide +kernel
theorem dX0_learn_45 : decode cX0_learn 45 = .ok (.return_, 1) := by decide +kernel
theorem dX0_noteChange_0 : decode cX0_noteChange 0 = .ok (.aload_n 0, 1) := by decide +kernel
theorem dX0_noteChange_1 : decode cX0_noteChange 1 = .ok (.invokevirtual 47, 3) := by decide +kernel
theorem dX0_noteChange_4 : decode cX0_noteChange 4 = .ok (.ifCond .eq 13, 3) := by decide +kernel
theorem dX0_noteChange_7 : decode cX0_noteChange 7 = .ok (.aload_n 0, 1) := by decide +kernel
theorem dX0_noteChange_8 : decode cX0_noteChange 8 = .ok (.dup, 1) := by decide +kernel
theorem dX0_noteChange_9 : decode cX0_noteChange 9 = .ok (.getfield 44, 3) := by decide +kernel
theorem dX0_noteChange_12 : decode cX0_noteChange 12 = .ok (.iconst 1, 1) := by decide +kernel
theorem dX0_noteChange_13 : decode cX0_noteChange 13 = .ok (.iadd, 1) := by decide +kernel
theorem dX0_noteChange_14 : decode cX0_noteChange 14 = .ok (.putfield 44, 3) := by decide +kernel
theorem dX0_noteChange_17 : decode cX0_noteChange 17 = .ok (.return_, 1) := by decide +kernel
theorem dX0_isStale_0 : decode cX0_isStale 0 = .ok (.bipush 100, 2) := by decide +kernel
theorem dX0_isStale_2 : decode cX0_isStale 2 = .ok (.aload_n 0, 1) := by decide +kernel
theorem dX0_isStale_3 : decode cX0_isStale 3 = .ok (.getfield 44, 3) := by decide +kernel
theorem dX0_isStale_6 : decode cX0_isStale 6 = .ok (.imul, 1) := by decide +kernel
theorem dX0_isStale_7 : decode cX0_isStale 7 = .ok (.iload_n 1, 1) := by decide +kernel
theorem dX0_isStale_8 : decode cX0_isStale 8 = .ok (.aload_n 0, 1) := by decide +kernel
theorem dX0_isStale_9 : decode cX0_isStale 9 = .ok (.getfield 28, 3) := by decide +kernel
theorem dX0_isStale_12 : decode cX0_isStale 12 = .ok (.imul, 1) := by decide +kernel
theorem dX0_isStale_13 : decode cX0_isStale 13 = .ok (.if_icmp .le 7, 3) := by decide +kernel
theorem dX0_isStale_16 : decode cX0_isStale 16 = .ok (.iconst 1, 1) := by decide +kernel
theorem dX0_isStale_17 : decode cX0_isStale 17 = .ok (.goto 4, 3) := by decide +kernel
theorem dX0_isStale_20 : decode cX0_isStale 20 = .ok (.iconst 0, 1) := by decide +kernel
theorem dX0_isStale_21 : decode cX0_isStale 21 = .ok (.ireturn, 1) := by decide +kernel
theorem dX0_guessBoth_0 : decode cX0_guessBoth 0 = .ok (.aload_n 0, 1) := by decide +kernel
theorem dX0_guessBoth_1 : decode cX0_guessBoth 1 = .ok (.getfield 24, 3) := by decide +kernel
theorem dX0_guessBoth_4 : decode cX0_guessBoth 4 = .ok (.iload_n 1, 1) := by decide +kernel
theorem dX0_guessBoth_5 : decode cX0_guessBoth 5 = .ok (.iload_n 2, 1) := by decide +kernel
theorem dX0_guessBoth_6 : decode cX0_guessBoth 6 = .ok (.iload_n 3, 1) := by decide +kernel
theorem dX0_guessBoth_7 : decode cX0_guessBoth 7 = .ok (.iload 4, 2) := by decide +kernel
theorem dX0_guessBoth_9 : decode cX0_guessBoth 9 = .ok (.invokevirtual 51, 3) := by decide +kernel
theorem dX0_guessBoth_12 : decode cX0_guessBoth 12 = .ok (.istore 5, 2) := by decide +kernel
theorem dX0_guessBoth_14 : decode cX0_guessBoth 14 = .ok (.aload_n 0, 1) := by decide +kernel
theorem dX0_guessBoth_15 : decode cX0_guessBoth 15 = .ok (.getfield 28, 3) := by decide +kernel
theorem dX0_guessBoth_18 : decode cX0_guessBoth 18 = .ok (.aload_n 0, 1) := by decide +kernel
theorem dX0_guessBoth_19 : decode cX0_guessBoth 19 = .ok (.getfield 24, 3) := by decide +kernel
theorem dX0_guessBoth_22 : decode cX0_guessBoth 22 = .ok (.iconst 0, 1) := by decide +kernel
theorem dX0_guessBoth_23 : decode cX0_guessBoth 23 = .ok (.bipush 99, 2) := by decide +kernel
theorem dX0_guessBoth_25 : decode cX0_guessBoth 25 = .ok (.iconst 0, 1) := by decide +kernel
theorem dX0_guessBoth_26 : decode cX0_guessBoth 26 = .ok (.bipush 99, 2) := by decide +kernel
theorem dX0_guessBoth_28 : decode cX0_guessBoth 28 = .ok (.invokevirtual 51, 3) := by decide +kernel
theorem dX0_guessBoth_31 : decode cX0_guessBoth 31 = .ok (.isub, 1) := by decide +kernel
theorem dX0_guessBoth_32 : decode cX0_guessBoth 32 = .ok (.istore 6, 2) := by decide +kernel
theorem dX0_guessBoth_34 : decode cX0_guessBoth 34 = .ok (.iload 6, 2) := by decide +kernel
theorem dX0_guessBoth_36 : decode cX0_guessBoth 36 = .ok (.ifCond .gt 6, 3) := by decide +kernel
theorem dX0_guessBoth_39 : decode cX0_guessBoth 39 = .ok (.iload 5, 2) := by decide +kernel
theorem dX0_guessBoth_41 : decode cX0_guessBoth 41 = .ok (.ireturn, 1) := by decide +kernel
theorem dX0_guessBoth_42 : decode cX0_guessBoth 42 = .ok (.aload_n 0, 1) := by decide +kernel
theorem dX0_guessBoth_43 : decode cX0_guessBoth 43 = .ok (.getfield 24, 3) := by decide +kernel
theorem dX0_guessBoth_46 : decode cX0_guessBoth 46 = .ok (.iload_n 1, 1) := by decide +kernel
theorem dX0_guessBoth_47 : decode cX0_guessBoth 47 = .ok (.iload_n 2, 1) := by decide +kernel
theorem dX0_guessBoth_48 : decode cX0_guessBoth 48 = .ok (.iconst 0, 1) := by decide +kernel
theorem dX0_guessBoth_49 : decode cX0_guessBoth 49 = .ok (.bipush 99, 2) := by decide +kernel
theorem dX0_guessBoth_51 : decode cX0_guessBoth 51 = .ok (.invokevirtual 51, 3) := by decide +kernel
theorem dX0_guessBoth_54 : decode cX0_guessBoth 54 = .ok (.istore 7, 2) := by decide +kernel
theorem dX0_guessBoth_56 : decode cX0_guessBoth 56 = .ok (.aload_n 0, 1) := by decide +kernel
theorem dX0_guessBoth_57 : decode cX0_guessBoth 57 = .ok (.getfield 24, 3) := by decide +kernel
theorem dX0_guessBoth_60 : decode cX0_guessBoth 60 = .ok (.iconst 0, 1) := by decide +kernel
theorem dX0_guessBoth_61 : decode cX0_guessBoth 61 = .ok (.bipush 99, 2) := by decide +kernel
theorem dX0_guessBoth_63 : decode cX0_guessBoth 63 = .ok (.iload_n 3, 1) := by decide +kernel
theorem dX0_guessBoth_64 : decode cX0_guessBoth 64 = .ok (.iload 4, 2) := by decide +kernel
theorem dX0_guessBoth_66 : decode cX0_guessBoth 66 = .ok (.invokevirtual 51, 3) := by decide +kernel
theorem dX0_guessBoth_69 : decode cX0_guessBoth 69 = .ok (.istore 8, 2) := by decide +kernel
theorem dX0_guessBoth_71 : decode cX0_guessBoth 71 = .ok (.aload_n 0, 1) := by decide +kernel
theorem dX0_guessBoth_72 : decode cX0_guessBoth 72 = .ok (.getfield 12, 3) := by decide +kernel
theorem dX0_guessBoth_75 : decode cX0_guessBoth 75 = .ok (.iload_n 1, 1) := by decide +kernel
theorem dX0_guessBoth_76 : decode cX0_guessBoth 76 = .ok (.iload_n 2, 1) := by decide +kernel
theorem dX0_guessBoth_77 : decode cX0_guessBoth 77 = .ok (.invokevirtual 55, 3) := by decide +kernel
theorem dX0_guessBoth_80 : decode cX0_guessBoth 80 = .ok (.iload 7, 2) := by decide +kernel
theorem dX0_guessBoth_82 : decode cX0_guessBoth 82 = .ok (.isub, 1) := by decide +kernel
theorem dX0_guessBoth_83 : decode cX0_guessBoth 83 = .ok (.iconst 0, 1) := by decide +kernel
theorem dX0_guessBoth_84 : decode cX0_guessBoth 84 = .ok (.invokestatic 59, 3) := by decide +kernel
theorem dX0_guessBoth_87 : decode cX0_guessBoth 87 = .ok (.istore 9, 2) := by decide +kernel
theorem dX0_guessBoth_89 : decode cX0_guessBoth 89 = .ok (.aload_n 0, 1) := by decide +kernel
theorem dX0_guessBoth_90 : decode cX0_guessBoth 90 = .ok (.getfield 18, 3) := by decide +kernel
theorem dX0_guessBoth_93 : decode cX0_guessBoth 93 = .ok (.iload_n 3, 1) := by decide +kernel
theorem dX0_guessBoth_94 : decode cX0_guessBoth 94 = .ok (.iload 4, 2) := by decide +kernel
theorem dX0_guessBoth_96 : decode cX0_guessBoth 96 = .ok (.invokevirtual 55, 3) := by decide +kernel
theorem dX0_guessBoth_99 : decode cX0_guessBoth 99 = .ok (.iload 8, 2) := by decide +kernel
theorem dX0_guessBoth_101 : decode cX0_guessBoth 101 = .ok (.isub, 1) := by decide +kernel
theorem dX0_guessBoth_102 : decode cX0_guessBoth 102 = .ok (.iconst 0, 1) := by decide +kernel
theorem dX0_guessBoth_103 : decode cX0_guessBoth 103 = .ok (.invokestatic 59, 3) := by decide +kernel
theorem dX0_guessBoth_106 : decode cX0_guessBoth 106 = .ok (.istore 10, 2) := by decide +kernel
theorem dX0_guessBoth_108 : decode cX0_guessBoth 108 = .ok (.iload 5, 2) := by decide +kernel
theorem dX0_guessBoth_110 : decode cX0_guessBoth 110 = .ok (.iload 9, 2) := by decide +kernel
theorem dX0_guessBoth_112 : decode cX0_guessBoth 112 = .ok (.iload 10, 2) := by decide +kernel
theorem dX0_guessBoth_114 : decode cX0_guessBoth 114 = .ok (.imul, 1) := by decide +kernel
theorem dX0_guessBoth_115 : decode cX0_guessBoth 115 = .ok (.iload 6, 2) := by decide +kernel
theorem dX0_guessBoth_117 : decode cX0_guessBoth 117 = .ok (.idiv, 1) := by decide +kernel
theorem dX0_guessBoth_118 : decode cX0_guessBoth 118 = .ok (.iadd, 1) := by decide +kernel
theorem dX0_guessBoth_119 : decode cX0_guessBoth 119 = .ok (.ireturn, 1) := by decide +kernel
theorem dX0_copyFrom_0 : decode cX0_copyFrom 0 = .ok (.aload_n 0, 1) := by decide +kernel
theorem dX0_copyFrom_1 : decode cX0_copyFrom 1 = .ok (.getfield 12, 3) := by decide +kernel
theorem dX0_copyFrom_4 : decode cX0_copyFrom 4 = .ok (.aload_n 1, 1) := by decide +kernel
theorem dX0_copyFrom_5 : decode cX0_copyFrom 5 = .ok (.getfield 12, 3) := by decide +kernel
theorem dX0_copyFrom_8 : decode cX0_copyFrom 8 = .ok (.invokevirtual 64, 3) := by decide +kernel
theorem dX0_copyFrom_11 : decode cX0_copyFrom 11 = .ok (.aload_n 0, 1) := by decide +kernel
theorem dX0_copyFrom_12 : decode cX0_copyFrom 12 = .ok (.getfield 18, 3) := by decide +kernel
theorem dX0_copyFrom_15 : decode cX0_copyFrom 15 = .ok (.aload_n 1, 1) := by decide +kernel
theorem dX0_copyFrom_16 : decode cX0_copyFrom 16 = .ok (.getfield 18, 3) := by decide +kernel
theorem dX0_copyFrom_19 : decode cX0_copyFrom 19 = .ok (.invokevirtual 64, 3) := by decide +kernel
theorem dX0_copyFrom_22 : decode cX0_copyFrom 22 = .ok (.aload_n 0, 1) := by decide +kernel
theorem dX0_copyFrom_23 : decode cX0_copyFrom 23 = .ok (.getfield 24, 3) := by decide +kernel
theorem dX0_copyFrom_26 : decode cX0_copyFrom 26 = .ok (.aload_n 1, 1) := by decide +kernel
theorem dX0_copyFrom_27 : decode cX0_copyFrom 27 = .ok (.getfield 24, 3) := by decide +kernel
theorem dX0_copyFrom_30 : decode cX0_copyFrom 30 = .ok (.invokevirtual 68, 3) := by decide +kernel
theorem dX0_copyFrom_33 : decode cX0_copyFrom 33 = .ok (.aload_n 0, 1) := by decide +kernel
theorem dX0_copyFrom_34 : decode cX0_copyFrom 34 = .ok (.aload_n 1, 1) := by decide +kernel
theorem dX0_copyFrom_35 : decode cX0_copyFrom 35 = .ok (.getfield 28, 3) := by decide +kernel
theorem dX0_copyFrom_38 : decode cX0_copyFrom 38 = .ok (.putfield 28, 3) := by decide +kernel
theorem dX0_copyFrom_41 : decode cX0_copyFrom 41 = .ok (.aload_n 0, 1) := by decide +kernel
theorem dX0_copyFrom_42 : decode cX0_copyFrom 42 = .ok (.aload_n 1, 1) := by decide +kernel
theorem dX0_copyFrom_43 : decode cX0_copyFrom 43 = .ok (.getfield 44, 3) := by decide +kernel
theorem dX0_copyFrom_46 : decode cX0_copyFrom 46 = .ok (.putfield 44, 3) := by decide +kernel
theorem dX0_copyFrom_49 : decode cX0_copyFrom 49 = .ok (.return_, 1) := by decide +kernel
theorem dX1_ofFloat_0 : decode cX1_ofFloat 0 = .ok (.fload_n 0, 1) := by decide +kernel
theorem dX1_ofFloat_1 : decode cX1_ofFloat 1 = .ok (.f2d, 1) := by decide +kernel
theorem dX1_ofFloat_2 : decode cX1_ofFloat 2 = .ok (.bipush 127, 2) := by decide +kernel
theorem dX1_ofFloat_4 : decode cX1_ofFloat 4 = .ok (.bipush 23, 2) := by decide +kernel
theorem dX1_ofFloat_6 : decode cX1_ofFloat 6 = .ok (.invokestatic 7, 3) := by decide +kernel
theorem dX1_ofFloat_9 : decode cX1_ofFloat 9 = .ok (.l2i, 1) := by decide +kernel
theorem dX1_ofFloat_10 : decode cX1_ofFloat 10 = .ok (.ireturn, 1) := by decide +kernel
theorem dX1_ofDouble_0 : decode cX1_ofDouble 0 = .ok (.dload_n 0, 1) := by decide +kernel
theorem dX1_ofDouble_1 : decode cX1_ofDouble 1 = .ok (.sipush 1023, 3) := by decide +kernel
theorem dX1_ofDouble_4 : decode cX1_ofDouble 4 = .ok (.bipush 52, 2) := by decide +kernel
theorem dX1_ofDouble_6 : decode cX1_ofDouble 6 = .ok (.invokestatic 7, 3) := by decide +kernel
theorem dX1_ofDouble_9 : decode cX1_ofDouble 9 = .ok (.lreturn, 1) := by decide +kernel
theorem dX1_bits_0 : decode cX1_bits 0 = .ok (.dload_n 0, 1) := by decide +kernel
theorem dX1_bits_1 : decode cX1_bits 1 = .ok (.dconst 0, 1) := by decide +kernel
theorem dX1_bits_2 : decode cX1_bits 2 = .ok (.dcmp .g, 1) := by decide +kernel
theorem dX1_bits_3 : decode cX1_bits 3 = .ok (.ifCond .gt 5, 3) := by decide +kernel
theorem dX1_bits_6 : decode cX1_bits 6 = .ok (.lconst 0, 1) := by decide +kernel
theorem dX1_bits_7 : decode cX1_bits 7 = .ok (.lreturn, 1) := by decide +kernel
theorem dX1_bits_8 : decode cX1_bits 8 = .ok (.iload_n 2, 1) := by decide +kernel
theorem dX1_bits_9 : decode cX1_bits 9 = .ok (.i2l, 1) := by decide +kernel
theorem dX1_bits_10 : decode cX1_bits 10 = .ok (.lstore 4, 2) := by decide +kernel
theorem dX1_bits_12 : decode cX1_bits 12 = .ok (.dload_n 0, 1) := by decide +kernel
theorem dX1_bits_13 : decode cX1_bits 13 = .ok (.dstore 6, 2) := by decide +kernel
theorem dX1_bits_15 : decode cX1_bits 15 = .ok (.iconst 0, 1) := by decide +kernel
theorem dX1_bits_16 : decode cX1_bits 16 = .ok (.istore 8, 2) := by decide +kernel
theorem dX1_bits_18 : decode cX1_bits 18 = .ok (.iload 8, 2) := by decide +kernel
theorem dX1_bits_20 : decode cX1_bits 20 = .ok (.bipush 64, 2) := by decide +kernel
theorem dX1_bits_22 : decode cX1_bits 22 = .ok (.if_icmp .ge 30, 3) := by decide +kernel
theorem dX1_bits_25 : decode cX1_bits 25 = .ok (.dload 6, 2) := by decide +kernel
theorem dX1_bits_27 : decode cX1_bits 27 = .ok (.dconst 1, 1) := by decide +kernel
theorem dX1_bits_28 : decode cX1_bits 28 = .ok (.dcmp .g, 1) := by decide +kernel
theorem dX1_bits_29 : decode cX1_bits 29 = .ok (.ifCond .ge 23, 3) := by decide +kernel
theorem dX1_bits_32 : decode cX1_bits 32 = .ok (.dload 6, 2) := by decide +kernel
theorem dX1_bits_34 : decode cX1_bits 34 = .ok (.ldc2_w 13, 3) := by decide +kernel
theorem dX1_bits_37 : decode cX1_bits 37 = .ok (.dmul, 1) := by decide +kernel
theorem dX1_bits_38 : decode cX1_bits 38 = .ok (.dstore 6, 2) := by decide +kernel
theorem dX1_bits_40 : decode cX1_bits 40 = .ok (.lload 4, 2) := by decide +kernel
theorem dX1_bits_42 : decode cX1_bits 42 = .ok (.lconst 1, 1) := by decide +kernel
theorem dX1_bits_43 : decode cX1_bits 43 = .ok (.lsub, 1) := by decide +kernel
theorem dX1_bits_44 : decode cX1_bits 44 = .ok (.lstore 4, 2) := by decide +kernel
theorem dX1_bits_46 : decode cX1_bits 46 = .ok (.iinc 8 1, 3) := by decide +kernel
theorem dX1_bits_49 : decode cX1_bits 49 = .ok (.goto (-31), 3) := by decide +kernel
theorem dX1_bits_52 : decode cX1_bits 52 = .ok (.iconst 0, 1) := by decide +kernel
theorem dX1_bits_53 : decode cX1_bits 53 = .ok (.istore 8, 2) := by decide +kernel
theorem dX1_bits_55 : decode cX1_bits 55 = .ok (.iload 8, 2) := by decide +kernel
theorem dX1_bits_57 : decode cX1_bits 57 = .ok (.bipush 64, 2) := by decide +kernel
theorem dX1_bits_59 : decode cX1_bits 59 = .ok (.if_icmp .ge 32, 3) := by decide +kernel
theorem dX1_bits_62 : decode cX1_bits 62 = .ok (.dload 6, 2) := by decide +kernel
theorem dX1_bits_64 : decode cX1_bits 64 = .ok (.ldc2_w 13, 3) := by decide +kernel
theorem dX1_bits_67 : decode cX1_bits 67 = .ok (.dcmp .l, 1) := by decide +kernel
theorem dX1_bits_68 : decode cX1_bits 68 = .ok (.ifCond .lt 23, 3) := by decide +kernel
theorem dX1_bits_71 : decode cX1_bits 71 = .ok (.dload 6, 2) := by decide +kernel
theorem dX1_bits_73 : decode cX1_bits 73 = .ok (.ldc2_w 13, 3) := by decide +kernel
theorem dX1_bits_76 : decode cX1_bits 76 = .ok (.ddiv, 1) := by decide +kernel
theorem dX1_bits_77 : decode cX1_bits 77 = .ok (.dstore 6, 2) := by decide +kernel
theorem dX1_bits_79 : decode cX1_bits 79 = .ok (.lload 4, 2) := by decide +kernel
theorem dX1_bits_81 : decode cX1_bits 81 = .ok (.lconst 1, 1) := by decide +kernel
theorem dX1_bits_82 : decode cX1_bits 82 = .ok (.ladd, 1) := by decide +kernel
theorem dX1_bits_83 : decode cX1_bits 83 = .ok (.lstore 4, 2) := by decide +kernel
theorem dX1_bits_85 : decode cX1_bits 85 = .ok (.iinc 8 1, 3) := by decide +kernel
theorem dX1_bits_88 : decode cX1_bits 88 = .ok (.goto (-33), 3) := by decide +kernel
theorem dX1_bits_91 : decode cX1_bits 91 = .ok (.dload 6, 2) := by decide +kernel
theorem dX1_bits_93 : decode cX1_bits 93 = .ok (.dconst 1, 1) := by decide +kernel
theorem dX1_bits_94 : decode cX1_bits 94 = .ok (.dsub, 1) := by decide +kernel
theorem dX1_bits_95 : decode cX1_bits 95 = .ok (.lconst 1, 1) := by decide +kernel
theorem dX1_bits_96 : decode cX1_bits 96 = .ok (.iload_n 3, 1) := by decide +kernel
theorem dX1_bits_97 : decode cX1_bits 97 = .ok (.lshl, 1) := by decide +kernel
theorem dX1_bits_98 : decode cX1_bits 98 = .ok (.l2d, 1) := by decide +kernel
theorem dX1_bits_99 : decode cX1_bits 99 = .ok (.dmul, 1) := by decide +kernel
theorem dX1_bits_100 : decode cX1_bits 100 = .ok (.dstore 8, 2) := by decide +kernel
theorem dX1_bits_102 : decode cX1_bits 102 = .ok (.lload 4, 2) := by decide +kernel
theorem dX1_bits_104 : decode cX1_bits 104 = .ok (.iload_n 3, 1) := by decide +kernel
theorem dX1_bits_105 : decode cX1_bits 105 = .ok (.lshl, 1) := by decide +kernel
theorem dX1_bits_106 : decode cX1_bits 106 = .ok (.dload 8, 2) := by decide +kernel
theorem dX1_bits_108 : decode cX1_bits 108 = .ok (.d2l, 1) := by decide +kernel
theorem dX1_bits_109 : decode cX1_bits 109 = .ok (.ladd, 1) := by decide +kernel
theorem dX1_bits_110 : decode cX1_bits 110 = .ok (.lreturn, 1) := by decide +kernel
theorem dX2_init_0 : decode cX2_init 0 = .ok (.aload_n 0, 1) := by decide +kernel
theorem dX2_init_1 : decode cX2_init 1 = .ok (.invokespecial 3, 3) := by decide +kernel
theorem dX2_init_4 : decode cX2_init 4 = .ok (.aload_n 0, 1) := by decide +kernel
theorem dX2_init_5 : decode cX2_init 5 = .ok (.bipush 100, 2) := by decide +kernel
theorem dX2_init_7 : decode cX2_init 7 = .ok (.newarray .int, 2) := by decide +kernel
theorem dX2_init_9 : decode cX2_init 9 = .ok (.putfield 9, 3) := by decide +kernel
theorem dX2_init_12 : decode cX2_init 12 = .ok (.aload_n 0, 1) := by decide +kernel
theorem dX2_init_13 : decode cX2_init 13 = .ok (.bipush 6, 2) := by decide +kernel
theorem dX2_init_15 : decode cX2_init 15 = .ok (.newarray .int, 2) := by decide +kernel
theorem dX2_init_17 : decode cX2_init 17 = .ok (.putfield 15, 3) := by decide +kernel
theorem dX2_init_20 : decode cX2_init 20 = .ok (.aload_n 0, 1) := by decide +kernel
theorem dX2_init_21 : decode cX2_init 21 = .ok (.bipush 6, 2) := by decide +kernel
theorem dX2_init_23 : decode cX2_init 23 = .ok (.newarray .int, 2) := by decide +kernel
theorem dX2_init_25 : decode cX2_init 25 = .ok (.putfield 18, 3) := by decide +kernel
theorem dX2_init_28 : decode cX2_init 28 = .ok (.aload_n 0, 1) := by decide +kernel
theorem dX2_init_29 : decode cX2_init 29 = .ok (.bipush 10, 2) := by decide +kernel
theorem dX2_init_31 : decode cX2_init 31 = .ok (.newarray .int, 2) := by decide +kernel
theorem dX2_init_33 : decode cX2_init 33 = .ok (.putfield 21, 3) := by decide +kernel
theorem dX2_init_36 : decode cX2_init 36 = .ok (.aload_n 0, 1) := by decide +kernel
theorem dX2_init_37 : decode cX2_init 37 = .ok (.bipush 10, 2) := by decide +kernel
theorem dX2_init_39 : decode cX2_init 39 = .ok (.newarray .int, 2) := by decide +kernel
theorem dX2_init_41 : decode cX2_init 41 = .ok (.putfield 24, 3) := by decide +kernel
theorem dX2_init_44 : decode cX2_init 44 = .ok (.aload_n 0, 1) := by decide +kernel
theorem dX2_init_45 : decode cX2_init 45 = .ok (.bipush 10, 2) := by decide +kernel
theorem dX2_init_47 : decode cX2_init 47 = .ok (.newarray .int, 2) := by decide +kernel
theorem dX2_init_49 : decode cX2_init 49 = .ok (.putfield 27, 3) := by decide +kernel
theorem dX2_init_52 : decode cX2_init 52 = .ok (.aload_n 0, 1) := by decide +kernel
theorem dX2_init_53 : decode cX2_init 53 = .ok (.bipush 10, 2) := by decide +kernel
theorem dX2_init_55 : decode cX2_init 55 = .ok (.newarray .int, 2) := by decide +kernel
theorem dX2_init_57 : decode cX2_init 57 = .ok (.putfield 30, 3) := by decide +kernel
theorem dX2_init_60 : decode cX2_init 60 = .ok (.return_, 1) := by decide +kernel
theorem dX2_learn_0 : decode cX2_learn 0 = .ok (.aload_n 0, 1) := by decide +kernel
theorem dX2_learn_1 : decode cX2_learn 1 = .ok (.aload_n 1, 1) := by decide +kernel
theorem dX2_learn_2 : decode cX2_learn 2 = .ok (.iload_n 2, 1) := by decide +kernel
theorem dX2_learn_3 : decode cX2_learn 3 = .ok (.invokevirtual 33, 3) := by decide +kernel
theorem dX2_learn_6 : decode cX2_learn 6 = .ok (.aload_n 0, 1) := by decide +kernel
theorem dX2_learn_7 : decode cX2_learn 7 = .ok (.iload_n 3, 1) := by decide +kernel
theorem dX2_learn_8 : decode cX2_learn 8 = .ok (.invokevirtual 37, 3) := by decide +kernel
theorem dX2_learn_11 : decode cX2_learn 11 = .ok (.aload_n 0, 1) := by decide +kernel
theorem dX2_learn_12 : decode cX2_learn 12 = .ok (.aload_n 1, 1) := by decide +kernel
theorem dX2_learn_13 : decode cX2_learn 13 = .ok (.getfield 41, 3) := by decide +kernel
theorem dX2_learn_16 : decode cX2_learn 16 = .ok (.iload 4, 2) := by decide +kernel
theorem dX2_learn_18 : decode cX2_learn 18 = .ok (.invokevirtual 47, 3) := by decide +kernel
theorem dX2_learn_21 : decode cX2_learn 21 = .ok (.return_, 1) := by decide +kernel
theorem dX2_countValues_0 : decode cX2_countValues 0 = .ok (.iconst 0, 1) := by decide +kernel
theorem dX2_countValues_1 : decode cX2_countValues 1 = .ok (.istore_n 3, 1) := by decide +kernel
theorem dX2_countValues_2 : decode cX2_countValues 2 = .ok (.iload_n 3, 1) := by decide +kernel
theorem dX2_countValues_3 : decode cX2_countValues 3 = .ok (.bipush 100, 2) := by decide +kernel
theorem dX2_countValues_5 : decode cX2_countValues 5 = .ok (.if_icmp .ge 16, 3) := by decide +kernel
theorem dX2_countValues_8 : decode cX2_countValues 8 = .ok (.aload_n 0, 1) := by decide +kernel
theorem dX2_countValues_9 : decode cX2_countValues 9 = .ok (.getfield 9, 3) := by decide +kernel
theorem dX2_countValues_12 : decode cX2_countValues 12 = .ok (.iload_n 3, 1) := by decide +kernel
theorem dX2_countValues_13 : decode cX2_countValues 13 = .ok (.iconst 0, 1) := by decide +kernel
theorem dX2_countValues_14 : decode cX2_countValues 14 = .ok (.iastore, 1) := by decide +kernel
theorem dX2_countValues_15 : decode cX2_countValues 15 = .ok (.iinc 3 1, 3) := by decide +kernel
theorem dX2_countValues_18 : decode cX2_countValues 18 = .ok (.goto (-16), 3) := by decide +kernel
theorem dX2_countValues_21 : decode cX2_countValues 21 = .ok (.iconst 0, 1) := by decide +kernel
theorem dX2_countValues_22 : decode cX2_countValues 22 = .ok (.istore_n 3, 1) := by decide +kernel
theorem dX2_countValues_23 : decode cX2_countValues 23 = .ok (.iload_n 3, 1) := by decide +kernel
theorem dX2_countValues_24 : decode cX2_countValues 24 = .ok (.aload_n 1, 1) := by decide +kernel
theorem dX2_countValues_25 : decode cX2_countValues 25 = .ok (.getfield 41, 3) := by decide +kernel
theorem dX2_countValues_28 : decode cX2_countValues 28 = .ok (.if_icmp .ge 40, 3) := by decide +kernel
theorem dX2_countValues_31 : decode cX2_countValues 31 = .ok (.aload_n 1, 1) := by decide +kernel
theorem dX2_countValues_32 : decode cX2_countValues 32 = .ok (.iload_n 3, 1) := by decide +kernel
theorem dX2_countValues_33 : decode cX2_countValues 33 = .ok (.iload_n 2, 1) := by decide +kernel
theorem dX2_countValues_34 : decode cX2_countValues 34 = .ok (.invokevirtual 51, 3) := by decide +kernel
theorem dX2_countValues_37 : decode cX2_countValues 37 = .ok (.istore 4, 2) := by decide +kernel
theorem dX2_countValues_39 : decode cX2_countValues 39 = .ok (.iload 4, 2) := by decide +kernel
theorem dX2_countValues_41 : decode cX2_countValues 41 = .ok (.ifCond .lt 21, 3) := by decide +kernel
theorem dX2_countValues_44 : decode cX2_countValues 44 = .ok (.iload 4, 2) := by decide +kernel
theorem dX2_countValues_46 : decode cX2_countValues 46 = .ok (.bipush 100, 2) := by decide +kernel
theorem dX2_countValues_48 : decode cX2_countValues 48 = .ok (.if_icmp .ge 14, 3) := by decide +kernel
theorem dX2_countValues_51 : decode cX2_countValues 51 = .ok (.aload_n 0, 1) := by decide +kernel
theorem dX2_countValues_52 : decode cX2_countValues 52 = .ok (.getfield 9, 3) := by decide +kernel
theorem dX2_countValues_55 : decode cX2_countValues 55 = .ok (.iload 4, 2) := by decide +kernel
theorem dX2_countValues_57 : decode cX2_countValues 57 = .ok (.dup2, 1) := by decide +kernel
theorem dX2_countValues_58 : decode cX2_countValues 58 = .ok (.iaload, 1) := by decide +kernel
theorem dX2_countValues_59 : decode cX2_countValues 59 = .ok (.iconst 1, 1) := by decide +kernel
theorem dX2_countValues_60 : decode cX2_countValues 60 = .ok (.iadd, 1) := by decide +kernel
theorem dX2_countValues_61 : decode cX2_countValues 61 = .ok (.iastore, 1) := by decide +kernel
theorem dX2_countValues_62 : decode cX2_countValues 62 = .ok (.iinc 3 1, 3) := by decide +kernel
theorem dX2_countValues_65 : decode cX2_countValues 65 = .ok (.goto (-42), 3) := by decide +kernel
theorem dX2_countValues_68 : decode cX2_countValues 68 = .ok (.return_, 1) := by decide +kernel
theorem dX2_chooseCommon_0 : decode cX2_chooseCommon 0 = .ok (.aload_n 0, 1) := by decide +kernel
theorem dX2_chooseCommon_1 : decode cX2_chooseCommon 1 = .ok (.iconst 0, 1) := by decide +kernel
theorem dX2_chooseCommon_2 : decode cX2_chooseCommon 2 = .ok (.putfield 55, 3) := by decide +kernel
theorem dX2_chooseCommon_5 : decode cX2_chooseCommon 5 = .ok (.ldc 58, 2) := by decide +kernel
theorem dX2_chooseCommon_7 : decode cX2_chooseCommon 7 = .ok (.istore_n 2, 1) := by decide +kernel
theorem dX2_chooseCommon_8 : decode cX2_chooseCommon 8 = .ok (.iconst 0, 1) := by decide +kernel
theorem dX2_chooseCommon_9 : decode cX2_chooseCommon 9 = .ok (.istore_n 3, 1) := by decide +kernel
theorem dX2_chooseCommon_10 : decode cX2_chooseCommon 10 = .ok (.iload_n 3, 1) := by decide +kernel
theorem dX2_chooseCommon_11 : decode cX2_chooseCommon 11 = .ok (.iload_n 1, 1) := by decide +kernel
theorem dX2_chooseCommon_12 : decode cX2_chooseCommon 12 = .ok (.if_icmp .ge 59, 3) := by decide +kernel
theorem dX2_chooseCommon_15 : decode cX2_chooseCommon 15 = .ok (.iload_n 3, 1) := by decide +kernel
theorem dX2_chooseCommon_16 : decode cX2_chooseCommon 16 = .ok (.bipush 6, 2) := by decide +kernel
theorem dX2_chooseCommon_18 : decode cX2_chooseCommon 18 = .ok (.if_icmp .ge 53, 3) := by decide +kernel
theorem dX2_chooseCommon_21 : decode cX2_chooseCommon 21 = .ok (.aload_n 0, 1) := by decide +kernel
theorem dX2_chooseCommon_22 : decode cX2_chooseCommon 22 = .ok (.iload_n 2, 1) := by decide +kernel
theorem dX2_chooseCommon_23 : decode cX2_chooseCommon 23 = .ok (.invokevirtual 59, 3) := by decide +kernel
theorem dX2_chooseCommon_26 : decode cX2_chooseCommon 26 = .ok (.istore_n 2, 1) := by decide +kernel
theorem dX2_chooseCommon_27 : decode cX2_chooseCommon 27 = .ok (.iload_n 2, 1) := by decide +kernel
theorem dX2_chooseCommon_28 : decode cX2_chooseCommon 28 = .ok (.ifCond .ne 4, 3) := by decide +kernel
theorem dX2_chooseCommon_31 : decode cX2_chooseCommon 31 = .ok (.return_, 1) := by decide +kernel
theorem dX2_chooseCommon_32 : decode cX2_chooseCommon 32 = .ok (.aload_n 0, 1) := by decide +kernel
theorem dX2_chooseCommon_33 : decode cX2_chooseCommon 33 = .ok (.getfield 15, 3) := by decide +kernel
theorem dX2_chooseCommon_36 : decode cX2_chooseCommon 36 = .ok (.iload_n 3, 1) := by decide +kernel
theorem dX2_chooseCommon_37 : decode cX2_chooseCommon 37 = .ok (.bipush 99, 2) := by decide +kernel
theorem dX2_chooseCommon_39 : decode cX2_chooseCommon 39 = .ok (.iload_n 2, 1) := by decide +kernel
theorem dX2_chooseCommon_40 : decode cX2_chooseCommon 40 = .ok (.bipush 100, 2) := by decide +kernel
theorem dX2_chooseCommon_42 : decode cX2_chooseCommon 42 = .ok (.irem, 1) := by decide +kernel
theorem dX2_chooseCommon_43 : decode cX2_chooseCommon 43 = .ok (.isub, 1) := by decide +kernel
theorem dX2_chooseCommon_44 : decode cX2_chooseCommon 44 = .ok (.iastore, 1) := by decide +kernel
theorem dX2_chooseCommon_45 : decode cX2_chooseCommon 45 = .ok (.aload_n 0, 1) := by decide +kernel
theorem dX2_chooseCommon_46 : decode cX2_chooseCommon 46 = .ok (.getfield 18, 3) := by decide +kernel
theorem dX2_chooseCommon_49 : decode cX2_chooseCommon 49 = .ok (.iload_n 3, 1) := by decide +kernel
theorem dX2_chooseCommon_50 : decode cX2_chooseCommon 50 = .ok (.iload_n 2, 1) := by decide +kernel
theorem dX2_chooseCommon_51 : decode cX2_chooseCommon 51 = .ok (.bipush 100, 2) := by decide +kernel
theorem dX2_chooseCommon_53 : decode cX2_chooseCommon 53 = .ok (.idiv, 1) := by decide +kernel
theorem dX2_chooseCommon_54 : decode cX2_chooseCommon 54 = .ok (.iastore, 1) := by decide +kernel
theorem dX2_chooseCommon_55 : decode cX2_chooseCommon 55 = .ok (.aload_n 0, 1) := by decide +kernel
theorem dX2_chooseCommon_56 : decode cX2_chooseCommon 56 = .ok (.dup, 1) := by decide +kernel
theorem dX2_chooseCommon_57 : decode cX2_chooseCommon 57 = .ok (.getfield 55, 3) := by decide +kernel
theorem dX2_chooseCommon_60 : decode cX2_chooseCommon 60 = .ok (.iconst 1, 1) := by decide +kernel
theorem dX2_chooseCommon_61 : decode cX2_chooseCommon 61 = .ok (.iadd, 1) := by decide +kernel
theorem dX2_chooseCommon_62 : decode cX2_chooseCommon 62 = .ok (.putfield 55, 3) := by decide +kernel
theorem dX2_chooseCommon_65 : decode cX2_chooseCommon 65 = .ok (.iinc 3 1, 3) := by decide +kernel
theorem dX2_chooseCommon_68 : decode cX2_chooseCommon 68 = .ok (.goto (-58), 3) := by decide +kernel
theorem dX2_chooseCommon_71 : decode cX2_chooseCommon 71 = .ok (.return_, 1) := by decide +kernel
theorem dX2_nextRank_0 : decode cX2_nextRank 0 = .ok (.iconst 0, 1) := by decide +kernel
theorem dX2_nextRank_1 : decode cX2_nextRank 1 = .ok (.istore_n 2, 1) := by decide +kernel
theorem dX2_nextRank_2 : decode cX2_nextRank 2 = .ok (.iconst 0, 1) := by decide +kernel
theorem dX2_nextRank_3 : decode cX2_nextRank 3 = .ok (.istore_n 3, 1) := by decide +kernel
theorem dX2_nextRank_4 : decode cX2_nextRank 4 = .ok (.iload_n 3, 1) := by decide +kernel
theorem dX2_nextRank_5 : decode cX2_nextRank 5 = .ok (.bipush 100, 2) := by decide +kernel
theorem dX2_nextRank_7 : decode cX2_nextRank 7 = .ok (.if_icmp .ge 50, 3) := by decide +kernel
theorem dX2_nextRank_10 : decode cX2_nextRank 10 = .ok (.aload_n 0, 1) := by decide +kernel
theorem dX2_nextRank_11 : decode cX2_nextRank 11 = .ok (.getfield 9, 3) := by decide +kernel
theorem dX2_nextRank_14 : decode cX2_nextRank 14 = .ok (.iload_n 3, 1) := by decide +kernel
theorem dX2_nextRank_15 : decode cX2_nextRank 15 = .ok (.iaload, 1) := by decide +kernel
theorem dX2_nextRank_16 : decode cX2_nextRank 16 = .ok (.bipush 100, 2) := by decide +kernel
theorem dX2_nextRank_18 : decode cX2_nextRank 18 = .ok (.imul, 1) := by decide +kernel
theorem dX2_nextRank_19 : decode cX2_nextRank 19 = .ok (.bipush 99, 2) := by decide +kernel
theorem dX2_nextRank_21 : decode cX2_nextRank 21 = .ok (.iadd, 1) := by decide +kernel
theorem dX2_nextRank_22 : decode cX2_nextRank 22 = .ok (.iload_n 3, 1) := by decide +kernel
theorem dX2_nextRank_23 : decode cX2_nextRank 23 = .ok (.isub, 1) := by decide +kernel
theorem dX2_nextRank_24 : decode cX2_nextRank 24 = .ok (.istore 4, 2) := by decide +kernel
theorem dX2_nextRank_26 : decode cX2_nextRank 26 = .ok (.aload_n 0, 1) := by decide +kernel
theorem dX2_nextRank_27 : decode cX2_nextRank 27 = .ok (.getfield 9, 3) := by decide +kernel
theorem dX2_nextRank_30 : decode cX2_nextRank 30 = .ok (.iload_n 3, 1) := by decide +kernel
theorem dX2_nextRank_31 : decode cX2_nextRank 31 = .ok (.iaload, 1) := by decide +kernel
theorem dX2_nextRank_32 : decode cX2_nextRank 32 = .ok (.iconst 2, 1) := by decide +kernel
theorem dX2_nextRank_33 : decode cX2_nextRank 33 = .ok (.if_icmp .lt 18, 3) := by decide +kernel
theorem dX2_nextRank_36 : decode cX2_nextRank 36 = .ok (.iload 4, 2) := by decide +kernel
theorem dX2_nextRank_38 : decode cX2_nextRank 38 = .ok (.iload_n 1, 1) := by decide +kernel
theorem dX2_nextRank_39 : decode cX2_nextRank 39 = .ok (.if_icmp .ge 12, 3) := by decide +kernel
theorem dX2_nextRank_42 : decode cX2_nextRank 42 = .ok (.iload 4, 2) := by decide +kernel
theorem dX2_nextRank_44 : decode cX2_nextRank 44 = .ok (.iload_n 2, 1) := by decide +kernel
theorem dX2_nextRank_45 : decode cX2_nextRank 45 = .ok (.if_icmp .le 6, 3) := by decide +kernel
theorem dX2_nextRank_48 : decode cX2_nextRank 48 = .ok (.iload 4, 2) := by decide +kernel
theorem dX2_nextRank_50 : decode cX2_nextRank 50 = .ok (.istore_n 2, 1) := by decide +kernel
theorem dX2_nextRank_51 : decode cX2_nextRank 51 = .ok (.iinc 3 1, 3) := by decide +kernel
theorem dX2_nextRank_54 : decode cX2_nextRank 54 = .ok (.goto (-50), 3) := by decide +kernel
theorem dX2_nextRank_57 : decode cX2_nextRank 57 = .ok (.iload_n 2, 1) := by decide +kernel
theorem dX2_nextRank_58 : decode cX2_nextRank 58 = .ok (.ireturn, 1) := by decide +kernel
theorem dX2_isCommon_0 : decode cX2_isCommon 0 = .ok (.iconst 0, 1) := by decide +kernel
theorem dX2_isCommon_1 : decode cX2_isCommon 1 = .ok (.istore_n 2, 1) := by decide +kernel
theorem dX2_isCommon_2 : decode cX2_isCommon 2 = .ok (.iload_n 2, 1) := by decide +kernel
theorem dX2_isCommon_3 : decode cX2_isCommon 3 = .ok (.aload_n 0, 1) := by decide +kernel
theorem dX2_isCommon_4 : decode cX2_isCommon 4 = .ok (.getfield 55, 3) := by decide +kernel
theorem dX2_isCommon_7 : decode cX2_isCommon 7 = .ok (.if_icmp .ge 21, 3) := by decide +kernel
theorem dX2_isCommon_10 : decode cX2_isCommon 10 = .ok (.aload_n 0, 1) := by decide +kernel
theorem dX2_isCommon_11 : decode cX2_isCommon 11 = .ok (.getfield 15, 3) := by decide +kernel
theorem dX2_isCommon_14 : decode cX2_isCommon 14 = .ok (.iload_n 2, 1) := by decide +kernel
theorem dX2_isCommon_15 : decode cX2_isCommon 15 = .ok (.iaload, 1) := by decide +kernel
theorem dX2_isCommon_16 : decode cX2_isCommon 16 = .ok (.iload_n 1, 1) := by decide +kernel
theorem dX2_isCommon_17 : decode cX2_isCommon 17 = .ok (.if_icmp .ne 5, 3) := by decide +kernel
theorem dX2_isCommon_20 : decode cX2_isCommon 20 = .ok (.iconst 1, 1) := by decide +kernel
theorem dX2_isCommon_21 : decode cX2_isCommon 21 = .ok (.ireturn, 1) := by decide +kernel
theorem dX2_isCommon_22 : decode cX2_isCommon 22 = .ok (.iinc 2 1, 3) := by decide +kernel
theorem dX2_isCommon_25 : decode cX2_isCommon 25 = .ok (.goto (-23), 3) := by decide +kernel
theorem dX2_isCommon_28 : decode cX2_isCommon 28 = .ok (.iconst 0, 1) := by decide +kernel
theorem dX2_isCommon_29 : decode cX2_isCommon 29 = .ok (.ireturn, 1) := by decide +kernel
theorem dX2_cutBuckets_0 : decode cX2_cutBuckets 0 = .ok (.iload_n 1, 1) := by decide +kernel
theorem dX2_cutBuckets_1 : decode cX2_cutBuckets 1 = .ok (.istore_n 3, 1) := by decide +kernel
theorem dX2_cutBuckets_2 : decode cX2_cutBuckets 2 = .ok (.iconst 0, 1) := by decide +kernel
theorem dX2_cutBuckets_3 : decode cX2_cutBuckets 3 = .ok (.istore 4, 2) := by decide +kernel
theorem dX2_cutBuckets_5 : decode cX2_cutBuckets 5 = .ok (.iload 4, 2) := by decide +kernel
theorem dX2_cutBuckets_7 : decode cX2_cutBuckets 7 = .ok (.aload_n 0, 1) := by decide +kernel
theorem dX2_cutBuckets_8 : decode cX2_cutBuckets 8 = .ok (.getfield 55, 3) := by decide +kernel
theorem dX2_cutBuckets_11 : decode cX2_cutBuckets 11 = .ok (.if_icmp .ge 19, 3) := by decide +kernel
theorem dX2_cutBuckets_14 : decode cX2_cutBuckets 14 = .ok (.iload_n 3, 1) := by decide +kernel
theorem dX2_cutBuckets_15 : decode cX2_cutBuckets 15 = .ok (.aload_n 0, 1) := by decide +kernel
theorem dX2_cutBuckets_16 : decode cX2_cutBuckets 16 = .ok (.getfield 18, 3) := by decide +kernel
theorem dX2_cutBuckets_19 : decode cX2_cutBuckets 19 = .ok (.iload 4, 2) := by decide +kernel
theorem dX2_cutBuckets_21 : decode cX2_cutBuckets 21 = .ok (.iaload, 1) := by decide +kernel
theorem dX2_cutBuckets_22 : decode cX2_cutBuckets 22 = .ok (.isub, 1) := by decide +kernel
theorem dX2_cutBuckets_23 : decode cX2_cutBuckets 23 = .ok (.istore_n 3, 1) := by decide +kernel
theorem dX2_cutBuckets_24 : decode cX2_cutBuckets 24 = .ok (.iinc 4 1, 3) := by decide +kernel
theorem dX2_cutBuckets_27 : decode cX2_cutBuckets 27 = .ok (.goto (-22), 3) := by decide +kernel
theorem dX2_cutBuckets_30 : decode cX2_cutBuckets 30 = .ok (.aload_n 0, 1) := by decide +kernel
theorem dX2_cutBuckets_31 : decode cX2_cutBuckets 31 = .ok (.iload_n 2, 1) := by decide +kernel
theorem dX2_cutBuckets_32 : decode cX2_cutBuckets 32 = .ok (.bipush 10, 2) := by decide +kernel
theorem dX2_cutBuckets_34 : decode cX2_cutBuckets 34 = .ok (.invokestatic 63, 3) := by decide +kernel
theorem dX2_cutBuckets_37 : decode cX2_cutBuckets 37 = .ok (.iload_n 3, 1) := by decide +kernel
theorem dX2_cutBuckets_38 : decode cX2_cutBuckets 38 = .ok (.invokestatic 63, 3) := by decide +kernel
theorem dX2_cutBuckets_41 : decode cX2_cutBuckets 41 = .ok (.putfield 68, 3) := by decide +kernel
theorem dX2_cutBuckets_44 : decode cX2_cutBuckets 44 = .ok (.iconst (-1), 1) := by decide +kernel
theorem dX2_cutBuckets_45 : decode cX2_cutBuckets 45 = .ok (.istore 4, 2) := by decide +kernel
theorem dX2_cutBuckets_47 : decode cX2_cutBuckets 47 = .ok (.iconst 0, 1) := by decide +kernel
theorem dX2_cutBuckets_48 : decode cX2_cutBuckets 48 = .ok (.istore 5, 2) := by decide +kernel
theorem dX2_cutBuckets_50 : decode cX2_cutBuckets 50 = .ok (.iconst 0, 1) := by decide +kernel
theorem dX2_cutBuckets_51 : decode cX2_cutBuckets 51 = .ok (.istore 6, 2) := by decide +kernel
theorem dX2_cutBuckets_53 : decode cX2_cutBuckets 53 = .ok (.iload 6, 2) := by decide +kernel
theorem dX2_cutBuckets_55 : decode cX2_cutBuckets 55 = .ok (.bipush 100, 2) := by decide +kernel
theorem dX2_cutBuckets_57 : decode cX2_cutBuckets 57 = .ok (.if_icmp .ge 83, 3) := by decide +kernel
theorem dX2_cutBuckets_60 : decode cX2_cutBuckets 60 = .ok (.aload_n 0, 1) := by decide +kernel
theorem dX2_cutBuckets_61 : decode cX2_cutBuckets 61 = .ok (.iload 6, 2) := by decide +kernel
theorem dX2_cutBuckets_63 : decode cX2_cutBuckets 63 = .ok (.invokevirtual 71, 3) := by decide +kernel
theorem dX2_cutBuckets_66 : decode cX2_cutBuckets 66 = .ok (.ifCond .eq 7, 3) := by decide +kernel
theorem dX2_cutBuckets_69 : decode cX2_cutBuckets 69 = .ok (.iconst 0, 1) := by decide +kernel
theorem dX2_cutBuckets_70 : decode cX2_cutBuckets 70 = .ok (.goto 10, 3) := by decide +kernel
theorem dX2_cutBuckets_73 : decode cX2_cutBuckets 73 = .ok (.aload_n 0, 1) := by decide +kernel
theorem dX2_cutBuckets_74 : decode cX2_cutBuckets 74 = .ok (.getfield 9, 3) := by decide +kernel
theorem dX2_cutBuckets_77 : decode cX2_cutBuckets 77 = .ok (.iload 6, 2) := by decide +kernel
theorem dX2_cutBuckets_79 : decode cX2_cutBuckets 79 = .ok (.iaload, 1) := by decide +kernel
theorem dX2_cutBuckets_80 : decode cX2_cutBuckets 80 = .ok (.istore 7, 2) := by decide +kernel
theorem dX2_cutBuckets_82 : decode cX2_cutBuckets 82 = .ok (.iconst 0, 1) := by decide +kernel
theorem dX2_cutBuckets_83 : decode cX2_cutBuckets 83 = .ok (.istore 8, 2) := by decide +kernel
theorem dX2_cutBuckets_85 : decode cX2_cutBuckets 85 = .ok (.iload 8, 2) := by decide +kernel
theorem dX2_cutBuckets_87 : decode cX2_cutBuckets 87 = .ok (.iload 7, 2) := by decide +kernel
theorem dX2_cutBuckets_89 : decode cX2_cutBuckets 89 = .ok (.if_icmp .ge 45, 3) := by decide +kernel
theorem dX2_cutBuckets_92 : decode cX2_cutBuckets 92 = .ok (.iload 5, 2) := by decide +kernel
theorem dX2_cutBuckets_94 : decode cX2_cutBuckets 94 = .ok (.ifCond .ne 23, 3) := by decide +kernel
theorem dX2_cutBuckets_97 : decode cX2_cutBuckets 97 = .ok (.iinc 4 1, 3) := by decide +kernel
theorem dX2_cutBuckets_100 : decode cX2_cutBuckets 100 = .ok (.aload_n 0, 1) := by decide +kernel
theorem dX2_cutBuckets_101 : decode cX2_cutBuckets 101 = .ok (.iload 4, 2) := by decide +kernel
theorem dX2_cutBuckets_103 : decode cX2_cutBuckets 103 = .ok (.iload_n 3, 1) := by decide +kernel
theorem dX2_cutBuckets_104 : decode cX2_cutBuckets 104 = .ok (.invokevirtual 75, 3) := by decide +kernel
theorem dX2_cutBuckets_107 : decode cX2_cutBuckets 107 = .ok (.istore 5, 2) := by decide +kernel
theorem dX2_cutBuckets_109 : decode cX2_cutBuckets 109 = .ok (.aload_n 0, 1) := by decide +kernel
theorem dX2_cutBuckets_110 : decode cX2_cutBuckets 110 = .ok (.iload 4, 2) := by decide +kernel
theorem dX2_cutBuckets_112 : decode cX2_cutBuckets 112 = .ok (.iload 6, 2) := by decide +kernel
theorem dX2_cutBuckets_114 : decode cX2_cutBuckets 114 = .ok (.invokevirtual 78, 3) := by decide +kernel
theorem dX2_cutBuckets_117 : decode cX2_cutBuckets 117 = .ok (.aload_n 0, 1) := by decide +kernel
theorem dX2_cutBuckets_118 : decode cX2_cutBuckets 118 = .ok (.iload 4, 2) := by decide +kernel
theorem dX2_cutBuckets_120 : decode cX2_cutBuckets 120 = .ok (.iload 6, 2) := by decide +kernel
theorem dX2_cutBuckets_122 : decode cX2_cutBuckets 122 = .ok (.invokevirtual 81, 3) := by decide +kernel
theorem dX2_cutBuckets_125 : decode cX2_cutBuckets 125 = .ok (.iinc 5 (-1), 3) := by decide +kernel
theorem dX2_cutBuckets_128 : decode cX2_cutBuckets 128 = .ok (.iinc 8 1, 3) := by decide +kernel
theorem dX2_cutBuckets_131 : decode cX2_cutBuckets 131 = .ok (.goto (-46), 3) := by decide +kernel
theorem dX2_cutBuckets_134 : decode cX2_cutBuckets 134 = .ok (.iinc 6 1, 3) := by decide +kernel
theorem dX2_cutBuckets_137 : decode cX2_cutBuckets 137 = .ok (.goto (-84), 3) := by decide +kernel
theorem dX2_cutBuckets_140 : decode cX2_cutBuckets 140 = .ok (.return_, 1) := by decide +kernel
theorem dX2_fullHeight_0 : decode cX2_fullHeight 0 = .ok (.aload_n 0, 1) := by decide +kernel
theorem dX2_fullHeight_1 : decode cX2_fullHeight 1 = .ok (.getfield 68, 3) := by decide +kernel
theorem dX2_fullHeight_4 : decode cX2_fullHeight 4 = .ok (.ifCond .gt 5, 3) := by decide +kernel
theorem dX2_fullHeight_7 : decode cX2_fullHeight 7 = .ok (.iconst 0, 1) := by decide +kernel
theorem dX2_fullHeight_8 : decode cX2_fullHeight 8 = .ok (.ireturn, 1) := by decide +kernel
theorem dX2_fullHeight_9 : decode cX2_fullHeight 9 = .ok (.iload_n 2, 1) := by decide +kernel
theorem dX2_fullHeight_10 : decode cX2_fullHeight 10 = .ok (.aload_n 0, 1) := by decide +kernel
theorem dX2_fullHeight_11 : decode cX2_fullHeight 11 = .ok (.getfield 68, 3) := by decide +kernel
theorem dX2_fullHeight_14 : decode cX2_fullHeight 14 = .ok (.idiv, 1) := by decide +kernel
theorem dX2_fullHeight_15 : decode cX2_fullHeight 15 = .ok (.iload_n 1, 1) := by decide +kernel
theorem dX2_fullHeight_16 : decode cX2_fullHeight 16 = .ok (.iload_n 2, 1) := by decide +kernel
theorem dX2_fullHeight_17 : decode cX2_fullHeight 17 = .ok (.aload_n 0, 1) := by decide +kernel
theorem dX2_fullHeight_18 : decode cX2_fullHeight 18 = .ok (.getfield 68, 3) := by decide +kernel
theorem dX2_fullHeight_21 : decode cX2_fullHeight 21 = .ok (.irem, 1) := by decide +kernel
theorem dX2_fullHeight_22 : decode cX2_fullHeight 22 = .ok (.if_icmp .ge 7, 3) := by decide +kernel
theorem dX2_fullHeight_25 : decode cX2_fullHeight 25 = .ok (.iconst 1, 1) := by decide +kernel
theorem dX2_fullHeight_26 : decode cX2_fullHeight 26 = .ok (.goto 4, 3) := by decide +kernel
theorem dX2_fullHeight_29 : decode cX2_fullHeight 29 = .ok (.iconst 0, 1) := by decide +kernel
theorem dX2_fullHeight_30 : decode cX2_fullHeight 30 = .ok (.iadd, 1) := by decide +kernel
theorem dX2_fullHeight_31 : decode cX2_fullHeight 31 = .ok (.ireturn, 1) := by decide +kernel
theorem dX2_startBucket_0 : decode cX2_startBucket 0 = .ok (.iload_n 1, 1) := by decide +kernel
theorem dX2_startBucket_1 : decode cX2_startBucket 1 = .ok (.ifCond .lt 11, 3) := by decide +kernel
theorem dX2_startBucket_4 : decode cX2_startBucket 4 = .ok (.iload_n 1, 1) := by decide +kernel
theorem dX2_startBucket_5 : decode cX2_startBucket 5 = .ok (.aload_n 0, 1) := by decide +kernel
theorem dX2_startBucket_6 : decode cX2_startBucket 6 = .ok (.getfield 68, 3) := by decide +kernel
theorem dX2_startBucket_9 : decode cX2_startBucket 9 = .ok (.if_icmp .lt 4, 3) := by decide +kernel
theorem dX2_startBucket_12 : decode cX2_startBucket 12 = .ok (.return_, 1) := by decide +kernel
theorem dX2_startBucket_13 : decode cX2_startBucket 13 = .ok (.aload_n 0, 1) := by decide +kernel
theorem dX2_startBucket_14 : decode cX2_startBucket 14 = .ok (.getfield 21, 3) := by decide +kernel
theorem dX2_startBucket_17 : decode cX2_startBucket 17 = .ok (.iload_n 1, 1) := by decide +kernel
theorem dX2_startBucket_18 : decode cX2_startBucket 18 = .ok (.iload_n 2, 1) := by decide +kernel
theorem dX2_startBucket_19 : decode cX2_startBucket 19 = .ok (.iastore, 1) := by decide +kernel
theorem dX2_startBucket_20 : decode cX2_startBucket 20 = .ok (.aload_n 0, 1) := by decide +kernel
theorem dX2_startBucket_21 : decode cX2_startBucket 21 = .ok (.getfield 24, 3) := by decide +kernel
theorem dX2_startBucket_24 : decode cX2_startBucket 24 = .ok (.iload_n 1, 1) := by decide +kernel
theorem dX2_startBucket_25 : decode cX2_startBucket 25 = .ok (.iload_n 2, 1) := by decide +kernel
theorem dX2_startBucket_26 : decode cX2_startBucket 26 = .ok (.iastore, 1) := by decide +kernel
theorem dX2_startBucket_27 : decode cX2_startBucket 27 = .ok (.aload_n 0, 1) := by decide +kernel
theorem dX2_startBucket_28 : decode cX2_startBucket 28 = .ok (.getfield 27, 3) := by decide +kernel
theorem dX2_startBucket_31 : decode cX2_startBucket 31 = .ok (.iload_n 1, 1) := by decide +kernel
theorem dX2_startBucket_32 : decode cX2_startBucket 32 = .ok (.iconst 0, 1) := by decide +kernel
theorem dX2_startBucket_33 : decode cX2_startBucket 33 = .ok (.iastore, 1) := by decide +kernel
theorem dX2_startBucket_34 : decode cX2_startBucket 34 = .ok (.aload_n 0, 1) := by decide +kernel
theorem dX2_startBucket_35 : decode cX2_startBucket 35 = .ok (.getfield 30, 3) := by decide +kernel
theorem dX2_startBucket_38 : decode cX2_startBucket 38 = .ok (.iload_n 1, 1) := by decide +kernel
theorem dX2_startBucket_39 : decode cX2_startBucket 39 = .ok (.iconst 1, 1) := by decide +kernel
theorem dX2_startBucket_40 : decode cX2_startBucket 40 = .ok (.iastore, 1) := by decide +kernel
theorem dX2_startBucket_41 : decode cX2_startBucket 41 = .ok (.return_, 1) := by decide +kernel
theorem dX2_addToBucket_0 : decode cX2_addToBucket 0 = .ok (.iload_n 1, 1) := by decide +kernel
theorem dX2_addToBucket_1 : decode cX2_addToBucket 1 = .ok (.ifCond .lt 11, 3) := by decide +kernel
theorem dX2_addToBucket_4 : decode cX2_addToBucket 4 = .ok (.iload_n 1, 1) := by decide +kernel
theorem dX2_addToBucket_5 : decode cX2_addToBucket 5 = .ok (.aload_n 0, 1) := by decide +kernel
theorem dX2_addToBucket_6 : decode cX2_addToBucket 6 = .ok (.getfield 68, 3) := by decide +kernel
theorem dX2_addToBucket_9 : decode cX2_addToBucket 9 = .ok (.if_icmp .lt 4, 3) := by decide +kernel
theorem dX2_addToBucket_12 : decode cX2_addToBucket 12 = .ok (.return_, 1) := by decide +kernel
theorem dX2_addToBucket_13 : decode cX2_addToBucket 13 = .ok (.iload_n 2, 1) := by decide +kernel
theorem dX2_addToBucket_14 : decode cX2_addToBucket 14 = .ok (.aload_n 0, 1) := by decide +kernel
theorem dX2_addToBucket_15 : decode cX2_addToBucket 15 = .ok (.getfield 24, 3) := by decide +kernel
theorem dX2_addToBucket_18 : decode cX2_addToBucket 18 = .ok (.iload_n 1, 1) := by decide +kernel
theorem dX2_addToBucket_19 : decode cX2_addToBucket 19 = .ok (.iaload, 1) := by decide +kernel
theorem dX2_addToBucket_20 : decode cX2_addToBucket 20 = .ok (.if_icmp .eq 13, 3) := by decide +kernel
theorem dX2_addToBucket_23 : decode cX2_addToBucket 23 = .ok (.aload_n 0, 1) := by decide +kernel
theorem dX2_addToBucket_24 : decode cX2_addToBucket 24 = .ok (.getfield 30, 3) := by decide +kernel
theorem dX2_addToBucket_27 : decode cX2_addToBucket 27 = .ok (.iload_n 1, 1) := by decide +kernel
theorem dX2_addToBucket_28 : decode cX2_addToBucket 28 = .ok (.dup2, 1) := by decide +kernel
theorem dX2_addToBucket_29 : decode cX2_addToBucket 29 = .ok (.iaload, 1) := by decide +kernel
theorem dX2_addToBucket_30 : decode cX2_addToBucket 30 = .ok (.iconst 1, 1) := by decide +kernel
theorem dX2_addToBucket_31 : decode cX2_addToBucket 31 = .ok (.iadd, 1) := by decide +kernel
theorem dX2_addToBucket_32 : decode cX2_addToBucket 32 = .ok (.iastore, 1) := by decide +kernel
theorem dX2_addToBucket_33 : decode cX2_addToBucket 33 = .ok (.aload_n 0, 1) := by decide +kernel
theorem dX2_addToBucket_34 : decode cX2_addToBucket 34 = .ok (.getfield 24, 3) := by decide +kernel
theorem dX2_addToBucket_37 : decode cX2_addToBucket 37 = .ok (.iload_n 1, 1) := by decide +kernel
theorem dX2_addToBucket_38 : decode cX2_addToBucket 38 = .ok (.iload_n 2, 1) := by decide +kernel
theorem dX2_addToBucket_39 : decode cX2_addToBucket 39 = .ok (.iastore, 1) := by decide +kernel
theorem dX2_addToBucket_40 : decode cX2_addToBucket 40 = .ok (.aload_n 0, 1) := by decide +kernel
theorem dX2_addToBucket_41 : decode cX2_addToBucket 41 = .ok (.getfield 27, 3) := by decide +kernel
theorem dX2_addToBucket_44 : decode cX2_addToBucket 44 = .ok (.iload_n 1, 1) := by decide +kernel
theorem dX2_addToBucket_45 : decode cX2_addToBucket 45 = .ok (.dup2, 1) := by decide +kernel
theorem dX2_addToBucket_46 : decode cX2_addToBucket 46 = .ok (.iaload, 1) := by decide +kernel
theorem dX2_addToBucket_47 : decode cX2_addToBucket 47 = .ok (.iconst 1, 1) := by decide +kernel
theorem dX2_addToBucket_48 : decode cX2_addToBucket 48 = .ok (.iadd, 1) := by decide +kernel
theorem dX2_addToBucket_49 : decode cX2_addToBucket 49 = .ok (.iastore, 1) := by decide +kernel
theorem dX2_addToBucket_50 : decode cX2_addToBucket 50 = .ok (.return_, 1) := by decide +kernel
theorem dX2_tellCommon_0 : decode cX2_tellCommon 0 = .ok (.iload_n 1, 1) := by decide +kernel
theorem dX2_tellCommon_1 : decode cX2_tellCommon 1 = .ok (.ifCond .lt 11, 3) := by decide +kernel
theorem dX2_tellCommon_4 : decode cX2_tellCommon 4 = .ok (.iload_n 1, 1) := by decide +kernel
theorem dX2_tellCommon_5 : decode cX2_tellCommon 5 = .ok (.aload_n 0, 1) := by decide +kernel
theorem dX2_tellCommon_6 : decode cX2_tellCommon 6 = .ok (.getfield 55, 3) := by decide +kernel
theorem dX2_tellCommon_9 : decode cX2_tellCommon 9 = .ok (.if_icmp .lt 5, 3) := by decide +kernel
theorem dX2_tellCommon_12 : decode cX2_tellCommon 12 = .ok (.iconst (-1), 1) := by decide +kernel
theorem dX2_tellCommon_13 : decode cX2_tellCommon 13 = .ok (.ireturn, 1) := by decide +kernel
theorem dX2_tellCommon_14 : decode cX2_tellCommon 14 = .ok (.iload_n 2, 1) := by decide +kernel
theorem dX2_tellCommon_15 : decode cX2_tellCommon 15 = .ok (.ifCond .ne 12, 3) := by decide +kernel
theorem dX2_tellCommon_18 : decode cX2_tellCommon 18 = .ok (.aload_n 0, 1) := by decide +kernel
theorem dX2_tellCommon_19 : decode cX2_tellCommon 19 = .ok (.getfield 15, 3) := by decide +kernel
theorem dX2_tellCommon_22 : decode cX2_tellCommon 22 = .ok (.iload_n 1, 1) := by decide +kernel
theorem dX2_tellCommon_23 : decode cX2_tellCommon 23 = .ok (.iaload, 1) := by decide +kernel
theorem dX2_tellCommon_24 : decode cX2_tellCommon 24 = .ok (.goto 9, 3) := by decide +kernel
theorem dX2_tellCommon_27 : decode cX2_tellCommon 27 = .ok (.aload_n 0, 1) := by decide +kernel
theorem dX2_tellCommon_28 : decode cX2_tellCommon 28 = .ok (.getfield 18, 3) := by decide +kernel
theorem dX2_tellCommon_31 : decode cX2_tellCommon 31 = .ok (.iload_n 1, 1) := by decide +kernel
theorem dX2_tellCommon_32 : decode cX2_tellCommon 32 = .ok (.iaload, 1) := by decide +kernel
theorem dX2_tellCommon_33 : decode cX2_tellCommon 33 = .ok (.ireturn, 1) := by decide +kernel
theorem dX2_tellBucket_0 : decode cX2_tellBucket 0 = .ok (.iload_n 1, 1) := by decide +kernel
theorem dX2_tellBucket_1 : decode cX2_tellBucket 1 = .ok (.ifCond .lt 11, 3) := by decide +kernel
theorem dX2_tellBucket_4 : decode cX2_tellBucket 4 = .ok (.iload_n 1, 1) := by decide +kernel
theorem dX2_tellBucket_5 : decode cX2_tellBucket 5 = .ok (.aload_n 0, 1) := by decide +kernel
theorem dX2_tellBucket_6 : decode cX2_tellBucket 6 = .ok (.getfield 68, 3) := by decide +kernel
theorem dX2_tellBucket_9 : decode cX2_tellBucket 9 = .ok (.if_icmp .lt 5, 3) := by decide +kernel
theorem dX2_tellBucket_12 : decode cX2_tellBucket 12 = .ok (.iconst (-1), 1) := by decide +kernel
theorem dX2_tellBucket_13 : decode cX2_tellBucket 13 = .ok (.ireturn, 1) := by decide +kernel
theorem dX2_tellBucket_14 : decode cX2_tellBucket 14 = .ok (.iload_n 2, 1) := by decide +kernel
theorem dX2_tellBucket_15 : decode cX2_tellBucket 15 = .ok (.tableswitch 46 0 2 #[25, 32, 39], 25) := by decide +kernel
theorem dX2_tellBucket_40 : decode cX2_tellBucket 40 = .ok (.aload_n 0, 1) := by decide +kernel
theorem dX2_tellBucket_41 : decode cX2_tellBucket 41 = .ok (.getfield 21, 3) := by decide +kernel
theorem dX2_tellBucket_44 : decode cX2_tellBucket 44 = .ok (.iload_n 1, 1) := by decide +kernel
theorem dX2_tellBucket_45 : decode cX2_tellBucket 45 = .ok (.iaload, 1) := by decide +kernel
theorem dX2_tellBucket_46 : decode cX2_tellBucket 46 = .ok (.ireturn, 1) := by decide +kernel
theorem dX2_tellBucket_47 : decode cX2_tellBucket 47 = .ok (.aload_n 0, 1) := by decide +kernel
theorem dX2_tellBucket_48 : decode cX2_tellBucket 48 = .ok (.getfield 24, 3) := by decide +kernel
theorem dX2_tellBucket_51 : decode cX2_tellBucket 51 = .ok (.iload_n 1, 1) := by decide +kernel
theorem dX2_tellBucket_52 : decode cX2_tellBucket 52 = .ok (.iaload, 1) := by decide +kernel
theorem dX2_tellBucket_53 : decode cX2_tellBucket 53 = .ok (.ireturn, 1) := by decide +kernel
theorem dX2_tellBucket_54 : decode cX2_tellBucket 54 = .ok (.aload_n 0, 1) := by decide +kernel
theorem dX2_tellBucket_55 : decode cX2_tellBucket 55 = .ok (.getfield 27, 3) := by decide +kernel
theorem dX2_tellBucket_58 : decode cX2_tellBucket 58 = .ok (.iload_n 1, 1) := by decide +kernel
theorem dX2_tellBucket_59 : decode cX2_tellBucket 59 = .ok (.iaload, 1) := by decide +kernel
theorem dX2_tellBucket_60 : decode cX2_tellBucket 60 = .ok (.ireturn, 1) := by decide +kernel
theorem dX2_tellBucket_61 : decode cX2_tellBucket 61 = .ok (.aload_n 0, 1) := by decide +kernel
theorem dX2_tellBucket_62 : decode cX2_tellBucket 62 = .ok (.getfield 30, 3) := by decide +kernel
theorem dX2_tellBucket_65 : decode cX2_tellBucket 65 = .ok (.iload_n 1, 1) := by decide +kernel
theorem dX2_tellBucket_66 : decode cX2_tellBucket 66 = .ok (.iaload, 1) := by decide +kernel
theorem dX2_tellBucket_67 : decode cX2_tellBucket 67 = .ok (.ireturn, 1) := by decide +kernel
theorem dX2_rowsOfBuckets_0 : decode cX2_rowsOfBuckets 0 = .ok (.iconst 0, 1) := by decide +kernel
theorem dX2_rowsOfBuckets_1 : decode cX2_rowsOfBuckets 1 = .ok (.istore_n 1, 1) := by decide +kernel
theorem dX2_rowsOfBuckets_2 : decode cX2_rowsOfBuckets 2 = .ok (.iconst 0, 1) := by decide +kernel
theorem dX2_rowsOfBuckets_3 : decode cX2_rowsOfBuckets 3 = .ok (.istore_n 2, 1) := by decide +kernel
theorem dX2_rowsOfBuckets_4 : decode cX2_rowsOfBuckets 4 = .ok (.iload_n 2, 1) := by decide +kernel
theorem dX2_rowsOfBuckets_5 : decode cX2_rowsOfBuckets 5 = .ok (.aload_n 0, 1) := by decide +kernel
theorem dX2_rowsOfBuckets_6 : decode cX2_rowsOfBuckets 6 = .ok (.getfield 68, 3) := by decide +kernel
theorem dX2_rowsOfBuckets_9 : decode cX2_rowsOfBuckets 9 = .ok (.if_icmp .ge 18, 3) := by decide +kernel
theorem dX2_rowsOfBuckets_12 : decode cX2_rowsOfBuckets 12 = .ok (.iload_n 1, 1) := by decide +kernel
theorem dX2_rowsOfBuckets_13 : decode cX2_rowsOfBuckets 13 = .ok (.aload_n 0, 1) := by decide +kernel
theorem dX2_rowsOfBuckets_14 : decode cX2_rowsOfBuckets 14 = .ok (.getfield 27, 3) := by decide +kernel
theorem dX2_rowsOfBuckets_17 : decode cX2_rowsOfBuckets 17 = .ok (.iload_n 2, 1) := by decide +kernel
theorem dX2_rowsOfBuckets_18 : decode cX2_rowsOfBuckets 18 = .ok (.iaload, 1) := by decide +kernel
theorem dX2_rowsOfBuckets_19 : decode cX2_rowsOfBuckets 19 = .ok (.iadd, 1) := by decide +kernel
theorem dX2_rowsOfBuckets_20 : decode cX2_rowsOfBuckets 20 = .ok (.istore_n 1, 1) := by decide +kernel
theorem dX2_rowsOfBuckets_21 : decode cX2_rowsOfBuckets 21 = .ok (.iinc 2 1, 3) := by decide +kernel
theorem dX2_rowsOfBuckets_24 : decode cX2_rowsOfBuckets 24 = .ok (.goto (-20), 3) := by decide +kernel
theorem dX2_rowsOfBuckets_27 : decode cX2_rowsOfBuckets 27 = .ok (.iload_n 1, 1) := by decide +kernel
theorem dX2_rowsOfBuckets_28 : decode cX2_rowsOfBuckets 28 = .ok (.ireturn, 1) := by decide +kernel
theorem dX2_rowsOfCommon_0 : decode cX2_rowsOfCommon 0 = .ok (.iconst 0, 1) := by decide +kernel
theorem dX2_rowsOfCommon_1 : decode cX2_rowsOfCommon 1 = .ok (.istore_n 3, 1) := by decide +kernel
theorem dX2_rowsOfCommon_2 : decode cX2_rowsOfCommon 2 = .ok (.iconst 0, 1) := by decide +kernel
theorem dX2_rowsOfCommon_3 : decode cX2_rowsOfCommon 3 = .ok (.istore 4, 2) := by decide +kernel
theorem dX2_rowsOfCommon_5 : decode cX2_rowsOfCommon 5 = .ok (.iload 4, 2) := by decide +kernel
theorem dX2_rowsOfCommon_7 : decode cX2_rowsOfCommon 7 = .ok (.aload_n 0, 1) := by decide +kernel
theorem dX2_rowsOfCommon_8 : decode cX2_rowsOfCommon 8 = .ok (.getfield 55, 3) := by decide +kernel
theorem dX2_rowsOfCommon_11 : decode cX2_rowsOfCommon 11 = .ok (.if_icmp .ge 38, 3) := by decide +kernel
theorem dX2_rowsOfCommon_14 : decode cX2_rowsOfCommon 14 = .ok (.iload_n 3, 1) := by decide +kernel
theorem dX2_rowsOfCommon_15 : decode cX2_rowsOfCommon 15 = .ok (.aload_n 0, 1) := by decide +kernel
theorem dX2_rowsOfCommon_16 : decode cX2_rowsOfCommon 16 = .ok (.getfield 15, 3) := by decide +kernel
theorem dX2_rowsOfCommon_19 : decode cX2_rowsOfCommon 19 = .ok (.iload 4, 2) := by decide +kernel
theorem dX2_rowsOfCommon_21 : decode cX2_rowsOfCommon 21 = .ok (.iaload, 1) := by decide +kernel
theorem dX2_rowsOfCommon_22 : decode cX2_rowsOfCommon 22 = .ok (.iload_n 1, 1) := by decide +kernel
theorem dX2_rowsOfCommon_23 : decode cX2_rowsOfCommon 23 = .ok (.iload_n 2, 1) := by decide +kernel
theorem dX2_rowsOfCommon_24 : decode cX2_rowsOfCommon 24 = .ok (.invokestatic 84, 3) := by decide +kernel
theorem dX2_rowsOfCommon_27 : decode cX2_rowsOfCommon 27 = .ok (.ifCond .eq 13, 3) := by decide +kernel
theorem dX2_rowsOfCommon_30 : decode cX2_rowsOfCommon 30 = .ok (.aload_n 0, 1) := by decide +kernel
theorem dX2_rowsOfCommon_31 : decode cX2_rowsOfCommon 31 = .ok (.getfield 18, 3) := by decide +kernel
theorem dX2_rowsOfCommon_34 : decode cX2_rowsOfCommon 34 = .ok (.iload 4, 2) := by decide +kernel
theorem dX2_rowsOfCommon_36 : decode cX2_rowsOfCommon 36 = .ok (.iaload, 1) := by decide +kernel
theorem dX2_rowsOfCommon_37 : decode cX2_rowsOfCommon 37 = .ok (.goto 4, 3) := by decide +kernel
theorem dX2_rowsOfCommon_40 : decode cX2_rowsOfCommon 40 = .ok (.iconst 0, 1) := by decide +kernel
theorem dX2_rowsOfCommon_41 : decode cX2_rowsOfCommon 41 = .ok (.iadd, 1) := by decide +kernel
theorem dX2_rowsOfCommon_42 : decode cX2_rowsOfCommon 42 = .ok (.istore_n 3, 1) := by decide +kernel
theorem dX2_rowsOfCommon_43 : decode cX2_rowsOfCommon 43 = .ok (.iinc 4 1, 3) := by decide +kernel
theorem dX2_rowsOfCommon_46 : decode cX2_rowsOfCommon 46 = .ok (.goto (-41), 3) := by decide +kernel
theorem dX2_rowsOfCommon_49 : decode cX2_rowsOfCommon 49 = .ok (.iload_n 3, 1) := by decide +kernel
theorem dX2_rowsOfCommon_50 : decode cX2_rowsOfCommon 50 = .ok (.ireturn, 1) := by decide +kernel
theorem dX2_guess_0 : decode cX2_guess 0 = .ok (.aload_n 0, 1) := by decide +kernel
theorem dX2_guess_1 : decode cX2_guess 1 = .ok (.iload_n 1, 1) := by decide +kernel
theorem dX2_guess_2 : decode cX2_guess 2 = .ok (.iload_n 2, 1) := by decide +kernel
theorem dX2_guess_3 : decode cX2_guess 3 = .ok (.invokevirtual 88, 3) := by decide +kernel
theorem dX2_guess_6 : decode cX2_guess 6 = .ok (.istore_n 3, 1) := by decide +kernel
theorem dX2_guess_7 : decode cX2_guess 7 = .ok (.iconst 0, 1) := by decide +kernel
theorem dX2_guess_8 : decode cX2_guess 8 = .ok (.istore 4, 2) := by decide +kernel
theorem dX2_guess_10 : decode cX2_guess 10 = .ok (.iload 4, 2) := by decide +kernel
theorem dX2_guess_12 : decode cX2_guess 12 = .ok (.aload_n 0, 1) := by decide +kernel
theorem dX2_guess_13 : decode cX2_guess 13 = .ok (.getfield 68, 3) := by decide +kernel
theorem dX2_guess_16 : decode cX2_guess 16 = .ok (.if_icmp .ge 81, 3) := by decide +kernel
theorem dX2_guess_19 : decode cX2_guess 19 = .ok (.aload_n 0, 1) := by decide +kernel
theorem dX2_guess_20 : decode cX2_guess 20 = .ok (.getfield 24, 3) := by decide +kernel
theorem dX2_guess_23 : decode cX2_guess 23 = .ok (.iload 4, 2) := by decide +kernel
theorem dX2_guess_25 : decode cX2_guess 25 = .ok (.iaload, 1) := by decide +kernel
theorem dX2_guess_26 : decode cX2_guess 26 = .ok (.aload_n 0, 1) := by decide +kernel
theorem dX2_guess_27 : decode cX2_guess 27 = .ok (.getfield 21, 3) := by decide +kernel
theorem dX2_guess_30 : decode cX2_guess 30 = .ok (.iload 4, 2) := by decide +kernel
theorem dX2_guess_32 : decode cX2_guess 32 = .ok (.iaload, 1) := by decide +kernel
theorem dX2_guess_33 : decode cX2_guess 33 = .ok (.isub, 1) := by decide +kernel
theorem dX2_guess_34 : decode cX2_guess 34 = .ok (.iconst 1, 1) := by decide +kernel
theorem dX2_guess_35 : decode cX2_guess 35 = .ok (.iadd, 1) := by decide +kernel
theorem dX2_guess_36 : decode cX2_guess 36 = .ok (.istore 5, 2) := by decide +kernel
theorem dX2_guess_38 : decode cX2_guess 38 = .ok (.aload_n 0, 1) := by decide +kernel
theorem dX2_guess_39 : decode cX2_guess 39 = .ok (.getfield 24, 3) := by decide +kernel
theorem dX2_guess_42 : decode cX2_guess 42 = .ok (.iload 4, 2) := by decide +kernel
theorem dX2_guess_44 : decode cX2_guess 44 = .ok (.iaload, 1) := by decide +kernel
theorem dX2_guess_45 : decode cX2_guess 45 = .ok (.iload_n 2, 1) := by decide +kernel
theorem dX2_guess_46 : decode cX2_guess 46 = .ok (.invokestatic 63, 3) := by decide +kernel
theorem dX2_guess_49 : decode cX2_guess 49 = .ok (.aload_n 0, 1) := by decide +kernel
theorem dX2_guess_50 : decode cX2_guess 50 = .ok (.getfield 21, 3) := by decide +kernel
theorem dX2_guess_53 : decode cX2_guess 53 = .ok (.iload 4, 2) := by decide +kernel
theorem dX2_guess_55 : decode cX2_guess 55 = .ok (.iaload, 1) := by decide +kernel
theorem dX2_guess_56 : decode cX2_guess 56 = .ok (.iload_n 1, 1) := by decide +kernel
theorem dX2_guess_57 : decode cX2_guess 57 = .ok (.invokestatic 91, 3) := by decide +kernel
theorem dX2_guess_60 : decode cX2_guess 60 = .ok (.isub, 1) := by decide +kernel
theorem dX2_guess_61 : decode cX2_guess 61 = .ok (.iconst 1, 1) := by decide +kernel
theorem dX2_guess_62 : decode cX2_guess 62 = .ok (.iadd, 1) := by decide +kernel
theorem dX2_guess_63 : decode cX2_guess 63 = .ok (.istore 6, 2) := by decide +kernel
theorem dX2_guess_65 : decode cX2_guess 65 = .ok (.iload 5, 2) := by decide +kernel
theorem dX2_guess_67 : decode cX2_guess 67 = .ok (.ifCond .le 24, 3) := by decide +kernel
theorem dX2_guess_70 : decode cX2_guess 70 = .ok (.iload 6, 2) := by decide +kernel
theorem dX2_guess_72 : decode cX2_guess 72 = .ok (.ifCond .le 19, 3) := by decide +kernel
theorem dX2_guess_75 : decode cX2_guess 75 = .ok (.iload_n 3, 1) := by decide +kernel
theorem dX2_guess_76 : decode cX2_guess 76 = .ok (.aload_n 0, 1) := by decide +kernel
theorem dX2_guess_77 : decode cX2_guess 77 = .ok (.getfield 27, 3) := by decide +kernel
theorem dX2_guess_80 : decode cX2_guess 80 = .ok (.iload 4, 2) := by decide +kernel
theorem dX2_guess_82 : decode cX2_guess 82 = .ok (.iaload, 1) := by decide +kernel
theorem dX2_guess_83 : decode cX2_guess 83 = .ok (.iload 6, 2) := by decide +kernel
theorem dX2_guess_85 : decode cX2_guess 85 = .ok (.imul, 1) := by decide +kernel
theorem dX2_guess_86 : decode cX2_guess 86 = .ok (.iload 5, 2) := by decide +kernel
theorem dX2_guess_88 : decode cX2_guess 88 = .ok (.idiv, 1) := by decide +kernel
theorem dX2_guess_89 : decode cX2_guess 89 = .ok (.iadd, 1) := by decide +kernel
theorem dX2_guess_90 : decode cX2_guess 90 = .ok (.istore_n 3, 1) := by decide +kernel
theorem dX2_guess_91 : decode cX2_guess 91 = .ok (.iinc 4 1, 3) := by decide +kernel
theorem dX2_guess_94 : decode cX2_guess 94 = .ok (.goto (-84), 3) := by decide +kernel
theorem dX2_guess_97 : decode cX2_guess 97 = .ok (.iload_n 3, 1) := by decide +kernel
theorem dX2_guess_98 : decode cX2_guess 98 = .ok (.ireturn, 1) := by decide +kernel
theorem dX2_least_0 : decode cX2_least 0 = .ok (.aload_n 0, 1) := by decide +kernel
theorem dX2_least_1 : decode cX2_least 1 = .ok (.iload_n 1, 1) := by decide +kernel
theorem dX2_least_2 : decode cX2_least 2 = .ok (.iload_n 2, 1) := by decide +kernel
theorem dX2_least_3 : decode cX2_least 3 = .ok (.invokevirtual 88, 3) := by decide +kernel
theorem dX2_least_6 : decode cX2_least 6 = .ok (.istore_n 3, 1) := by decide +kernel
theorem dX2_least_7 : decode cX2_least 7 = .ok (.iconst 0, 1) := by decide +kernel
theorem dX2_least_8 : decode cX2_least 8 = .ok (.istore 4, 2) := by decide +kernel
theorem dX2_least_10 : decode cX2_least 10 = .ok (.iload 4, 2) := by decide +kernel
theorem dX2_least_12 : decode cX2_least 12 = .ok (.aload_n 0, 1) := by decide +kernel
theorem dX2_least_13 : decode cX2_least 13 = .ok (.getfield 68, 3) := by decide +kernel
theorem dX2_least_16 : decode cX2_least 16 = .ok (.if_icmp .ge 45, 3) := by decide +kernel
theorem dX2_least_19 : decode cX2_least 19 = .ok (.iload_n 3, 1) := by decide +kernel
theorem dX2_least_20 : decode cX2_least 20 = .ok (.iload_n 1, 1) := by decide +kernel
theorem dX2_least_21 : decode cX2_least 21 = .ok (.aload_n 0, 1) := by decide +kernel
theorem dX2_least_22 : decode cX2_least 22 = .ok (.getfield 21, 3) := by decide +kernel
theorem dX2_least_25 : decode cX2_least 25 = .ok (.iload 4, 2) := by decide +kernel
theorem dX2_least_27 : decode cX2_least 27 = .ok (.iaload, 1) := by decide +kernel
theorem dX2_least_28 : decode cX2_least 28 = .ok (.if_icmp .gt 24, 3) := by decide +kernel
theorem dX2_least_31 : decode cX2_least 31 = .ok (.aload_n 0, 1) := by decide +kernel
theorem dX2_least_32 : decode cX2_least 32 = .ok (.getfield 24, 3) := by decide +kernel
theorem dX2_least_35 : decode cX2_least 35 = .ok (.iload 4, 2) := by decide +kernel
theorem dX2_least_37 : decode cX2_least 37 = .ok (.iaload, 1) := by decide +kernel
theorem dX2_least_38 : decode cX2_least 38 = .ok (.iload_n 2, 1) := by decide +kernel
theorem dX2_least_39 : decode cX2_least 39 = .ok (.if_icmp .gt 13, 3) := by decide +kernel
theorem dX2_least_42 : decode cX2_least 42 = .ok (.aload_n 0, 1) := by decide +kernel
theorem dX2_least_43 : decode cX2_least 43 = .ok (.getfield 27, 3) := by decide +kernel
theorem dX2_least_46 : decode cX2_least 46 = .ok (.iload 4, 2) := by decide +kernel
theorem dX2_least_48 : decode cX2_least 48 = .ok (.iaload, 1) := by decide +kernel
theorem dX2_least_49 : decode cX2_least 49 = .ok (.goto 4, 3) := by decide +kernel
theorem dX2_least_52 : decode cX2_least 52 = .ok (.iconst 0, 1) := by decide +kernel
theorem dX2_least_53 : decode cX2_least 53 = .ok (.iadd, 1) := by decide +kernel
theorem dX2_least_54 : decode cX2_least 54 = .ok (.istore_n 3, 1) := by decide +kernel
theorem dX2_least_55 : decode cX2_least 55 = .ok (.iinc 4 1, 3) := by decide +kernel
theorem dX2_least_58 : decode cX2_least 58 = .ok (.goto (-48), 3) := by decide +kernel
theorem dX2_least_61 : decode cX2_least 61 = .ok (.iload_n 3, 1) := by decide +kernel
theorem dX2_least_62 : decode cX2_least 62 = .ok (.ireturn, 1) := by decide +kernel
theorem dX2_most_0 : decode cX2_most 0 = .ok (.aload_n 0, 1) := by decide +kernel
theorem dX2_most_1 : decode cX2_most 1 = .ok (.iload_n 1, 1) := by decide +kernel
theorem dX2_most_2 : decode cX2_most 2 = .ok (.iload_n 2, 1) := by decide +kernel
theorem dX2_most_3 : decode cX2_most 3 = .ok (.invokevirtual 88, 3) := by decide +kernel
theorem dX2_most_6 : decode cX2_most 6 = .ok (.istore_n 3, 1) := by decide +kernel
theorem dX2_most_7 : decode cX2_most 7 = .ok (.iconst 0, 1) := by decide +kernel
theorem dX2_most_8 : decode cX2_most 8 = .ok (.istore 4, 2) := by decide +kernel
theorem dX2_most_10 : decode cX2_most 10 = .ok (.iload 4, 2) := by decide +kernel
theorem dX2_most_12 : decode cX2_most 12 = .ok (.aload_n 0, 1) := by decide +kernel
theorem dX2_most_13 : decode cX2_most 13 = .ok (.getfield 68, 3) := by decide +kernel
theorem dX2_most_16 : decode cX2_most 16 = .ok (.if_icmp .ge 45, 3) := by decide +kernel
theorem dX2_most_19 : decode cX2_most 19 = .ok (.iload_n 3, 1) := by decide +kernel
theorem dX2_most_20 : decode cX2_most 20 = .ok (.iload_n 1, 1) := by decide +kernel
theorem dX2_most_21 : decode cX2_most 21 = .ok (.aload_n 0, 1) := by decide +kernel
theorem dX2_most_22 : decode cX2_most 22 = .ok (.getfield 24, 3) := by decide +kernel
theorem dX2_most_25 : decode cX2_most 25 = .ok (.iload 4, 2) := by decide +kernel
theorem dX2_most_27 : decode cX2_most 27 = .ok (.iaload, 1) := by decide +kernel
theorem dX2_most_28 : decode cX2_most 28 = .ok (.if_icmp .gt 24, 3) := by decide +kernel
theorem dX2_most_31 : decode cX2_most 31 = .ok (.aload_n 0, 1) := by decide +kernel
theorem dX2_most_32 : decode cX2_most 32 = .ok (.getfield 21, 3) := by decide +kernel
theorem dX2_most_35 : decode cX2_most 35 = .ok (.iload 4, 2) := by decide +kernel
theorem dX2_most_37 : decode cX2_most 37 = .ok (.iaload, 1) := by decide +kernel
theorem dX2_most_38 : decode cX2_most 38 = .ok (.iload_n 2, 1) := by decide +kernel
theorem dX2_most_39 : decode cX2_most 39 = .ok (.if_icmp .gt 13, 3) := by decide +kernel
theorem dX2_most_42 : decode cX2_most 42 = .ok (.aload_n 0, 1) := by decide +kernel
theorem dX2_most_43 : decode cX2_most 43 = .ok (.getfield 27, 3) := by decide +kernel
theorem dX2_most_46 : decode cX2_most 46 = .ok (.iload 4, 2) := by decide +kernel
theorem dX2_most_48 : decode cX2_most 48 = .ok (.iaload, 1) := by decide +kernel
theorem dX2_most_49 : decode cX2_most 49 = .ok (.goto 4, 3) := by decide +kernel
theorem dX2_most_52 : decode cX2_most 52 = .ok (.iconst 0, 1) := by decide +kernel
theorem dX2_most_53 : decode cX2_most 53 = .ok (.iadd, 1) := by decide +kernel
theorem dX2_most_54 : decode cX2_most 54 = .ok (.istore_n 3, 1) := by decide +kernel
theorem dX2_most_55 : decode cX2_most 55 = .ok (.iinc 4 1, 3) := by decide +kernel
theorem dX2_most_58 : decode cX2_most 58 = .ok (.goto (-48), 3) := by decide +kernel
theorem dX2_most_61 : decode cX2_most 61 = .ok (.iload_n 3, 1) := by decide +kernel
theorem dX2_most_62 : decode cX2_most 62 = .ok (.ireturn, 1) := by decide +kernel
theorem dX2_miss_0 : decode cX2_miss 0 = .ok (.iload_n 1, 1) := by decide +kernel
theorem dX2_miss_1 : decode cX2_miss 1 = .ok (.invokestatic 94, 3) := by decide +kernel
theorem dX2_miss_4 : decode cX2_miss 4 = .ok (.ifCond .eq 22, 3) := by decide +kernel
theorem dX2_miss_7 : decode cX2_miss 7 = .ok (.aload_n 0, 1) := by decide +kernel
theorem dX2_miss_8 : decode cX2_miss 8 = .ok (.iload_n 1, 1) := by decide +kernel
theorem dX2_miss_9 : decode cX2_miss 9 = .ok (.iload_n 1, 1) := by decide +kernel
theorem dX2_miss_10 : decode cX2_miss 10 = .ok (.invokevirtual 97, 3) := by decide +kernel
theorem dX2_miss_13 : decode cX2_miss 13 = .ok (.aload_n 0, 1) := by decide +kernel
theorem dX2_miss_14 : decode cX2_miss 14 = .ok (.getfield 9, 3) := by decide +kernel
theorem dX2_miss_17 : decode cX2_miss 17 = .ok (.iload_n 1, 1) := by decide +kernel
theorem dX2_miss_18 : decode cX2_miss 18 = .ok (.iaload, 1) := by decide +kernel
theorem dX2_miss_19 : decode cX2_miss 19 = .ok (.isub, 1) := by decide +kernel
theorem dX2_miss_20 : decode cX2_miss 20 = .ok (.invokestatic 100, 3) := by decide +kernel
theorem dX2_miss_23 : decode cX2_miss 23 = .ok (.goto 4, 3) := by decide +kernel
theorem dX2_miss_26 : decode cX2_miss 26 = .ok (.iconst 0, 1) := by decide +kernel
theorem dX2_miss_27 : decode cX2_miss 27 = .ok (.ireturn, 1) := by decide +kernel
theorem dX2_worstValue_0 : decode cX2_worstValue 0 = .ok (.iconst 0, 1) := by decide +kernel
theorem dX2_worstValue_1 : decode cX2_worstValue 1 = .ok (.istore_n 1, 1) := by decide +kernel
theorem dX2_worstValue_2 : decode cX2_worstValue 2 = .ok (.aload_n 0, 1) := by decide +kernel
theorem dX2_worstValue_3 : decode cX2_worstValue 3 = .ok (.iconst 0, 1) := by decide +kernel
theorem dX2_worstValue_4 : decode cX2_worstValue 4 = .ok (.invokevirtual 103, 3) := by decide +kernel
theorem dX2_worstValue_7 : decode cX2_worstValue 7 = .ok (.istore_n 2, 1) := by decide +kernel
theorem dX2_worstValue_8 : decode cX2_worstValue 8 = .ok (.iconst 1, 1) := by decide +kernel
theorem dX2_worstValue_9 : decode cX2_worstValue 9 = .ok (.istore_n 3, 1) := by decide +kernel
theorem dX2_worstValue_10 : decode cX2_worstValue 10 = .ok (.iload_n 3, 1) := by decide +kernel
theorem dX2_worstValue_11 : decode cX2_worstValue 11 = .ok (.bipush 100, 2) := by decide +kernel
theorem dX2_worstValue_13 : decode cX2_worstValue 13 = .ok (.if_icmp .ge 27, 3) := by decide +kernel
theorem dX2_worstValue_16 : decode cX2_worstValue 16 = .ok (.aload_n 0, 1) := by decide +kernel
theorem dX2_worstValue_17 : decode cX2_worstValue 17 = .ok (.iload_n 3, 1) := by decide +kernel
theorem dX2_worstValue_18 : decode cX2_worstValue 18 = .ok (.invokevirtual 103, 3) := by decide +kernel
theorem dX2_worstValue_21 : decode cX2_worstValue 21 = .ok (.istore 4, 2) := by decide +kernel
theorem dX2_worstValue_23 : decode cX2_worstValue 23 = .ok (.iload 4, 2) := by decide +kernel
theorem dX2_worstValue_25 : decode cX2_worstValue 25 = .ok (.iload_n 2, 1) := by decide +kernel
theorem dX2_worstValue_26 : decode cX2_worstValue 26 = .ok (.if_icmp .le 8, 3) := by decide +kernel
theorem dX2_worstValue_29 : decode cX2_worstValue 29 = .ok (.iload_n 3, 1) := by decide +kernel
theorem dX2_worstValue_30 : decode cX2_worstValue 30 = .ok (.istore_n 1, 1) := by decide +kernel
theorem dX2_worstValue_31 : decode cX2_worstValue 31 = .ok (.iload 4, 2) := by decide +kernel
theorem dX2_worstValue_33 : decode cX2_worstValue 33 = .ok (.istore_n 2, 1) := by decide +kernel
theorem dX2_worstValue_34 : decode cX2_worstValue 34 = .ok (.iinc 3 1, 3) := by decide +kernel
theorem dX2_worstValue_37 : decode cX2_worstValue 37 = .ok (.goto (-27), 3) := by decide +kernel
theorem dX2_worstValue_40 : decode cX2_worstValue 40 = .ok (.iload_n 1, 1) := by decide +kernel
theorem dX2_worstValue_41 : decode cX2_worstValue 41 = .ok (.ireturn, 1) := by decide +kernel
theorem dX2_copyFrom_0 : decode cX2_copyFrom 0 = .ok (.aload_n 1, 1) := by decide +kernel
theorem dX2_copyFrom_1 : decode cX2_copyFrom 1 = .ok (.getfield 9, 3) := by decide +kernel
theorem dX2_copyFrom_4 : decode cX2_copyFrom 4 = .ok (.aload_n 0, 1) := by decide +kernel
theorem dX2_copyFrom_5 : decode cX2_copyFrom 5 = .ok (.getfield 9, 3) := by decide +kernel
theorem dX2_copyFrom_8 : decode cX2_copyFrom 8 = .ok (.invokestatic 106, 3) := by decide +kernel
theorem dX2_copyFrom_11 : decode cX2_copyFrom 11 = .ok (.aload_n 1, 1) := by decide +kernel
theorem dX2_copyFrom_12 : decode cX2_copyFrom 12 = .ok (.getfield 15, 3) := by decide +kernel
theorem dX2_copyFrom_15 : decode cX2_copyFrom 15 = .ok (.aload_n 0, 1) := by decide +kernel
theorem dX2_copyFrom_16 : decode cX2_copyFrom 16 = .ok (.getfield 15, 3) := by decide +kernel
theorem dX2_copyFrom_19 : decode cX2_copyFrom 19 = .ok (.invokestatic 106, 3) := by decide +kernel
theorem dX2_copyFrom_22 : decode cX2_copyFrom 22 = .ok (.aload_n 1, 1) := by decide +kernel
theorem dX2_copyFrom_23 : decode cX2_copyFrom 23 = .ok (.getfield 18, 3) := by decide +kernel
theorem dX2_copyFrom_26 : decode cX2_copyFrom 26 = .ok (.aload_n 0, 1) := by decide +kernel
theorem dX2_copyFrom_27 : decode cX2_copyFrom 27 = .ok (.getfield 18, 3) := by decide +kernel
theorem dX2_copyFrom_30 : decode cX2_copyFrom 30 = .ok (.invokestatic 106, 3) := by decide +kernel
theorem dX2_copyFrom_33 : decode cX2_copyFrom 33 = .ok (.aload_n 0, 1) := by decide +kernel
theorem dX2_copyFrom_34 : decode cX2_copyFrom 34 = .ok (.aload_n 1, 1) := by decide +kernel
theorem dX2_copyFrom_35 : decode cX2_copyFrom 35 = .ok (.getfield 55, 3) := by decide +kernel
theorem dX2_copyFrom_38 : decode cX2_copyFrom 38 = .ok (.putfield 55, 3) := by decide +kernel
theorem dX2_copyFrom_41 : decode cX2_copyFrom 41 = .ok (.aload_n 1, 1) := by decide +kernel
theorem dX2_copyFrom_42 : decode cX2_copyFrom 42 = .ok (.getfield 21, 3) := by decide +kernel
theorem dX2_copyFrom_45 : decode cX2_copyFrom 45 = .ok (.aload_n 0, 1) := by decide +kernel
theorem dX2_copyFrom_46 : decode cX2_copyFrom 46 = .ok (.getfield 21, 3) := by decide +kernel
theorem dX2_copyFrom_49 : decode cX2_copyFrom 49 = .ok (.invokestatic 106, 3) := by decide +kernel
theorem dX2_copyFrom_52 : decode cX2_copyFrom 52 = .ok (.aload_n 1, 1) := by decide +kernel
theorem dX2_copyFrom_53 : decode cX2_copyFrom 53 = .ok (.getfield 24, 3) := by decide +kernel
theorem dX2_copyFrom_56 : decode cX2_copyFrom 56 = .ok (.aload_n 0, 1) := by decide +kernel
theorem dX2_copyFrom_57 : decode cX2_copyFrom 57 = .ok (.getfield 24, 3) := by decide +kernel
theorem dX2_copyFrom_60 : decode cX2_copyFrom 60 = .ok (.invokestatic 106, 3) := by decide +kernel
theorem dX2_copyFrom_63 : decode cX2_copyFrom 63 = .ok (.aload_n 1, 1) := by decide +kernel
theorem dX2_copyFrom_64 : decode cX2_copyFrom 64 = .ok (.getfield 27, 3) := by decide +kernel
theorem dX2_copyFrom_67 : decode cX2_copyFrom 67 = .ok (.aload_n 0, 1) := by decide +kernel
theorem dX2_copyFrom_68 : decode cX2_copyFrom 68 = .ok (.getfield 27, 3) := by decide +kernel
theorem dX2_copyFrom_71 : decode cX2_copyFrom 71 = .ok (.invokestatic 106, 3) := by decide +kernel
theorem dX2_copyFrom_74 : decode cX2_copyFrom 74 = .ok (.aload_n 1, 1) := by decide +kernel
theorem dX2_copyFrom_75 : decode cX2_copyFrom 75 = .ok (.getfield 30, 3) := by decide +kernel
theorem dX2_copyFrom_78 : decode cX2_copyFrom 78 = .ok (.aload_n 0, 1) := by decide +kernel
theorem dX2_copyFrom_79 : decode cX2_copyFrom 79 = .ok (.getfield 30, 3) := by decide +kernel
theorem dX2_copyFrom_82 : decode cX2_copyFrom 82 = .ok (.invokestatic 106, 3) := by decide +kernel
theorem dX2_copyFrom_85 : decode cX2_copyFrom 85 = .ok (.aload_n 0, 1) := by decide +kernel
theorem dX2_copyFrom_86 : decode cX2_copyFrom 86 = .ok (.aload_n 1, 1) := by decide +kernel
theorem dX2_copyFrom_87 : decode cX2_copyFrom 87 = .ok (.getfield 68, 3) := by decide +kernel
theorem dX2_copyFrom_90 : decode cX2_copyFrom 90 = .ok (.putfield 68, 3) := by decide +kernel
theorem dX2_copyFrom_93 : decode cX2_copyFrom 93 = .ok (.return_, 1) := by decide +kernel
theorem dX3_init_0 : decode cX3_init 0 = .ok (.aload_n 0, 1) := by decide +kernel
theorem dX3_init_1 : decode cX3_init 1 = .ok (.invokespecial 3, 3) := by decide +kernel
theorem dX3_init_4 : decode cX3_init 4 = .ok (.aload_n 0, 1) := by decide +kernel
theorem dX3_init_5 : decode cX3_init 5 = .ok (.bipush 7, 2) := by decide +kernel
theorem dX3_init_7 : decode cX3_init 7 = .ok (.anewarray 11, 3) := by decide +kernel
theorem dX3_init_10 : decode cX3_init 10 = .ok (.putfield 13, 3) := by decide +kernel
theorem dX3_init_13 : decode cX3_init 13 = .ok (.return_, 1) := by decide +kernel
theorem dX3_prepare_0 : decode cX3_prepare 0 = .ok (.aload_n 0, 1) := by decide +kernel
theorem dX3_prepare_1 : decode cX3_prepare 1 = .ok (.getfield 17, 3) := by decide +kernel
theorem dX3_prepare_4 : decode cX3_prepare 4 = .ok (.ifCond .lt 15, 3) := by decide +kernel
theorem dX3_prepare_7 : decode cX3_prepare 7 = .ok (.aload_n 0, 1) := by decide +kernel
theorem dX3_prepare_8 : decode cX3_prepare 8 = .ok (.getfield 17, 3) := by decide +kernel
theorem dX3_prepare_11 : decode cX3_prepare 11 = .ok (.aload_n 0, 1) := by decide +kernel
theorem dX3_prepare_12 : decode cX3_prepare 12 = .ok (.getfield 13, 3) := by decide +kernel
theorem dX3_prepare_15 : decode cX3_prepare 15 = .ok (.arraylength, 1) := by decide +kernel
theorem dX3_prepare_16 : decode cX3_prepare 16 = .ok (.if_icmp .lt 4, 3) := by decide +kernel
theorem dX3_prepare_19 : decode cX3_prepare 19 = .ok (.return_, 1) := by decide +kernel
theorem dX3_prepare_20 : decode cX3_prepare 20 = .ok (.aload_n 0, 1) := by decide +kernel
theorem dX3_prepare_21 : decode cX3_prepare 21 = .ok (.getfield 13, 3) := by decide +kernel
theorem dX3_prepare_24 : decode cX3_prepare 24 = .ok (.aload_n 0, 1) := by decide +kernel
theorem dX3_prepare_25 : decode cX3_prepare 25 = .ok (.getfield 17, 3) := by decide +kernel
theorem dX3_prepare_28 : decode cX3_prepare 28 = .ok (.aaload, 1) := by decide +kernel
theorem dX3_prepare_29 : decode cX3_prepare 29 = .ok (.astore_n 2, 1) := by decide +kernel
theorem dX3_prepare_30 : decode cX3_prepare 30 = .ok (.aload_n 2, 1) := by decide +kernel
theorem dX3_prepare_31 : decode cX3_prepare 31 = .ok (.ifnonnull 21, 3) := by decide +kernel
theorem dX3_prepare_34 : decode cX3_prepare 34 = .ok (.new 11, 3) := by decide +kernel
theorem dX3_prepare_37 : decode cX3_prepare 37 = .ok (.dup, 1) := by decide +kernel
theorem dX3_prepare_38 : decode cX3_prepare 38 = .ok (.invokespecial 21, 3) := by decide +kernel
theorem dX3_prepare_41 : decode cX3_prepare 41 = .ok (.astore_n 2, 1) := by decide +kernel
theorem dX3_prepare_42 : decode cX3_prepare 42 = .ok (.aload_n 0, 1) := by decide +kernel
theorem dX3_prepare_43 : decode cX3_prepare 43 = .ok (.getfield 13, 3) := by decide +kernel
theorem dX3_prepare_46 : decode cX3_prepare 46 = .ok (.aload_n 0, 1) := by decide +kernel
theorem dX3_prepare_47 : decode cX3_prepare 47 = .ok (.getfield 17, 3) := by decide +kernel
theorem dX3_prepare_50 : decode cX3_prepare 50 = .ok (.aload_n 2, 1) := by decide +kernel
theorem dX3_prepare_51 : decode cX3_prepare 51 = .ok (.aastore, 1) := by decide +kernel
theorem dX3_prepare_52 : decode cX3_prepare 52 = .ok (.aload_n 2, 1) := by decide +kernel
theorem dX3_prepare_53 : decode cX3_prepare 53 = .ok (.aload_n 1, 1) := by decide +kernel
theorem dX3_prepare_54 : decode cX3_prepare 54 = .ok (.invokevirtual 22, 3) := by decide +kernel
theorem dX3_prepare_57 : decode cX3_prepare 57 = .ok (.return_, 1) := by decide +kernel
theorem dX3_keep_0 : decode cX3_keep 0 = .ok (.aload_n 0, 1) := by decide +kernel
theorem dX3_keep_1 : decode cX3_keep 1 = .ok (.aload_n 0, 1) := by decide +kernel
theorem dX3_keep_2 : decode cX3_keep 2 = .ok (.getfield 17, 3) := by decide +kernel
theorem dX3_keep_5 : decode cX3_keep 5 = .ok (.iconst 1, 1) := by decide +kernel
theorem dX3_keep_6 : decode cX3_keep 6 = .ok (.iadd, 1) := by decide +kernel
theorem dX3_keep_7 : decode cX3_keep 7 = .ok (.bipush 7, 2) := by decide +kernel
theorem dX3_keep_9 : decode cX3_keep 9 = .ok (.irem, 1) := by decide +kernel
theorem dX3_keep_10 : decode cX3_keep 10 = .ok (.putfield 17, 3) := by decide +kernel
theorem dX3_keep_13 : decode cX3_keep 13 = .ok (.aload_n 0, 1) := by decide +kernel
theorem dX3_keep_14 : decode cX3_keep 14 = .ok (.aload_n 0, 1) := by decide +kernel
theorem dX3_keep_15 : decode cX3_keep 15 = .ok (.getfield 26, 3) := by decide +kernel
theorem dX3_keep_18 : decode cX3_keep 18 = .ok (.iconst 1, 1) := by decide +kernel
theorem dX3_keep_19 : decode cX3_keep 19 = .ok (.iadd, 1) := by decide +kernel
theorem dX3_keep_20 : decode cX3_keep 20 = .ok (.bipush 6, 2) := by decide +kernel
theorem dX3_keep_22 : decode cX3_keep 22 = .ok (.invokestatic 29, 3) := by decide +kernel
theorem dX3_keep_25 : decode cX3_keep 25 = .ok (.putfield 26, 3) := by decide +kernel
theorem dX3_keep_28 : decode cX3_keep 28 = .ok (.return_, 1) := by decide +kernel
theorem dX3_bringBack_0 : decode cX3_bringBack 0 = .ok (.aload_n 0, 1) := by decide +kernel
theorem dX3_bringBack_1 : decode cX3_bringBack 1 = .ok (.getfield 17, 3) := by decide +kernel
theorem dX3_bringBack_4 : decode cX3_bringBack 4 = .ok (.bipush 7, 2) := by decide +kernel
theorem dX3_bringBack_6 : decode cX3_bringBack 6 = .ok (.iadd, 1) := by decide +kernel
theorem dX3_bringBack_7 : decode cX3_bringBack 7 = .ok (.iconst 1, 1) := by decide +kernel
theorem dX3_bringBack_8 : decode cX3_bringBack 8 = .ok (.isub, 1) := by decide +kernel
theorem dX3_bringBack_9 : decode cX3_bringBack 9 = .ok (.bipush 7, 2) := by decide +kernel
theorem dX3_bringBack_11 : decode cX3_bringBack 11 = .ok (.irem, 1) := by decide +kernel
theorem dX3_bringBack_12 : decode cX3_bringBack 12 = .ok (.istore_n 2, 1) := by decide +kernel
theorem dX3_bringBack_13 : decode cX3_bringBack 13 = .ok (.aload_n 0, 1) := by decide +kernel
theorem dX3_bringBack_14 : decode cX3_bringBack 14 = .ok (.getfield 26, 3) := by decide +kernel
theorem dX3_bringBack_17 : decode cX3_bringBack 17 = .ok (.ifCond .le 16, 3) := by decide +kernel
theorem dX3_bringBack_20 : decode cX3_bringBack 20 = .ok (.iload_n 2, 1) := by decide +kernel
theorem dX3_bringBack_21 : decode cX3_bringBack 21 = .ok (.ifCond .lt 12, 3) := by decide +kernel
theorem dX3_bringBack_24 : decode cX3_bringBack 24 = .ok (.iload_n 2, 1) := by decide +kernel
theorem dX3_bringBack_25 : decode cX3_bringBack 25 = .ok (.aload_n 0, 1) := by decide +kernel
theorem dX3_bringBack_26 : decode cX3_bringBack 26 = .ok (.getfield 13, 3) := by decide +kernel
theorem dX3_bringBack_29 : decode cX3_bringBack 29 = .ok (.arraylength, 1) := by decide +kernel
theorem dX3_bringBack_30 : decode cX3_bringBack 30 = .ok (.if_icmp .lt 4, 3) := by decide +kernel
theorem dX3_bringBack_33 : decode cX3_bringBack 33 = .ok (.return_, 1) := by decide +kernel
theorem dX3_bringBack_34 : decode cX3_bringBack 34 = .ok (.aload_n 0, 1) := by decide +kernel
theorem dX3_bringBack_35 : decode cX3_bringBack 35 = .ok (.getfield 13, 3) := by decide +kernel
theorem dX3_bringBack_38 : decode cX3_bringBack 38 = .ok (.iload_n 2, 1) := by decide +kernel
theorem dX3_bringBack_39 : decode cX3_bringBack 39 = .ok (.aaload, 1) := by decide +kernel
theorem dX3_bringBack_40 : decode cX3_bringBack 40 = .ok (.astore_n 3, 1) := by decide +kernel
theorem dX3_bringBack_41 : decode cX3_bringBack 41 = .ok (.aload_n 3, 1) := by decide +kernel
theorem dX3_bringBack_42 : decode cX3_bringBack 42 = .ok (.ifnonnull 4, 3) := by decide +kernel
theorem dX3_bringBack_45 : decode cX3_bringBack 45 = .ok (.return_, 1) := by decide +kernel
theorem dX3_bringBack_46 : decode cX3_bringBack 46 = .ok (.aload_n 1, 1) := by decide +kernel
theorem dX3_bringBack_47 : decode cX3_bringBack 47 = .ok (.aload_n 3, 1) := by decide +kernel
theorem dX3_bringBack_48 : decode cX3_bringBack 48 = .ok (.invokevirtual 22, 3) := by decide +kernel
theorem dX3_bringBack_51 : decode cX3_bringBack 51 = .ok (.aload_n 0, 1) := by decide +kernel
theorem dX3_bringBack_52 : decode cX3_bringBack 52 = .ok (.iload_n 2, 1) := by decide +kernel
theorem dX3_bringBack_53 : decode cX3_bringBack 53 = .ok (.putfield 17, 3) := by decide +kernel
theorem dX3_bringBack_56 : decode cX3_bringBack 56 = .ok (.aload_n 0, 1) := by decide +kernel
theorem dX3_bringBack_57 : decode cX3_bringBack 57 = .ok (.dup, 1) := by decide +kernel
theorem dX3_bringBack_58 : decode cX3_bringBack 58 = .ok (.getfield 26, 3) := by decide +kernel
theorem dX3_bringBack_61 : decode cX3_bringBack 61 = .ok (.iconst 1, 1) := by decide +kernel
theorem dX3_bringBack_62 : decode cX3_bringBack 62 = .ok (.isub, 1) := by decide +kernel
theorem dX3_bringBack_63 : decode cX3_bringBack 63 = .ok (.putfield 26, 3) := by decide +kernel
theorem dX3_bringBack_66 : decode cX3_bringBack 66 = .ok (.return_, 1) := by decide +kernel
theorem dX4_init_0 : decode cX4_init 0 = .ok (.aload_n 0, 1) := by decide +kernel
theorem dX4_init_1 : decode cX4_init 1 = .ok (.invokespecial 3, 3) := by decide +kernel
theorem dX4_init_4 : decode cX4_init 4 = .ok (.aload_n 0, 1) := by decide +kernel
theorem dX4_init_5 : decode cX4_init 5 = .ok (.bipush 80, 2) := by decide +kernel
theorem dX4_init_7 : decode cX4_init 7 = .ok (.newarray .char, 2) := by decide +kernel
theorem dX4_init_9 : decode cX4_init 9 = .ok (.putfield 9, 3) := by decide +kernel
theorem dX4_init_12 : decode cX4_init 12 = .ok (.return_, 1) := by decide +kernel
theorem dX4_append_0 : decode cX4_append 0 = .ok (.lload_n 1, 1) := by decide +kernel
theorem dX4_append_1 : decode cX4_append 1 = .ok (.invokestatic 15, 3) := by decide +kernel
theorem dX4_append_4 : decode cX4_append 4 = .ok (.istore_n 3, 1) := by decide +kernel
theorem dX4_append_5 : decode cX4_append 5 = .ok (.iload_n 3, 1) := by decide +kernel
theorem dX4_append_6 : decode cX4_append 6 = .ok (.ifCond .ne 6, 3) := by decide +kernel
theorem dX4_append_9 : decode cX4_append 9 = .ok (.bipush (-2), 2) := by decide +kernel
theorem dX4_append_11 : decode cX4_append 11 = .ok (.ireturn, 1) := by decide +kernel
theorem dX4_append_12 : decode cX4_append 12 = .ok (.aload_n 0, 1) := by decide +kernel
theorem dX4_append_13 : decode cX4_append 13 = .ok (.getfield 19, 3) := by decide +kernel
theorem dX4_append_16 : decode cX4_append 16 = .ok (.iload_n 3, 1) := by decide +kernel
theorem dX4_append_17 : decode cX4_append 17 = .ok (.iadd, 1) := by decide +kernel
theorem dX4_append_18 : decode cX4_append 18 = .ok (.bipush 80, 2) := by decide +kernel
theorem dX4_append_20 : decode cX4_append 20 = .ok (.if_icmp .le 6, 3) := by decide +kernel
theorem dX4_append_23 : decode cX4_append 23 = .ok (.bipush (-4), 2) := by decide +kernel
theorem dX4_append_25 : decode cX4_append 25 = .ok (.ireturn, 1) := by decide +kernel
theorem dX4_append_26 : decode cX4_append 26 = .ok (.lload_n 1, 1) := by decide +kernel
theorem dX4_append_27 : decode cX4_append 27 = .ok (.lstore 4, 2) := by decide +kernel
theorem dX4_append_29 : decode cX4_append 29 = .ok (.aload_n 0, 1) := by decide +kernel
theorem dX4_append_30 : decode cX4_append 30 = .ok (.getfield 19, 3) := by decide +kernel
theorem dX4_append_33 : decode cX4_append 33 = .ok (.iload_n 3, 1) := by decide +kernel
theorem dX4_append_34 : decode cX4_append 34 = .ok (.iadd, 1) := by decide +kernel
theorem dX4_append_35 : decode cX4_append 35 = .ok (.iconst 1, 1) := by decide +kernel
theorem dX4_append_36 : decode cX4_append 36 = .ok (.isub, 1) := by decide +kernel
theorem dX4_append_37 : decode cX4_append 37 = .ok (.istore 6, 2) := by decide +kernel
theorem dX4_append_39 : decode cX4_append 39 = .ok (.iload 6, 2) := by decide +kernel
theorem dX4_append_41 : decode cX4_append 41 = .ok (.aload_n 0, 1) := by decide +kernel
theorem dX4_append_42 : decode cX4_append 42 = .ok (.getfield 19, 3) := by decide +kernel
theorem dX4_append_45 : decode cX4_append 45 = .ok (.if_icmp .lt 36, 3) := by decide +kernel
theorem dX4_append_48 : decode cX4_append 48 = .ok (.iload 6, 2) := by decide +kernel
theorem dX4_append_50 : decode cX4_append 50 = .ok (.ifCond .lt 31, 3) := by decide +kernel
theorem dX4_append_53 : decode cX4_append 53 = .ok (.aload_n 0, 1) := by decide +kernel
theorem dX4_append_54 : decode cX4_append 54 = .ok (.getfield 9, 3) := by decide +kernel
theorem dX4_append_57 : decode cX4_append 57 = .ok (.iload 6, 2) := by decide +kernel
theorem dX4_append_59 : decode cX4_append 59 = .ok (.lload 4, 2) := by decide +kernel
theorem dX4_append_61 : decode cX4_append 61 = .ok (.ldc2_w 23, 3) := by decide +kernel
theorem dX4_append_64 : decode cX4_append 64 = .ok (.land, 1) := by decide +kernel
theorem dX4_append_65 : decode cX4_append 65 = .ok (.l2i, 1) := by decide +kernel
theorem dX4_append_66 : decode cX4_append 66 = .ok (.i2c, 1) := by decide +kernel
theorem dX4_append_67 : decode cX4_append 67 = .ok (.castore, 1) := by decide +kernel
theorem dX4_append_68 : decode cX4_append 68 = .ok (.lload 4, 2) := by decide +kernel
theorem dX4_append_70 : decode cX4_append 70 = .ok (.bipush 8, 2) := by decide +kernel
theorem dX4_append_72 : decode cX4_append 72 = .ok (.lushr, 1) := by decide +kernel
theorem dX4_append_73 : decode cX4_append 73 = .ok (.lstore 4, 2) := by decide +kernel
theorem dX4_append_75 : decode cX4_append 75 = .ok (.iinc 6 (-1), 3) := by decide +kernel
theorem dX4_append_78 : decode cX4_append 78 = .ok (.goto (-39), 3) := by decide +kernel
theorem dX4_append_81 : decode cX4_append 81 = .ok (.aload_n 0, 1) := by decide +kernel
theorem dX4_append_82 : decode cX4_append 82 = .ok (.dup, 1) := by decide +kernel
theorem dX4_append_83 : decode cX4_append 83 = .ok (.getfield 19, 3) := by decide +kernel
theorem dX4_append_86 : decode cX4_append 86 = .ok (.iload_n 3, 1) := by decide +kernel
theorem dX4_append_87 : decode cX4_append 87 = .ok (.iadd, 1) := by decide +kernel
theorem dX4_append_88 : decode cX4_append 88 = .ok (.putfield 19, 3) := by decide +kernel
theorem dX4_append_91 : decode cX4_append 91 = .ok (.aload_n 0, 1) := by decide +kernel
theorem dX4_append_92 : decode cX4_append 92 = .ok (.getfield 19, 3) := by decide +kernel
theorem dX4_append_95 : decode cX4_append 95 = .ok (.ireturn, 1) := by decide +kernel
theorem dX4_signsIn_0 : decode cX4_signsIn 0 = .ok (.iconst 0, 1) := by decide +kernel
theorem dX4_signsIn_1 : decode cX4_signsIn 1 = .ok (.istore_n 2, 1) := by decide +kernel
theorem dX4_signsIn_2 : decode cX4_signsIn 2 = .ok (.lload_n 0, 1) := by decide +kernel
theorem dX4_signsIn_3 : decode cX4_signsIn 3 = .ok (.lstore_n 3, 1) := by decide +kernel
theorem dX4_signsIn_4 : decode cX4_signsIn 4 = .ok (.iconst 0, 1) := by decide +kernel
theorem dX4_signsIn_5 : decode cX4_signsIn 5 = .ok (.istore 5, 2) := by decide +kernel
theorem dX4_signsIn_7 : decode cX4_signsIn 7 = .ok (.iload 5, 2) := by decide +kernel
theorem dX4_signsIn_9 : decode cX4_signsIn 9 = .ok (.bipush 8, 2) := by decide +kernel
theorem dX4_signsIn_11 : decode cX4_signsIn 11 = .ok (.if_icmp .ge 45, 3) := by decide +kernel
theorem dX4_signsIn_14 : decode cX4_signsIn 14 = .ok (.lload_n 3, 1) := by decide +kernel
theorem dX4_signsIn_15 : decode cX4_signsIn 15 = .ok (.lconst 0, 1) := by decide +kernel
theorem dX4_signsIn_16 : decode cX4_signsIn 16 = .ok (.lcmp, 1) := by decide +kernel
theorem dX4_signsIn_17 : decode cX4_signsIn 17 = .ok (.ifCond .eq 39, 3) := by decide +kernel
theorem dX4_signsIn_20 : decode cX4_signsIn 20 = .ok (.lload_n 3, 1) := by decide +kernel
theorem dX4_signsIn_21 : decode cX4_signsIn 21 = .ok (.ldc2_w 23, 3) := by decide +kernel
theorem dX4_signsIn_24 : decode cX4_signsIn 24 = .ok (.land, 1) := by decide +kernel
theorem dX4_signsIn_25 : decode cX4_signsIn 25 = .ok (.l2i, 1) := by decide +kernel
theorem dX4_signsIn_26 : decode cX4_signsIn 26 = .ok (.istore 6, 2) := by decide +kernel
theorem dX4_signsIn_28 : decode cX4_signsIn 28 = .ok (.iload 6, 2) := by decide +kernel
theorem dX4_signsIn_30 : decode cX4_signsIn 30 = .ok (.bipush 33, 2) := by decide +kernel
theorem dX4_signsIn_32 : decode cX4_signsIn 32 = .ok (.bipush 126, 2) := by decide +kernel
theorem dX4_signsIn_34 : decode cX4_signsIn 34 = .ok (.invokestatic 25, 3) := by decide +kernel
theorem dX4_signsIn_37 : decode cX4_signsIn 37 = .ok (.ifCond .ne 5, 3) := by decide +kernel
theorem dX4_signsIn_40 : decode cX4_signsIn 40 = .ok (.iconst 0, 1) := by decide +kernel
theorem dX4_signsIn_41 : decode cX4_signsIn 41 = .ok (.ireturn, 1) := by decide +kernel
theorem dX4_signsIn_42 : decode cX4_signsIn 42 = .ok (.iinc 2 1, 3) := by decide +kernel
theorem dX4_signsIn_45 : decode cX4_signsIn 45 = .ok (.lload_n 3, 1) := by decide +kernel
theorem dX4_signsIn_46 : decode cX4_signsIn 46 = .ok (.bipush 8, 2) := by decide +kernel
theorem dX4_signsIn_48 : decode cX4_signsIn 48 = .ok (.lushr, 1) := by decide +kernel
theorem dX4_signsIn_49 : decode cX4_signsIn 49 = .ok (.lstore_n 3, 1) := by decide +kernel
theorem dX4_signsIn_50 : decode cX4_signsIn 50 = .ok (.iinc 5 1, 3) := by decide +kernel
theorem dX4_signsIn_53 : decode cX4_signsIn 53 = .ok (.goto (-46), 3) := by decide +kernel
theorem dX4_signsIn_56 : decode cX4_signsIn 56 = .ok (.iload_n 2, 1) := by decide +kernel
theorem dX4_signsIn_57 : decode cX4_signsIn 57 = .ok (.ireturn, 1) := by decide +kernel
theorem dX4_signAt_0 : decode cX4_signAt 0 = .ok (.iload_n 1, 1) := by decide +kernel
theorem dX4_signAt_1 : decode cX4_signAt 1 = .ok (.ifCond .lt 20, 3) := by decide +kernel
theorem dX4_signAt_4 : decode cX4_signAt 4 = .ok (.iload_n 1, 1) := by decide +kernel
theorem dX4_signAt_5 : decode cX4_signAt 5 = .ok (.aload_n 0, 1) := by decide +kernel
theorem dX4_signAt_6 : decode cX4_signAt 6 = .ok (.getfield 19, 3) := by decide +kernel
theorem dX4_signAt_9 : decode cX4_signAt 9 = .ok (.if_icmp .ge 12, 3) := by decide +kernel
theorem dX4_signAt_12 : decode cX4_signAt 12 = .ok (.aload_n 0, 1) := by decide +kernel
theorem dX4_signAt_13 : decode cX4_signAt 13 = .ok (.getfield 9, 3) := by decide +kernel
theorem dX4_signAt_16 : decode cX4_signAt 16 = .ok (.iload_n 1, 1) := by decide +kernel
theorem dX4_signAt_17 : decode cX4_signAt 17 = .ok (.caload, 1) := by decide +kernel
theorem dX4_signAt_18 : decode cX4_signAt 18 = .ok (.goto 4, 3) := by decide +kernel
theorem dX4_signAt_21 : decode cX4_signAt 21 = .ok (.iconst 0, 1) := by decide +kernel
theorem dX4_signAt_22 : decode cX4_signAt 22 = .ok (.ireturn, 1) := by decide +kernel
theorem dX4_clear_0 : decode cX4_clear 0 = .ok (.aload_n 0, 1) := by decide +kernel
theorem dX4_clear_1 : decode cX4_clear 1 = .ok (.getfield 19, 3) := by decide +kernel
theorem dX4_clear_4 : decode cX4_clear 4 = .ok (.istore_n 1, 1) := by decide +kernel
theorem dX4_clear_5 : decode cX4_clear 5 = .ok (.aload_n 0, 1) := by decide +kernel
theorem dX4_clear_6 : decode cX4_clear 6 = .ok (.iconst 0, 1) := by decide +kernel
theorem dX4_clear_7 : decode cX4_clear 7 = .ok (.putfield 19, 3) := by decide +kernel
theorem dX4_clear_10 : decode cX4_clear 10 = .ok (.iload_n 1, 1) := by decide +kernel
theorem dX4_clear_11 : decode cX4_clear 11 = .ok (.ireturn, 1) := by decide +kernel
theorem dX5_init_0 : decode cX5_init 0 = .ok (.aload_n 0, 1) := by decide +kernel
theorem dX5_init_1 : decode cX5_init 1 = .ok (.invokespecial 3, 3) := by decide +kernel
theorem dX5_init_4 : decode cX5_init 4 = .ok (.aload_n 0, 1) := by decide +kernel
theorem dX5_init_5 : decode cX5_init 5 = .ok (.bipush 6, 2) := by decide +kernel
theorem dX5_init_7 : decode cX5_init 7 = .ok (.newarray .int, 2) := by decide +kernel
theorem dX5_init_9 : decode cX5_init 9 = .ok (.putfield 9, 3) := by decide +kernel
theorem dX5_init_12 : decode cX5_init 12 = .ok (.aload_n 0, 1) := by decide +kernel
theorem dX5_init_13 : decode cX5_init 13 = .ok (.bipush 6, 2) := by decide +kernel
theorem dX5_init_15 : decode cX5_init 15 = .ok (.newarray .int, 2) := by decide +kernel
theorem dX5_init_17 : decode cX5_init 17 = .ok (.putfield 15, 3) := by decide +kernel
theorem dX5_init_20 : decode cX5_init 20 = .ok (.aload_n 0, 1) := by decide +kernel
theorem dX5_init_21 : decode cX5_init 21 = .ok (.bipush 6, 2) := by decide +kernel
theorem dX5_init_23 : decode cX5_init 23 = .ok (.newarray .int, 2) := by decide +kernel
theorem dX5_init_25 : decode cX5_init 25 = .ok (.putfield 18, 3) := by decide +kernel
theorem dX5_init_28 : decode cX5_init 28 = .ok (.return_, 1) := by decide +kernel
theorem dX5_learn_0 : decode cX5_learn 0 = .ok (.aload_n 0, 1) := by decide +kernel
theorem dX5_learn_1 : decode cX5_learn 1 = .ok (.iconst 0, 1) := by decide +kernel
theorem dX5_learn_2 : decode cX5_learn 2 = .ok (.putfield 21, 3) := by decide +kernel
theorem dX5_learn_5 : decode cX5_learn 5 = .ok (.ldc 25, 2) := by decide +kernel
theorem dX5_learn_7 : decode cX5_learn 7 = .ok (.istore_n 3, 1) := by decide +kernel
theorem dX5_learn_8 : decode cX5_learn 8 = .ok (.iconst 0, 1) := by decide +kernel
theorem dX5_learn_9 : decode cX5_learn 9 = .ok (.istore 4, 2) := by decide +kernel
theorem dX5_learn_11 : decode cX5_learn 11 = .ok (.iload 4, 2) := by decide +kernel
theorem dX5_learn_13 : decode cX5_learn 13 = .ok (.iload_n 2, 1) := by decide +kernel
theorem dX5_learn_14 : decode cX5_learn 14 = .ok (.if_icmp .ge 82, 3) := by decide +kernel
theorem dX5_learn_17 : decode cX5_learn 17 = .ok (.iload 4, 2) := by decide +kernel
theorem dX5_learn_19 : decode cX5_learn 19 = .ok (.bipush 6, 2) := by decide +kernel
theorem dX5_learn_21 : decode cX5_learn 21 = .ok (.if_icmp .ge 75, 3) := by decide +kernel
theorem dX5_learn_24 : decode cX5_learn 24 = .ok (.aload_n 1, 1) := by decide +kernel
theorem dX5_learn_25 : decode cX5_learn 25 = .ok (.iload_n 3, 1) := by decide +kernel
theorem dX5_learn_26 : decode cX5_learn 26 = .ok (.invokestatic 26, 3) := by decide +kernel
theorem dX5_learn_29 : decode cX5_learn 29 = .ok (.istore_n 3, 1) := by decide +kernel
theorem dX5_learn_30 : decode cX5_learn 30 = .ok (.iload_n 3, 1) := by decide +kernel
theorem dX5_learn_31 : decode cX5_learn 31 = .ok (.ifCond .ne 4, 3) := by decide +kernel
theorem dX5_learn_34 : decode cX5_learn 34 = .ok (.return_, 1) := by decide +kernel
theorem dX5_learn_35 : decode cX5_learn 35 = .ok (.aload_n 0, 1) := by decide +kernel
theorem dX5_learn_36 : decode cX5_learn 36 = .ok (.getfield 9, 3) := by decide +kernel
theorem dX5_learn_39 : decode cX5_learn 39 = .ok (.iload 4, 2) := by decide +kernel
theorem dX5_learn_41 : decode cX5_learn 41 = .ok (.bipush 99, 2) := by decide +kernel
theorem dX5_learn_43 : decode cX5_learn 43 = .ok (.iload_n 3, 1) := by decide +kernel
theorem dX5_learn_44 : decode cX5_learn 44 = .ok (.bipush 100, 2) := by decide +kernel
theorem dX5_learn_46 : decode cX5_learn 46 = .ok (.idiv, 1) := by decide +kernel
theorem dX5_learn_47 : decode cX5_learn 47 = .ok (.bipush 100, 2) := by decide +kernel
theorem dX5_learn_49 : decode cX5_learn 49 = .ok (.irem, 1) := by decide +kernel
theorem dX5_learn_50 : decode cX5_learn 50 = .ok (.isub, 1) := by decide +kernel
theorem dX5_learn_51 : decode cX5_learn 51 = .ok (.iastore, 1) := by decide +kernel
theorem dX5_learn_52 : decode cX5_learn 52 = .ok (.aload_n 0, 1) := by decide +kernel
theorem dX5_learn_53 : decode cX5_learn 53 = .ok (.getfield 15, 3) := by decide +kernel
theorem dX5_learn_56 : decode cX5_learn 56 = .ok (.iload 4, 2) := by decide +kernel
theorem dX5_learn_58 : decode cX5_learn 58 = .ok (.bipush 99, 2) := by decide +kernel
theorem dX5_learn_60 : decode cX5_learn 60 = .ok (.iload_n 3, 1) := by decide +kernel
theorem dX5_learn_61 : decode cX5_learn 61 = .ok (.bipush 100, 2) := by decide +kernel
theorem dX5_learn_63 : decode cX5_learn 63 = .ok (.irem, 1) := by decide +kernel
theorem dX5_learn_64 : decode cX5_learn 64 = .ok (.isub, 1) := by decide +kernel
theorem dX5_learn_65 : decode cX5_learn 65 = .ok (.iastore, 1) := by decide +kernel
theorem dX5_learn_66 : decode cX5_learn 66 = .ok (.aload_n 0, 1) := by decide +kernel
theorem dX5_learn_67 : decode cX5_learn 67 = .ok (.getfield 18, 3) := by decide +kernel
theorem dX5_learn_70 : decode cX5_learn 70 = .ok (.iload 4, 2) := by decide +kernel
theorem dX5_learn_72 : decode cX5_learn 72 = .ok (.iload_n 3, 1) := by decide +kernel
theorem dX5_learn_73 : decode cX5_learn 73 = .ok (.bipush 100, 2) := by decide +kernel
theorem dX5_learn_75 : decode cX5_learn 75 = .ok (.idiv, 1) := by decide +kernel
theorem dX5_learn_76 : decode cX5_learn 76 = .ok (.bipush 100, 2) := by decide +kernel
theorem dX5_learn_78 : decode cX5_learn 78 = .ok (.idiv, 1) := by decide +kernel
theorem dX5_learn_79 : decode cX5_learn 79 = .ok (.iastore, 1) := by decide +kernel
theorem dX5_learn_80 : decode cX5_learn 80 = .ok (.aload_n 0, 1) := by decide +kernel
theorem dX5_learn_81 : decode cX5_learn 81 = .ok (.dup, 1) := by decide +kernel
theorem dX5_learn_82 : decode cX5_learn 82 = .ok (.getfield 21, 3) := by decide +kernel
theorem dX5_learn_85 : decode cX5_learn 85 = .ok (.iconst 1, 1) := by decide +kernel
theorem dX5_learn_86 : decode cX5_learn 86 = .ok (.iadd, 1) := by decide +kernel
theorem dX5_learn_87 : decode cX5_learn 87 = .ok (.putfield 21, 3) := by decide +kernel
theorem dX5_learn_90 : decode cX5_learn 90 = .ok (.iinc 4 1, 3) := by decide +kernel
theorem dX5_learn_93 : decode cX5_learn 93 = .ok (.goto (-82), 3) := by decide +kernel
theorem dX5_learn_96 : decode cX5_learn 96 = .ok (.return_, 1) := by decide +kernel
theorem dX5_nextRank_0 : decode cX5_nextRank 0 = .ok (.iconst 0, 1) := by decide +kernel
theorem dX5_nextRank_1 : decode cX5_nextRank 1 = .ok (.istore_n 2, 1) := by decide +kernel
theorem dX5_nextRank_2 : decode cX5_nextRank 2 = .ok (.iconst 0, 1) := by decide +kernel
theorem dX5_nextRank_3 : decode cX5_nextRank 3 = .ok (.istore_n 3, 1) := by decide +kernel
theorem dX5_nextRank_4 : decode cX5_nextRank 4 = .ok (.iload_n 3, 1) := by decide +kernel
theorem dX5_nextRank_5 : decode cX5_nextRank 5 = .ok (.aload_n 0, 1) := by decide +kernel
theorem dX5_nextRank_6 : decode cX5_nextRank 6 = .ok (.getfield 30, 3) := by decide +kernel
theorem dX5_nextRank_9 : decode cX5_nextRank 9 = .ok (.if_icmp .ge 75, 3) := by decide +kernel
theorem dX5_nextRank_12 : decode cX5_nextRank 12 = .ok (.aload_n 0, 1) := by decide +kernel
theorem dX5_nextRank_13 : decode cX5_nextRank 13 = .ok (.iload_n 3, 1) := by decide +kernel
theorem dX5_nextRank_14 : decode cX5_nextRank 14 = .ok (.invokevirtual 35, 3) := by decide +kernel
theorem dX5_nextRank_17 : decode cX5_nextRank 17 = .ok (.istore 4, 2) := by decide +kernel
theorem dX5_nextRank_19 : decode cX5_nextRank 19 = .ok (.bipush 99, 2) := by decide +kernel
theorem dX5_nextRank_21 : decode cX5_nextRank 21 = .ok (.aload_n 0, 1) := by decide +kernel
theorem dX5_nextRank_22 : decode cX5_nextRank 22 = .ok (.iload_n 3, 1) := by decide +kernel
theorem dX5_nextRank_23 : decode cX5_nextRank 23 = .ok (.iconst 0, 1) := by decide +kernel
theorem dX5_nextRank_24 : decode cX5_nextRank 24 = .ok (.invokevirtual 39, 3) := by decide +kernel
theorem dX5_nextRank_27 : decode cX5_nextRank 27 = .ok (.isub, 1) := by decide +kernel
theorem dX5_nextRank_28 : decode cX5_nextRank 28 = .ok (.istore 5, 2) := by decide +kernel
theorem dX5_nextRank_30 : decode cX5_nextRank 30 = .ok (.bipush 99, 2) := by decide +kernel
theorem dX5_nextRank_32 : decode cX5_nextRank 32 = .ok (.aload_n 0, 1) := by decide +kernel
theorem dX5_nextRank_33 : decode cX5_nextRank 33 = .ok (.iload_n 3, 1) := by decide +kernel
theorem dX5_nextRank_34 : decode cX5_nextRank 34 = .ok (.iconst 1, 1) := by decide +kernel
theorem dX5_nextRank_35 : decode cX5_nextRank 35 = .ok (.invokevirtual 39, 3) := by decide +kernel
theorem dX5_nextRank_38 : decode cX5_nextRank 38 = .ok (.isub, 1) := by decide +kernel
theorem dX5_nextRank_39 : decode cX5_nextRank 39 = .ok (.istore 6, 2) := by decide +kernel
theorem dX5_nextRank_41 : decode cX5_nextRank 41 = .ok (.iload 4, 2) := by decide +kernel
theorem dX5_nextRank_43 : decode cX5_nextRank 43 = .ok (.bipush 100, 2) := by decide +kernel
theorem dX5_nextRank_45 : decode cX5_nextRank 45 = .ok (.imul, 1) := by decide +kernel
theorem dX5_nextRank_46 : decode cX5_nextRank 46 = .ok (.iload 5, 2) := by decide +kernel
theorem dX5_nextRank_48 : decode cX5_nextRank 48 = .ok (.iadd, 1) := by decide +kernel
theorem dX5_nextRank_49 : decode cX5_nextRank 49 = .ok (.bipush 100, 2) := by decide +kernel
theorem dX5_nextRank_51 : decode cX5_nextRank 51 = .ok (.imul, 1) := by decide +kernel
theorem dX5_nextRank_52 : decode cX5_nextRank 52 = .ok (.iload 6, 2) := by decide +kernel
theorem dX5_nextRank_54 : decode cX5_nextRank 54 = .ok (.iadd, 1) := by decide +kernel
theorem dX5_nextRank_55 : decode cX5_nextRank 55 = .ok (.istore 7, 2) := by decide +kernel
theorem dX5_nextRank_57 : decode cX5_nextRank 57 = .ok (.iload 4, 2) := by decide +kernel
theorem dX5_nextRank_59 : decode cX5_nextRank 59 = .ok (.iconst 2, 1) := by decide +kernel
theorem dX5_nextRank_60 : decode cX5_nextRank 60 = .ok (.if_icmp .lt 18, 3) := by decide +kernel
theorem dX5_nextRank_63 : decode cX5_nextRank 63 = .ok (.iload 7, 2) := by decide +kernel
theorem dX5_nextRank_65 : decode cX5_nextRank 65 = .ok (.iload_n 1, 1) := by decide +kernel
theorem dX5_nextRank_66 : decode cX5_nextRank 66 = .ok (.if_icmp .ge 12, 3) := by decide +kernel
theorem dX5_nextRank_69 : decode cX5_nextRank 69 = .ok (.iload 7, 2) := by decide +kernel
theorem dX5_nextRank_71 : decode cX5_nextRank 71 = .ok (.iload_n 2, 1) := by decide +kernel
theorem dX5_nextRank_72 : decode cX5_nextRank 72 = .ok (.if_icmp .le 6, 3) := by decide +kernel
theorem dX5_nextRank_75 : decode cX5_nextRank 75 = .ok (.iload 7, 2) := by decide +kernel
theorem dX5_nextRank_77 : decode cX5_nextRank 77 = .ok (.istore_n 2, 1) := by decide +kernel
theorem dX5_nextRank_78 : decode cX5_nextRank 78 = .ok (.iinc 3 1, 3) := by decide +kernel
theorem dX5_nextRank_81 : decode cX5_nextRank 81 = .ok (.goto (-77), 3) := by decide +kernel
theorem dX5_nextRank_84 : decode cX5_nextRank 84 = .ok (.iload_n 2, 1) := by decide +kernel
theorem dX5_nextRank_85 : decode cX5_nextRank 85 = .ok (.ireturn, 1) := by decide +kernel
theorem dX5_tellPair_0 : decode cX5_tellPair 0 = .ok (.iload_n 1, 1) := by decide +kernel
theorem dX5_tellPair_1 : decode cX5_tellPair 1 = .ok (.ifCond .lt 11, 3) := by decide +kernel
theorem dX5_tellPair_4 : decode cX5_tellPair 4 = .ok (.iload_n 1, 1) := by decide +kernel
theorem dX5_tellPair_5 : decode cX5_tellPair 5 = .ok (.aload_n 0, 1) := by decide +kernel
theorem dX5_tellPair_6 : decode cX5_tellPair 6 = .ok (.getfield 21, 3) := by decide +kernel
theorem dX5_tellPair_9 : decode cX5_tellPair 9 = .ok (.if_icmp .lt 5, 3) := by decide +kernel
theorem dX5_tellPair_12 : decode cX5_tellPair 12 = .ok (.iconst (-1), 1) := by decide +kernel
theorem dX5_tellPair_13 : decode cX5_tellPair 13 = .ok (.ireturn, 1) := by decide +kernel
theorem dX5_tellPair_14 : decode cX5_tellPair 14 = .ok (.iload_n 2, 1) := by decide +kernel
theorem dX5_tellPair_15 : decode cX5_tellPair 15 = .ok (.lookupswitch 39 #[(0, 25), (1, 32)], 25) := by decide +kernel
theorem dX5_tellPair_40 : decode cX5_tellPair 40 = .ok (.aload_n 0, 1) := by decide +kernel
theorem dX5_tellPair_41 : decode cX5_tellPair 41 = .ok (.getfield 9, 3) := by decide +kernel
theorem dX5_tellPair_44 : decode cX5_tellPair 44 = .ok (.iload_n 1, 1) := by decide +kernel
theorem dX5_tellPair_45 : decode cX5_tellPair 45 = .ok (.iaload, 1) := by decide +kernel
theorem dX5_tellPair_46 : decode cX5_tellPair 46 = .ok (.ireturn, 1) := by decide +kernel
theorem dX5_tellPair_47 : decode cX5_tellPair 47 = .ok (.aload_n 0, 1) := by decide +kernel
theorem dX5_tellPair_48 : decode cX5_tellPair 48 = .ok (.getfield 15, 3) := by decide +kernel
theorem dX5_tellPair_51 : decode cX5_tellPair 51 = .ok (.iload_n 1, 1) := by decide +kernel
theorem dX5_tellPair_52 : decode cX5_tellPair 52 = .ok (.iaload, 1) := by decide +kernel
theorem dX5_tellPair_53 : decode cX5_tellPair 53 = .ok (.ireturn, 1) := by decide +kernel
theorem dX5_tellPair_54 : decode cX5_tellPair 54 = .ok (.aload_n 0, 1) := by decide +kernel
theorem dX5_tellPair_55 : decode cX5_tellPair 55 = .ok (.getfield 18, 3) := by decide +kernel
theorem dX5_tellPair_58 : decode cX5_tellPair 58 = .ok (.iload_n 1, 1) := by decide +kernel
theorem dX5_tellPair_59 : decode cX5_tellPair 59 = .ok (.iaload, 1) := by decide +kernel
theorem dX5_tellPair_60 : decode cX5_tellPair 60 = .ok (.ireturn, 1) := by decide +kernel
theorem dX5_rowsInside_0 : decode cX5_rowsInside 0 = .ok (.iconst 0, 1) := by decide +kernel
theorem dX5_rowsInside_1 : decode cX5_rowsInside 1 = .ok (.istore 5, 2) := by decide +kernel
theorem dX5_rowsInside_3 : decode cX5_rowsInside 3 = .ok (.iconst 0, 1) := by decide +kernel
theorem dX5_rowsInside_4 : decode cX5_rowsInside 4 = .ok (.istore 6, 2) := by decide +kernel
theorem dX5_rowsInside_6 : decode cX5_rowsInside 6 = .ok (.iload 6, 2) := by decide +kernel
theorem dX5_rowsInside_8 : decode cX5_rowsInside 8 = .ok (.aload_n 0, 1) := by decide +kernel
theorem dX5_rowsInside_9 : decode cX5_rowsInside 9 = .ok (.getfield 21, 3) := by decide +kernel
theorem dX5_rowsInside_12 : decode cX5_rowsInside 12 = .ok (.if_icmp .ge 52, 3) := by decide +kernel
theorem dX5_rowsInside_15 : decode cX5_rowsInside 15 = .ok (.aload_n 0, 1) := by decide +kernel
theorem dX5_rowsInside_16 : decode cX5_rowsInside 16 = .ok (.getfield 9, 3) := by decide +kernel
theorem dX5_rowsInside_19 : decode cX5_rowsInside 19 = .ok (.iload 6, 2) := by decide +kernel
theorem dX5_rowsInside_21 : decode cX5_rowsInside 21 = .ok (.iaload, 1) := by decide +kernel
theorem dX5_rowsInside_22 : decode cX5_rowsInside 22 = .ok (.iload_n 1, 1) := by decide +kernel
theorem dX5_rowsInside_23 : decode cX5_rowsInside 23 = .ok (.iload_n 2, 1) := by decide +kernel
theorem dX5_rowsInside_24 : decode cX5_rowsInside 24 = .ok (.invokestatic 43, 3) := by decide +kernel
theorem dX5_rowsInside_27 : decode cX5_rowsInside 27 = .ok (.ifCond .eq 31, 3) := by decide +kernel
theorem dX5_rowsInside_30 : decode cX5_rowsInside 30 = .ok (.aload_n 0, 1) := by decide +kernel
theorem dX5_rowsInside_31 : decode cX5_rowsInside 31 = .ok (.getfield 15, 3) := by decide +kernel
theorem dX5_rowsInside_34 : decode cX5_rowsInside 34 = .ok (.iload 6, 2) := by decide +kernel
theorem dX5_rowsInside_36 : decode cX5_rowsInside 36 = .ok (.iaload, 1) := by decide +kernel
theorem dX5_rowsInside_37 : decode cX5_rowsInside 37 = .ok (.iload_n 3, 1) := by decide +kernel
theorem dX5_rowsInside_38 : decode cX5_rowsInside 38 = .ok (.iload 4, 2) := by decide +kernel
theorem dX5_rowsInside_40 : decode cX5_rowsInside 40 = .ok (.invokestatic 43, 3) := by decide +kernel
theorem dX5_rowsInside_43 : decode cX5_rowsInside 43 = .ok (.ifCond .eq 15, 3) := by decide +kernel
theorem dX5_rowsInside_46 : decode cX5_rowsInside 46 = .ok (.iload 5, 2) := by decide +kernel
theorem dX5_rowsInside_48 : decode cX5_rowsInside 48 = .ok (.aload_n 0, 1) := by decide +kernel
theorem dX5_rowsInside_49 : decode cX5_rowsInside 49 = .ok (.getfield 18, 3) := by decide +kernel
theorem dX5_rowsInside_52 : decode cX5_rowsInside 52 = .ok (.iload 6, 2) := by decide +kernel
theorem dX5_rowsInside_54 : decode cX5_rowsInside 54 = .ok (.iaload, 1) := by decide +kernel
theorem dX5_rowsInside_55 : decode cX5_rowsInside 55 = .ok (.iadd, 1) := by decide +kernel
theorem dX5_rowsInside_56 : decode cX5_rowsInside 56 = .ok (.istore 5, 2) := by decide +kernel
theorem dX5_rowsInside_58 : decode cX5_rowsInside 58 = .ok (.iinc 6 1, 3) := by decide +kernel
theorem dX5_rowsInside_61 : decode cX5_rowsInside 61 = .ok (.goto (-55), 3) := by decide +kernel
theorem dX5_rowsInside_64 : decode cX5_rowsInside 64 = .ok (.iload 5, 2) := by decide +kernel
theorem dX5_rowsInside_66 : decode cX5_rowsInside 66 = .ok (.ireturn, 1) := by decide +kernel
theorem dX5_copyFrom_0 : decode cX5_copyFrom 0 = .ok (.aload_n 1, 1) := by decide +kernel
theorem dX5_copyFrom_1 : decode cX5_copyFrom 1 = .ok (.getfield 9, 3) := by decide +kernel
theorem dX5_copyFrom_4 : decode cX5_copyFrom 4 = .ok (.aload_n 0, 1) := by decide +kernel
theorem dX5_copyFrom_5 : decode cX5_copyFrom 5 = .ok (.getfield 9, 3) := by decide +kernel
theorem dX5_copyFrom_8 : decode cX5_copyFrom 8 = .ok (.invokestatic 47, 3) := by decide +kernel
theorem dX5_copyFrom_11 : decode cX5_copyFrom 11 = .ok (.aload_n 1, 1) := by decide +kernel
theorem dX5_copyFrom_12 : decode cX5_copyFrom 12 = .ok (.getfield 15, 3) := by decide +kernel
theorem dX5_copyFrom_15 : decode cX5_copyFrom 15 = .ok (.aload_n 0, 1) := by decide +kernel
theorem dX5_copyFrom_16 : decode cX5_copyFrom 16 = .ok (.getfield 15, 3) := by decide +kernel
theorem dX5_copyFrom_19 : decode cX5_copyFrom 19 = .ok (.invokestatic 47, 3) := by decide +kernel
theorem dX5_copyFrom_22 : decode cX5_copyFrom 22 = .ok (.aload_n 1, 1) := by decide +kernel
theorem dX5_copyFrom_23 : decode cX5_copyFrom 23 = .ok (.getfield 18, 3) := by decide +kernel
theorem dX5_copyFrom_26 : decode cX5_copyFrom 26 = .ok (.aload_n 0, 1) := by decide +kernel
theorem dX5_copyFrom_27 : decode cX5_copyFrom 27 = .ok (.getfield 18, 3) := by decide +kernel
theorem dX5_copyFrom_30 : decode cX5_copyFrom 30 = .ok (.invokestatic 47, 3) := by decide +kernel
theorem dX5_copyFrom_33 : decode cX5_copyFrom 33 = .ok (.aload_n 0, 1) := by decide +kernel
theorem dX5_copyFrom_34 : decode cX5_copyFrom 34 = .ok (.aload_n 1, 1) := by decide +kernel
theorem dX5_copyFrom_35 : decode cX5_copyFrom 35 = .ok (.getfield 21, 3) := by decide +kernel
theorem dX5_copyFrom_38 : decode cX5_copyFrom 38 = .ok (.putfield 21, 3) := by decide +kernel
theorem dX5_copyFrom_41 : decode cX5_copyFrom 41 = .ok (.return_, 1) := by decide +kernel
theorem dX6_init_0 : decode cX6_init 0 = .ok (.aload_n 0, 1) := by decide +kernel
theorem dX6_init_1 : decode cX6_init 1 = .ok (.invokespecial 3, 3) := by decide +kernel
theorem dX6_init_4 : decode cX6_init 4 = .ok (.aload_n 0, 1) := by decide +kernel
theorem dX6_init_5 : decode cX6_init 5 = .ok (.aload_n 1, 1) := by decide +kernel
theorem dX6_init_6 : decode cX6_init 6 = .ok (.putfield 9, 3) := by decide +kernel
theorem dX6_init_9 : decode cX6_init 9 = .ok (.return_, 1) := by decide +kernel
theorem dX6_start_0 : decode cX6_start 0 = .ok (.aload_n 0, 1) := by decide +kernel
theorem dX6_start_1 : decode cX6_start 1 = .ok (.iconst 0, 1) := by decide +kernel
theorem dX6_start_2 : decode cX6_start 2 = .ok (.putfield 15, 3) := by decide +kernel
theorem dX6_start_5 : decode cX6_start 5 = .ok (.return_, 1) := by decide +kernel
theorem dX6_findFault_0 : decode cX6_findFault 0 = .ok (.aload_n 0, 1) := by decide +kernel
theorem dX6_findFault_1 : decode cX6_findFault 1 = .ok (.invokevirtual 19, 3) := by decide +kernel
theorem dX6_findFault_4 : decode cX6_findFault 4 = .ok (.iconst 0, 1) := by decide +kernel
theorem dX6_findFault_5 : decode cX6_findFault 5 = .ok (.istore_n 1, 1) := by decide +kernel
theorem dX6_findFault_6 : decode cX6_findFault 6 = .ok (.iload_n 1, 1) := by decide +kernel
theorem dX6_findFault_7 : decode cX6_findFault 7 = .ok (.bipush 80, 2) := by decide +kernel
theorem dX6_findFault_9 : decode cX6_findFault 9 = .ok (.if_icmp .ge 52, 3) := by decide +kernel
theorem dX6_findFault_12 : decode cX6_findFault 12 = .ok (.aload_n 0, 1) := by decide +kernel
theorem dX6_findFault_13 : decode cX6_findFault 13 = .ok (.invokevirtual 22, 3) := by decide +kernel
theorem dX6_findFault_16 : decode cX6_findFault 16 = .ok (.ifCond .ne 8, 3) := by decide +kernel
theorem dX6_findFault_19 : decode cX6_findFault 19 = .ok (.aload_n 0, 1) := by decide +kernel
theorem dX6_findFault_20 : decode cX6_findFault 20 = .ok (.getfield 15, 3) := by decide +kernel
theorem dX6_findFault_23 : decode cX6_findFault 23 = .ok (.ireturn, 1) := by decide +kernel
theorem dX6_findFault_24 : decode cX6_findFault 24 = .ok (.aload_n 0, 1) := by decide +kernel
theorem dX6_findFault_25 : decode cX6_findFault 25 = .ok (.getfield 15, 3) := by decide +kernel
theorem dX6_findFault_28 : decode cX6_findFault 28 = .ok (.aload_n 0, 1) := by decide +kernel
theorem dX6_findFault_29 : decode cX6_findFault 29 = .ok (.getfield 9, 3) := by decide +kernel
theorem dX6_findFault_32 : decode cX6_findFault 32 = .ok (.getfield 26, 3) := by decide +kernel
theorem dX6_findFault_35 : decode cX6_findFault 35 = .ok (.if_icmp .ne 6, 3) := by decide +kernel
theorem dX6_findFault_38 : decode cX6_findFault 38 = .ok (.bipush (-6), 2) := by decide +kernel
theorem dX6_findFault_40 : decode cX6_findFault 40 = .ok (.ireturn, 1) := by decide +kernel
theorem dX6_findFault_41 : decode cX6_findFault 41 = .ok (.aload_n 0, 1) := by decide +kernel
theorem dX6_findFault_42 : decode cX6_findFault 42 = .ok (.bipush 59, 2) := by decide +kernel
theorem dX6_findFault_44 : decode cX6_findFault 44 = .ok (.invokevirtual 31, 3) := by decide +kernel
theorem dX6_findFault_47 : decode cX6_findFault 47 = .ok (.ifCond .ne 8, 3) := by decide +kernel
theorem dX6_findFault_50 : decode cX6_findFault 50 = .ok (.aload_n 0, 1) := by decide +kernel
theorem dX6_findFault_51 : decode cX6_findFault 51 = .ok (.getfield 15, 3) := by decide +kernel
theorem dX6_findFault_54 : decode cX6_findFault 54 = .ok (.ireturn, 1) := by decide +kernel
theorem dX6_findFault_55 : decode cX6_findFault 55 = .ok (.iinc 1 1, 3) := by decide +kernel
theorem dX6_findFault_58 : decode cX6_findFault 58 = .ok (.goto (-52), 3) := by decide +kernel
theorem dX6_findFault_61 : decode cX6_findFault 61 = .ok (.aload_n 0, 1) := by decide +kernel
theorem dX6_findFault_62 : decode cX6_findFault 62 = .ok (.getfield 15, 3) := by decide +kernel
theorem dX6_findFault_65 : decode cX6_findFault 65 = .ok (.ireturn, 1) := by decide +kernel
theorem dX6_readOrder_0 : decode cX6_readOrder 0 = .ok (.aload_n 0, 1) := by decide +kernel
theorem dX6_readOrder_1 : decode cX6_readOrder 1 = .ok (.aload_n 0, 1) := by decide +kernel
theorem dX6_readOrder_2 : decode cX6_readOrder 2 = .ok (.getfield 9, 3) := by decide +kernel
theorem dX6_readOrder_5 : decode cX6_readOrder 5 = .ok (.aload_n 0, 1) := by decide +kernel
theorem dX6_readOrder_6 : decode cX6_readOrder 6 = .ok (.getfield 15, 3) := by decide +kernel
theorem dX6_readOrder_9 : decode cX6_readOrder 9 = .ok (.invokevirtual 35, 3) := by decide +kernel
theorem dX6_readOrder_12 : decode cX6_readOrder 12 = .ok (.putfield 39, 3) := by decide +kernel
theorem dX6_readOrder_15 : decode cX6_readOrder 15 = .ok (.aload_n 0, 1) := by decide +kernel
theorem dX6_readOrder_16 : decode cX6_readOrder 16 = .ok (.getfield 39, 3) := by decide +kernel
theorem dX6_readOrder_19 : decode cX6_readOrder 19 = .ok (.lookupswitch 115 #[(43, 57), (45, 84), (97, 72), (98, 84), (99, 84), (112, 84)], 57) := by decide +kernel
theorem dX6_readOrder_76 : decode cX6_readOrder 76 = .ok (.aload_n 0, 1) := by decide +kernel
theorem dX6_readOrder_77 : decode cX6_readOrder 77 = .ok (.dup, 1) := by decide +kernel
theorem dX6_readOrder_78 : decode cX6_readOrder 78 = .ok (.getfield 15, 3) := by decide +kernel
theorem dX6_readOrder_81 : decode cX6_readOrder 81 = .ok (.iconst 1, 1) := by decide +kernel
theorem dX6_readOrder_82 : decode cX6_readOrder 82 = .ok (.iadd, 1) := by decide +kernel
theorem dX6_readOrder_83 : decode cX6_readOrder 83 = .ok (.putfield 15, 3) := by decide +kernel
theorem dX6_readOrder_86 : decode cX6_readOrder 86 = .ok (.aload_n 0, 1) := by decide +kernel
theorem dX6_readOrder_87 : decode cX6_readOrder 87 = .ok (.invokevirtual 43, 3) := by decide +kernel
theorem dX6_readOrder_90 : decode cX6_readOrder 90 = .ok (.ireturn, 1) := by decide +kernel
theorem dX6_readOrder_91 : decode cX6_readOrder 91 = .ok (.aload_n 0, 1) := by decide +kernel
theorem dX6_readOrder_92 : decode cX6_readOrder 92 = .ok (.dup, 1) := by decide +kernel
theorem dX6_readOrder_93 : decode cX6_readOrder 93 = .ok (.getfield 15, 3) := by decide +kernel
theorem dX6_readOrder_96 : decode cX6_readOrder 96 = .ok (.iconst 1, 1) := by decide +kernel
theorem dX6_readOrder_97 : decode cX6_readOrder 97 = .ok (.iadd, 1) := by decide +kernel
theorem dX6_readOrder_98 : decode cX6_readOrder 98 = .ok (.putfield 15, 3) := by decide +kernel
theorem dX6_readOrder_101 : decode cX6_readOrder 101 = .ok (.iconst 1, 1) := by decide +kernel
theorem dX6_readOrder_102 : decode cX6_readOrder 102 = .ok (.ireturn, 1) := by decide +kernel
theorem dX6_readOrder_103 : decode cX6_readOrder 103 = .ok (.aload_n 0, 1) := by decide +kernel
theorem dX6_readOrder_104 : decode cX6_readOrder 104 = .ok (.dup, 1) := by decide +kernel
theorem dX6_readOrder_105 : decode cX6_readOrder 105 = .ok (.getfield 15, 3) := by decide +kernel
theorem dX6_readOrder_108 : decode cX6_readOrder 108 = .ok (.iconst 1, 1) := by decide +kernel
theorem dX6_readOrder_109 : decode cX6_readOrder 109 = .ok (.iadd, 1) := by decide +kernel
theorem dX6_readOrder_110 : decode cX6_readOrder 110 = .ok (.putfield 15, 3) := by decide +kernel
theorem dX6_readOrder_113 : decode cX6_readOrder 113 = .ok (.aload_n 0, 1) := by decide +kernel
theorem dX6_readOrder_114 : decode cX6_readOrder 114 = .ok (.aload_n 0, 1) := by decide +kernel
theorem dX6_readOrder_115 : decode cX6_readOrder 115 = .ok (.invokevirtual 46, 3) := by decide +kernel
theorem dX6_readOrder_118 : decode cX6_readOrder 118 = .ok (.putfield 50, 3) := by decide +kernel
theorem dX6_readOrder_121 : decode cX6_readOrder 121 = .ok (.aload_n 0, 1) := by decide +kernel
theorem dX6_readOrder_122 : decode cX6_readOrder 122 = .ok (.getfield 50, 3) := by decide +kernel
theorem dX6_readOrder_125 : decode cX6_readOrder 125 = .ok (.ifCond .lt 7, 3) := by decide +kernel
theorem dX6_readOrder_128 : decode cX6_readOrder 128 = .ok (.iconst 1, 1) := by decide +kernel
theorem dX6_readOrder_129 : decode cX6_readOrder 129 = .ok (.goto 4, 3) := by decide +kernel
theorem dX6_readOrder_132 : decode cX6_readOrder 132 = .ok (.iconst 0, 1) := by decide +kernel
theorem dX6_readOrder_133 : decode cX6_readOrder 133 = .ok (.ireturn, 1) := by decide +kernel
theorem dX6_readOrder_134 : decode cX6_readOrder 134 = .ok (.iconst 0, 1) := by decide +kernel
theorem dX6_readOrder_135 : decode cX6_readOrder 135 = .ok (.ireturn, 1) := by decide +kernel
theorem dX6_readRow_0 : decode cX6_readRow 0 = .ok (.aload_n 0, 1) := by decide +kernel
theorem dX6_readRow_1 : decode cX6_readRow 1 = .ok (.aload_n 0, 1) := by decide +kernel
theorem dX6_readRow_2 : decode cX6_readRow 2 = .ok (.invokevirtual 46, 3) := by decide +kernel
theorem dX6_readRow_5 : decode cX6_readRow 5 = .ok (.putfield 50, 3) := by decide +kernel
theorem dX6_readRow_8 : decode cX6_readRow 8 = .ok (.aload_n 0, 1) := by decide +kernel
theorem dX6_readRow_9 : decode cX6_readRow 9 = .ok (.getfield 50, 3) := by decide +kernel
theorem dX6_readRow_12 : decode cX6_readRow 12 = .ok (.ifCond .lt 12, 3) := by decide +kernel
theorem dX6_readRow_15 : decode cX6_readRow 15 = .ok (.aload_n 0, 1) := by decide +kernel
theorem dX6_readRow_16 : decode cX6_readRow 16 = .ok (.bipush 44, 2) := by decide +kernel
theorem dX6_readRow_18 : decode cX6_readRow 18 = .ok (.invokevirtual 31, 3) := by decide +kernel
theorem dX6_readRow_21 : decode cX6_readRow 21 = .ok (.ifCond .ne 5, 3) := by decide +kernel
theorem dX6_readRow_24 : decode cX6_readRow 24 = .ok (.iconst 0, 1) := by decide +kernel
theorem dX6_readRow_25 : decode cX6_readRow 25 = .ok (.ireturn, 1) := by decide +kernel
theorem dX6_readRow_26 : decode cX6_readRow 26 = .ok (.aload_n 0, 1) := by decide +kernel
theorem dX6_readRow_27 : decode cX6_readRow 27 = .ok (.aload_n 0, 1) := by decide +kernel
theorem dX6_readRow_28 : decode cX6_readRow 28 = .ok (.invokevirtual 46, 3) := by decide +kernel
theorem dX6_readRow_31 : decode cX6_readRow 31 = .ok (.putfield 53, 3) := by decide +kernel
theorem dX6_readRow_34 : decode cX6_readRow 34 = .ok (.aload_n 0, 1) := by decide +kernel
theorem dX6_readRow_35 : decode cX6_readRow 35 = .ok (.getfield 53, 3) := by decide +kernel
theorem dX6_readRow_38 : decode cX6_readRow 38 = .ok (.ifCond .lt 14, 3) := by decide +kernel
theorem dX6_readRow_41 : decode cX6_readRow 41 = .ok (.aload_n 0, 1) := by decide +kernel
theorem dX6_readRow_42 : decode cX6_readRow 42 = .ok (.invokevirtual 56, 3) := by decide +kernel
theorem dX6_readRow_45 : decode cX6_readRow 45 = .ok (.ifCond .eq 7, 3) := by decide +kernel
theorem dX6_readRow_48 : decode cX6_readRow 48 = .ok (.iconst 1, 1) := by decide +kernel
theorem dX6_readRow_49 : decode cX6_readRow 49 = .ok (.goto 4, 3) := by decide +kernel
end
section
theorem dX6_readRow_52 : decode cX6_readRow 52 = .ok (.iconst 0, 1) := by decide +kernel
theorem dX6_readRow_53 : decode cX6_readRow 53 = .ok (.ireturn, 1) := by decide +kernel
theorem dX6_readTimes_0 : decode cX6_readTimes 0 = .ok (.aload_n 0, 1) := by decide +kernel
theorem dX6_readTimes_1 : decode cX6_readTimes 1 = .ok (.iconst 1, 1) := by decide +kernel
theorem dX6_readTimes_2 : decode cX6_readTimes 2 = .ok (.putfield 59, 3) := by decide +kernel
theorem dX6_readTimes_5 : decode cX6_readTimes 5 = .ok (.aload_n 0, 1) := by decide +kernel
theorem dX6_readTimes_6 : decode cX6_readTimes 6 = .ok (.bipush 42, 2) := by decide +kernel
theorem dX6_readTimes_8 : decode cX6_readTimes 8 = .ok (.invokevirtual 31, 3) := by decide +kernel
theorem dX6_readTimes_11 : decode cX6_readTimes 11 = .ok (.ifCond .ne 5, 3) := by decide +kernel
theorem dX6_readTimes_14 : decode cX6_readTimes 14 = .ok (.iconst 1, 1) := by decide +kernel
theorem dX6_readTimes_15 : decode cX6_readTimes 15 = .ok (.ireturn, 1) := by decide +kernel
theorem dX6_readTimes_16 : decode cX6_readTimes 16 = .ok (.aload_n 0, 1) := by decide +kernel
theorem dX6_readTimes_17 : decode cX6_readTimes 17 = .ok (.getfield 9, 3) := by decide +kernel
theorem dX6_readTimes_20 : decode cX6_readTimes 20 = .ok (.aload_n 0, 1) := by decide +kernel
theorem dX6_readTimes_21 : decode cX6_readTimes 21 = .ok (.getfield 15, 3) := by decide +kernel
theorem dX6_readTimes_24 : decode cX6_readTimes 24 = .ok (.invokevirtual 35, 3) := by decide +kernel
theorem dX6_readTimes_27 : decode cX6_readTimes 27 = .ok (.bipush 48, 2) := by decide +kernel
theorem dX6_readTimes_29 : decode cX6_readTimes 29 = .ok (.if_icmp .ne 5, 3) := by decide +kernel
theorem dX6_readTimes_32 : decode cX6_readTimes 32 = .ok (.iconst 0, 1) := by decide +kernel
theorem dX6_readTimes_33 : decode cX6_readTimes 33 = .ok (.ireturn, 1) := by decide +kernel
theorem dX6_readTimes_34 : decode cX6_readTimes 34 = .ok (.aload_n 0, 1) := by decide +kernel
theorem dX6_readTimes_35 : decode cX6_readTimes 35 = .ok (.aload_n 0, 1) := by decide +kernel
theorem dX6_readTimes_36 : decode cX6_readTimes 36 = .ok (.invokevirtual 62, 3) := by decide +kernel
theorem dX6_readTimes_39 : decode cX6_readTimes 39 = .ok (.putfield 59, 3) := by decide +kernel
theorem dX6_readTimes_42 : decode cX6_readTimes 42 = .ok (.aload_n 0, 1) := by decide +kernel
theorem dX6_readTimes_43 : decode cX6_readTimes 43 = .ok (.getfield 59, 3) := by decide +kernel
theorem dX6_readTimes_46 : decode cX6_readTimes 46 = .ok (.ifCond .le 7, 3) := by decide +kernel
theorem dX6_readTimes_49 : decode cX6_readTimes 49 = .ok (.iconst 1, 1) := by decide +kernel
theorem dX6_readTimes_50 : decode cX6_readTimes 50 = .ok (.goto 4, 3) := by decide +kernel
theorem dX6_readTimes_53 : decode cX6_readTimes 53 = .ok (.iconst 0, 1) := by decide +kernel
theorem dX6_readTimes_54 : decode cX6_readTimes 54 = .ok (.ireturn, 1) := by decide +kernel
theorem dX6_readNumber_0 : decode cX6_readNumber 0 = .ok (.aload_n 0, 1) := by decide +kernel
theorem dX6_readNumber_1 : decode cX6_readNumber 1 = .ok (.invokevirtual 62, 3) := by decide +kernel
theorem dX6_readNumber_4 : decode cX6_readNumber 4 = .ok (.istore_n 1, 1) := by decide +kernel
theorem dX6_readNumber_5 : decode cX6_readNumber 5 = .ok (.iload_n 1, 1) := by decide +kernel
theorem dX6_readNumber_6 : decode cX6_readNumber 6 = .ok (.ifCond .gt 5, 3) := by decide +kernel
theorem dX6_readNumber_9 : decode cX6_readNumber 9 = .ok (.iload_n 1, 1) := by decide +kernel
theorem dX6_readNumber_10 : decode cX6_readNumber 10 = .ok (.ireturn, 1) := by decide +kernel
theorem dX6_readNumber_11 : decode cX6_readNumber 11 = .ok (.aload_n 0, 1) := by decide +kernel
theorem dX6_readNumber_12 : decode cX6_readNumber 12 = .ok (.invokevirtual 62, 3) := by decide +kernel
theorem dX6_readNumber_15 : decode cX6_readNumber 15 = .ok (.istore_n 2, 1) := by decide +kernel
theorem dX6_readNumber_16 : decode cX6_readNumber 16 = .ok (.iload_n 2, 1) := by decide +kernel
theorem dX6_readNumber_17 : decode cX6_readNumber 17 = .ok (.ifCond .ge 7, 3) := by decide +kernel
theorem dX6_readNumber_20 : decode cX6_readNumber 20 = .ok (.iload_n 1, 1) := by decide +kernel
theorem dX6_readNumber_21 : decode cX6_readNumber 21 = .ok (.goto 9, 3) := by decide +kernel
theorem dX6_readNumber_24 : decode cX6_readNumber 24 = .ok (.iload_n 1, 1) := by decide +kernel
theorem dX6_readNumber_25 : decode cX6_readNumber 25 = .ok (.bipush 10, 2) := by decide +kernel
theorem dX6_readNumber_27 : decode cX6_readNumber 27 = .ok (.imul, 1) := by decide +kernel
theorem dX6_readNumber_28 : decode cX6_readNumber 28 = .ok (.iload_n 2, 1) := by decide +kernel
theorem dX6_readNumber_29 : decode cX6_readNumber 29 = .ok (.iadd, 1) := by decide +kernel
theorem dX6_readNumber_30 : decode cX6_readNumber 30 = .ok (.ireturn, 1) := by decide +kernel
theorem dX6_readDigit_0 : decode cX6_readDigit 0 = .ok (.aload_n 0, 1) := by decide +kernel
theorem dX6_readDigit_1 : decode cX6_readDigit 1 = .ok (.getfield 9, 3) := by decide +kernel
theorem dX6_readDigit_4 : decode cX6_readDigit 4 = .ok (.aload_n 0, 1) := by decide +kernel
theorem dX6_readDigit_5 : decode cX6_readDigit 5 = .ok (.getfield 15, 3) := by decide +kernel
theorem dX6_readDigit_8 : decode cX6_readDigit 8 = .ok (.invokevirtual 35, 3) := by decide +kernel
theorem dX6_readDigit_11 : decode cX6_readDigit 11 = .ok (.bipush 48, 2) := by decide +kernel
theorem dX6_readDigit_13 : decode cX6_readDigit 13 = .ok (.isub, 1) := by decide +kernel
theorem dX6_readDigit_14 : decode cX6_readDigit 14 = .ok (.istore_n 1, 1) := by decide +kernel
theorem dX6_readDigit_15 : decode cX6_readDigit 15 = .ok (.iload_n 1, 1) := by decide +kernel
theorem dX6_readDigit_16 : decode cX6_readDigit 16 = .ok (.ifCond .lt 9, 3) := by decide +kernel
theorem dX6_readDigit_19 : decode cX6_readDigit 19 = .ok (.iload_n 1, 1) := by decide +kernel
theorem dX6_readDigit_20 : decode cX6_readDigit 20 = .ok (.bipush 9, 2) := by decide +kernel
theorem dX6_readDigit_22 : decode cX6_readDigit 22 = .ok (.if_icmp .le 5, 3) := by decide +kernel
theorem dX6_readDigit_25 : decode cX6_readDigit 25 = .ok (.iconst (-1), 1) := by decide +kernel
theorem dX6_readDigit_26 : decode cX6_readDigit 26 = .ok (.ireturn, 1) := by decide +kernel
theorem dX6_readDigit_27 : decode cX6_readDigit 27 = .ok (.aload_n 0, 1) := by decide +kernel
theorem dX6_readDigit_28 : decode cX6_readDigit 28 = .ok (.dup, 1) := by decide +kernel
theorem dX6_readDigit_29 : decode cX6_readDigit 29 = .ok (.getfield 15, 3) := by decide +kernel
theorem dX6_readDigit_32 : decode cX6_readDigit 32 = .ok (.iconst 1, 1) := by decide +kernel
theorem dX6_readDigit_33 : decode cX6_readDigit 33 = .ok (.iadd, 1) := by decide +kernel
theorem dX6_readDigit_34 : decode cX6_readDigit 34 = .ok (.putfield 15, 3) := by decide +kernel
theorem dX6_readDigit_37 : decode cX6_readDigit 37 = .ok (.iload_n 1, 1) := by decide +kernel
theorem dX6_readDigit_38 : decode cX6_readDigit 38 = .ok (.ireturn, 1) := by decide +kernel
theorem dX6_passSign_0 : decode cX6_passSign 0 = .ok (.aload_n 0, 1) := by decide +kernel
theorem dX6_passSign_1 : decode cX6_passSign 1 = .ok (.getfield 9, 3) := by decide +kernel
theorem dX6_passSign_4 : decode cX6_passSign 4 = .ok (.aload_n 0, 1) := by decide +kernel
theorem dX6_passSign_5 : decode cX6_passSign 5 = .ok (.getfield 15, 3) := by decide +kernel
theorem dX6_passSign_8 : decode cX6_passSign 8 = .ok (.invokevirtual 35, 3) := by decide +kernel
theorem dX6_passSign_11 : decode cX6_passSign 11 = .ok (.iload_n 1, 1) := by decide +kernel
theorem dX6_passSign_12 : decode cX6_passSign 12 = .ok (.if_icmp .eq 5, 3) := by decide +kernel
theorem dX6_passSign_15 : decode cX6_passSign 15 = .ok (.iconst 0, 1) := by decide +kernel
theorem dX6_passSign_16 : decode cX6_passSign 16 = .ok (.ireturn, 1) := by decide +kernel
theorem dX6_passSign_17 : decode cX6_passSign 17 = .ok (.aload_n 0, 1) := by decide +kernel
theorem dX6_passSign_18 : decode cX6_passSign 18 = .ok (.dup, 1) := by decide +kernel
theorem dX6_passSign_19 : decode cX6_passSign 19 = .ok (.getfield 15, 3) := by decide +kernel
theorem dX6_passSign_22 : decode cX6_passSign 22 = .ok (.iconst 1, 1) := by decide +kernel
theorem dX6_passSign_23 : decode cX6_passSign 23 = .ok (.iadd, 1) := by decide +kernel
theorem dX6_passSign_24 : decode cX6_passSign 24 = .ok (.putfield 15, 3) := by decide +kernel
theorem dX6_passSign_27 : decode cX6_passSign 27 = .ok (.iconst 1, 1) := by decide +kernel
theorem dX6_passSign_28 : decode cX6_passSign 28 = .ok (.ireturn, 1) := by decide +kernel
theorem dX7_init_0 : decode cX7_init 0 = .ok (.aload_n 0, 1) := by decide +kernel
theorem dX7_init_1 : decode cX7_init 1 = .ok (.invokespecial 3, 3) := by decide +kernel
theorem dX7_init_4 : decode cX7_init 4 = .ok (.aload_n 0, 1) := by decide +kernel
theorem dX7_init_5 : decode cX7_init 5 = .ok (.iconst 4, 1) := by decide +kernel
theorem dX7_init_6 : decode cX7_init 6 = .ok (.newarray .int, 2) := by decide +kernel
theorem dX7_init_8 : decode cX7_init 8 = .ok (.dup, 1) := by decide +kernel
theorem dX7_init_9 : decode cX7_init 9 = .ok (.iconst 0, 1) := by decide +kernel
theorem dX7_init_10 : decode cX7_init 10 = .ok (.iconst 4, 1) := by decide +kernel
theorem dX7_init_11 : decode cX7_init 11 = .ok (.iastore, 1) := by decide +kernel
theorem dX7_init_12 : decode cX7_init 12 = .ok (.dup, 1) := by decide +kernel
theorem dX7_init_13 : decode cX7_init 13 = .ok (.iconst 1, 1) := by decide +kernel
theorem dX7_init_14 : decode cX7_init 14 = .ok (.iconst 2, 1) := by decide +kernel
theorem dX7_init_15 : decode cX7_init 15 = .ok (.iastore, 1) := by decide +kernel
theorem dX7_init_16 : decode cX7_init 16 = .ok (.dup, 1) := by decide +kernel
theorem dX7_init_17 : decode cX7_init 17 = .ok (.iconst 2, 1) := by decide +kernel
theorem dX7_init_18 : decode cX7_init 18 = .ok (.iconst 2, 1) := by decide +kernel
theorem dX7_init_19 : decode cX7_init 19 = .ok (.iastore, 1) := by decide +kernel
theorem dX7_init_20 : decode cX7_init 20 = .ok (.dup, 1) := by decide +kernel
theorem dX7_init_21 : decode cX7_init 21 = .ok (.iconst 3, 1) := by decide +kernel
theorem dX7_init_22 : decode cX7_init 22 = .ok (.bipush 20, 2) := by decide +kernel
theorem dX7_init_24 : decode cX7_init 24 = .ok (.iastore, 1) := by decide +kernel
theorem dX7_init_25 : decode cX7_init 25 = .ok (.putfield 9, 3) := by decide +kernel
theorem dX7_init_28 : decode cX7_init 28 = .ok (.aload_n 0, 1) := by decide +kernel
theorem dX7_init_29 : decode cX7_init 29 = .ok (.new 15, 3) := by decide +kernel
theorem dX7_init_32 : decode cX7_init 32 = .ok (.dup, 1) := by decide +kernel
theorem dX7_init_33 : decode cX7_init 33 = .ok (.invokespecial 17, 3) := by decide +kernel
theorem dX7_init_36 : decode cX7_init 36 = .ok (.putfield 18, 3) := by decide +kernel
theorem dX7_init_39 : decode cX7_init 39 = .ok (.aload_n 0, 1) := by decide +kernel
theorem dX7_init_40 : decode cX7_init 40 = .ok (.new 22, 3) := by decide +kernel
theorem dX7_init_43 : decode cX7_init 43 = .ok (.dup, 1) := by decide +kernel
theorem dX7_init_44 : decode cX7_init 44 = .ok (.invokespecial 24, 3) := by decide +kernel
theorem dX7_init_47 : decode cX7_init 47 = .ok (.putfield 25, 3) := by decide +kernel
theorem dX7_init_50 : decode cX7_init 50 = .ok (.return_, 1) := by decide +kernel
theorem dX7_setting_0 : decode cX7_setting 0 = .ok (.iload_n 1, 1) := by decide +kernel
theorem dX7_setting_1 : decode cX7_setting 1 = .ok (.iconst 0, 1) := by decide +kernel
theorem dX7_setting_2 : decode cX7_setting 2 = .ok (.iconst 3, 1) := by decide +kernel
theorem dX7_setting_3 : decode cX7_setting 3 = .ok (.invokestatic 29, 3) := by decide +kernel
theorem dX7_setting_6 : decode cX7_setting 6 = .ok (.ifCond .eq 12, 3) := by decide +kernel
theorem dX7_setting_9 : decode cX7_setting 9 = .ok (.aload_n 0, 1) := by decide +kernel
theorem dX7_setting_10 : decode cX7_setting 10 = .ok (.getfield 9, 3) := by decide +kernel
theorem dX7_setting_13 : decode cX7_setting 13 = .ok (.iload_n 1, 1) := by decide +kernel
theorem dX7_setting_14 : decode cX7_setting 14 = .ok (.iaload, 1) := by decide +kernel
theorem dX7_setting_15 : decode cX7_setting 15 = .ok (.goto 4, 3) := by decide +kernel
theorem dX7_setting_18 : decode cX7_setting 18 = .ok (.iconst 0, 1) := by decide +kernel
theorem dX7_setting_19 : decode cX7_setting 19 = .ok (.ireturn, 1) := by decide +kernel
theorem dX7_change_0 : decode cX7_change 0 = .ok (.iload_n 1, 1) := by decide +kernel
theorem dX7_change_1 : decode cX7_change 1 = .ok (.iconst 0, 1) := by decide +kernel
theorem dX7_change_2 : decode cX7_change 2 = .ok (.iconst 3, 1) := by decide +kernel
theorem dX7_change_3 : decode cX7_change 3 = .ok (.invokestatic 29, 3) := by decide +kernel
theorem dX7_change_6 : decode cX7_change 6 = .ok (.ifCond .eq 11, 3) := by decide +kernel
theorem dX7_change_9 : decode cX7_change 9 = .ok (.iload_n 1, 1) := by decide +kernel
theorem dX7_change_10 : decode cX7_change 10 = .ok (.iload_n 2, 1) := by decide +kernel
theorem dX7_change_11 : decode cX7_change 11 = .ok (.invokestatic 33, 3) := by decide +kernel
theorem dX7_change_14 : decode cX7_change 14 = .ok (.ifCond .ne 6, 3) := by decide +kernel
theorem dX7_change_17 : decode cX7_change 17 = .ok (.bipush (-2), 2) := by decide +kernel
theorem dX7_change_19 : decode cX7_change 19 = .ok (.ireturn, 1) := by decide +kernel
theorem dX7_change_20 : decode cX7_change 20 = .ok (.aload_n 0, 1) := by decide +kernel
theorem dX7_change_21 : decode cX7_change 21 = .ok (.getfield 9, 3) := by decide +kernel
theorem dX7_change_24 : decode cX7_change 24 = .ok (.iload_n 1, 1) := by decide +kernel
theorem dX7_change_25 : decode cX7_change 25 = .ok (.iaload, 1) := by decide +kernel
theorem dX7_change_26 : decode cX7_change 26 = .ok (.istore_n 3, 1) := by decide +kernel
theorem dX7_change_27 : decode cX7_change 27 = .ok (.aload_n 0, 1) := by decide +kernel
theorem dX7_change_28 : decode cX7_change 28 = .ok (.getfield 9, 3) := by decide +kernel
theorem dX7_change_31 : decode cX7_change 31 = .ok (.iload_n 1, 1) := by decide +kernel
theorem dX7_change_32 : decode cX7_change 32 = .ok (.iload_n 2, 1) := by decide +kernel
theorem dX7_change_33 : decode cX7_change 33 = .ok (.iastore, 1) := by decide +kernel
theorem dX7_change_34 : decode cX7_change 34 = .ok (.iload_n 3, 1) := by decide +kernel
theorem dX7_change_35 : decode cX7_change 35 = .ok (.ireturn, 1) := by decide +kernel
theorem dX7_isInRange_0 : decode cX7_isInRange 0 = .ok (.iload_n 0, 1) := by decide +kernel
theorem dX7_isInRange_1 : decode cX7_isInRange 1 = .ok (.tableswitch 63 0 3 #[31, 39, 47, 55], 31) := by decide +kernel
theorem dX7_isInRange_32 : decode cX7_isInRange 32 = .ok (.iload_n 1, 1) := by decide +kernel
theorem dX7_isInRange_33 : decode cX7_isInRange 33 = .ok (.iconst 1, 1) := by decide +kernel
theorem dX7_isInRange_34 : decode cX7_isInRange 34 = .ok (.bipush 10, 2) := by decide +kernel
theorem dX7_isInRange_36 : decode cX7_isInRange 36 = .ok (.invokestatic 29, 3) := by decide +kernel
theorem dX7_isInRange_39 : decode cX7_isInRange 39 = .ok (.ireturn, 1) := by decide +kernel
theorem dX7_isInRange_40 : decode cX7_isInRange 40 = .ok (.iload_n 1, 1) := by decide +kernel
theorem dX7_isInRange_41 : decode cX7_isInRange 41 = .ok (.iconst 0, 1) := by decide +kernel
theorem dX7_isInRange_42 : decode cX7_isInRange 42 = .ok (.bipush 6, 2) := by decide +kernel
theorem dX7_isInRange_44 : decode cX7_isInRange 44 = .ok (.invokestatic 29, 3) := by decide +kernel
theorem dX7_isInRange_47 : decode cX7_isInRange 47 = .ok (.ireturn, 1) := by decide +kernel
theorem dX7_isInRange_48 : decode cX7_isInRange 48 = .ok (.iload_n 1, 1) := by decide +kernel
theorem dX7_isInRange_49 : decode cX7_isInRange 49 = .ok (.iconst 0, 1) := by decide +kernel
theorem dX7_isInRange_50 : decode cX7_isInRange 50 = .ok (.bipush 6, 2) := by decide +kernel
theorem dX7_isInRange_52 : decode cX7_isInRange 52 = .ok (.invokestatic 29, 3) := by decide +kernel
theorem dX7_isInRange_55 : decode cX7_isInRange 55 = .ok (.ireturn, 1) := by decide +kernel
theorem dX7_isInRange_56 : decode cX7_isInRange 56 = .ok (.iload_n 1, 1) := by decide +kernel
theorem dX7_isInRange_57 : decode cX7_isInRange 57 = .ok (.iconst 0, 1) := by decide +kernel
theorem dX7_isInRange_58 : decode cX7_isInRange 58 = .ok (.bipush 100, 2) := by decide +kernel
theorem dX7_isInRange_60 : decode cX7_isInRange 60 = .ok (.invokestatic 29, 3) := by decide +kernel
theorem dX7_isInRange_63 : decode cX7_isInRange 63 = .ok (.ireturn, 1) := by decide +kernel
theorem dX7_isInRange_64 : decode cX7_isInRange 64 = .ok (.iconst 0, 1) := by decide +kernel
theorem dX7_isInRange_65 : decode cX7_isInRange 65 = .ok (.ireturn, 1) := by decide +kernel
theorem dX7_addRow_0 : decode cX7_addRow 0 = .ok (.iload_n 1, 1) := by decide +kernel
theorem dX7_addRow_1 : decode cX7_addRow 1 = .ok (.invokestatic 37, 3) := by decide +kernel
theorem dX7_addRow_4 : decode cX7_addRow 4 = .ok (.ifCond .eq 10, 3) := by decide +kernel
theorem dX7_addRow_7 : decode cX7_addRow 7 = .ok (.iload_n 2, 1) := by decide +kernel
theorem dX7_addRow_8 : decode cX7_addRow 8 = .ok (.invokestatic 37, 3) := by decide +kernel
theorem dX7_addRow_11 : decode cX7_addRow 11 = .ok (.ifCond .ne 6, 3) := by decide +kernel
theorem dX7_addRow_14 : decode cX7_addRow 14 = .ok (.bipush (-2), 2) := by decide +kernel
theorem dX7_addRow_16 : decode cX7_addRow 16 = .ok (.ireturn, 1) := by decide +kernel
theorem dX7_addRow_17 : decode cX7_addRow 17 = .ok (.aload_n 0, 1) := by decide +kernel
theorem dX7_addRow_18 : decode cX7_addRow 18 = .ok (.getfield 18, 3) := by decide +kernel
theorem dX7_addRow_21 : decode cX7_addRow 21 = .ok (.invokevirtual 41, 3) := by decide +kernel
theorem dX7_addRow_24 : decode cX7_addRow 24 = .ok (.ifCond .eq 6, 3) := by decide +kernel
theorem dX7_addRow_27 : decode cX7_addRow 27 = .ok (.bipush (-4), 2) := by decide +kernel
theorem dX7_addRow_29 : decode cX7_addRow 29 = .ok (.ireturn, 1) := by decide +kernel
theorem dX7_addRow_30 : decode cX7_addRow 30 = .ok (.aload_n 0, 1) := by decide +kernel
theorem dX7_addRow_31 : decode cX7_addRow 31 = .ok (.getfield 18, 3) := by decide +kernel
theorem dX7_addRow_34 : decode cX7_addRow 34 = .ok (.iload_n 1, 1) := by decide +kernel
theorem dX7_addRow_35 : decode cX7_addRow 35 = .ok (.iload_n 2, 1) := by decide +kernel
theorem dX7_addRow_36 : decode cX7_addRow 36 = .ok (.invokevirtual 45, 3) := by decide +kernel
theorem dX7_addRow_39 : decode cX7_addRow 39 = .ok (.aload_n 0, 1) := by decide +kernel
theorem dX7_addRow_40 : decode cX7_addRow 40 = .ok (.getfield 25, 3) := by decide +kernel
theorem dX7_addRow_43 : decode cX7_addRow 43 = .ok (.invokevirtual 49, 3) := by decide +kernel
theorem dX7_addRow_46 : decode cX7_addRow 46 = .ok (.aload_n 0, 1) := by decide +kernel
theorem dX7_addRow_47 : decode cX7_addRow 47 = .ok (.getfield 18, 3) := by decide +kernel
theorem dX7_addRow_50 : decode cX7_addRow 50 = .ok (.getfield 52, 3) := by decide +kernel
theorem dX7_addRow_53 : decode cX7_addRow 53 = .ok (.iconst 1, 1) := by decide +kernel
theorem dX7_addRow_54 : decode cX7_addRow 54 = .ok (.isub, 1) := by decide +kernel
theorem dX7_addRow_55 : decode cX7_addRow 55 = .ok (.ireturn, 1) := by decide +kernel
theorem dX7_addRows_0 : decode cX7_addRows 0 = .ok (.bipush (-2), 2) := by decide +kernel
theorem dX7_addRows_2 : decode cX7_addRows 2 = .ok (.istore 4, 2) := by decide +kernel
theorem dX7_addRows_4 : decode cX7_addRows 4 = .ok (.iconst 0, 1) := by decide +kernel
theorem dX7_addRows_5 : decode cX7_addRows 5 = .ok (.istore 5, 2) := by decide +kernel
theorem dX7_addRows_7 : decode cX7_addRows 7 = .ok (.iload 5, 2) := by decide +kernel
theorem dX7_addRows_9 : decode cX7_addRows 9 = .ok (.iload_n 3, 1) := by decide +kernel
theorem dX7_addRows_10 : decode cX7_addRows 10 = .ok (.if_icmp .ge 17, 3) := by decide +kernel
theorem dX7_addRows_13 : decode cX7_addRows 13 = .ok (.aload_n 0, 1) := by decide +kernel
theorem dX7_addRows_14 : decode cX7_addRows 14 = .ok (.iload_n 1, 1) := by decide +kernel
theorem dX7_addRows_15 : decode cX7_addRows 15 = .ok (.iload_n 2, 1) := by decide +kernel
theorem dX7_addRows_16 : decode cX7_addRows 16 = .ok (.invokevirtual 56, 3) := by decide +kernel
theorem dX7_addRows_19 : decode cX7_addRows 19 = .ok (.istore 4, 2) := by decide +kernel
theorem dX7_addRows_21 : decode cX7_addRows 21 = .ok (.iinc 5 1, 3) := by decide +kernel
theorem dX7_addRows_24 : decode cX7_addRows 24 = .ok (.goto (-17), 3) := by decide +kernel
theorem dX7_addRows_27 : decode cX7_addRows 27 = .ok (.iload 4, 2) := by decide +kernel
theorem dX7_addRows_29 : decode cX7_addRows 29 = .ok (.ireturn, 1) := by decide +kernel
theorem dX7_dropRow_0 : decode cX7_dropRow 0 = .ok (.aload_n 0, 1) := by decide +kernel
theorem dX7_dropRow_1 : decode cX7_dropRow 1 = .ok (.getfield 18, 3) := by decide +kernel
theorem dX7_dropRow_4 : decode cX7_dropRow 4 = .ok (.iload_n 1, 1) := by decide +kernel
theorem dX7_dropRow_5 : decode cX7_dropRow 5 = .ok (.invokevirtual 60, 3) := by decide +kernel
theorem dX7_dropRow_8 : decode cX7_dropRow 8 = .ok (.ifCond .ne 5, 3) := by decide +kernel
theorem dX7_dropRow_11 : decode cX7_dropRow 11 = .ok (.iconst (-1), 1) := by decide +kernel
theorem dX7_dropRow_12 : decode cX7_dropRow 12 = .ok (.ireturn, 1) := by decide +kernel
theorem dX7_dropRow_13 : decode cX7_dropRow 13 = .ok (.aload_n 0, 1) := by decide +kernel
theorem dX7_dropRow_14 : decode cX7_dropRow 14 = .ok (.getfield 18, 3) := by decide +kernel
theorem dX7_dropRow_17 : decode cX7_dropRow 17 = .ok (.iload_n 1, 1) := by decide +kernel
theorem dX7_dropRow_18 : decode cX7_dropRow 18 = .ok (.invokevirtual 63, 3) := by decide +kernel
theorem dX7_dropRow_21 : decode cX7_dropRow 21 = .ok (.aload_n 0, 1) := by decide +kernel
theorem dX7_dropRow_22 : decode cX7_dropRow 22 = .ok (.getfield 25, 3) := by decide +kernel
theorem dX7_dropRow_25 : decode cX7_dropRow 25 = .ok (.invokevirtual 49, 3) := by decide +kernel
theorem dX7_dropRow_28 : decode cX7_dropRow 28 = .ok (.aload_n 0, 1) := by decide +kernel
theorem dX7_dropRow_29 : decode cX7_dropRow 29 = .ok (.getfield 18, 3) := by decide +kernel
theorem dX7_dropRow_32 : decode cX7_dropRow 32 = .ok (.getfield 52, 3) := by decide +kernel
theorem dX7_dropRow_35 : decode cX7_dropRow 35 = .ok (.ireturn, 1) := by decide +kernel
theorem dX7_makeAnalysis_0 : decode cX7_makeAnalysis 0 = .ok (.aload_n 0, 1) := by decide +kernel
theorem dX7_makeAnalysis_1 : decode cX7_makeAnalysis 1 = .ok (.getfield 18, 3) := by decide +kernel
theorem dX7_makeAnalysis_4 : decode cX7_makeAnalysis 4 = .ok (.getfield 52, 3) := by decide +kernel
theorem dX7_makeAnalysis_7 : decode cX7_makeAnalysis 7 = .ok (.ifCond .ne 6, 3) := by decide +kernel
theorem dX7_makeAnalysis_10 : decode cX7_makeAnalysis 10 = .ok (.bipush (-5), 2) := by decide +kernel
theorem dX7_makeAnalysis_12 : decode cX7_makeAnalysis 12 = .ok (.ireturn, 1) := by decide +kernel
theorem dX7_makeAnalysis_13 : decode cX7_makeAnalysis 13 = .ok (.aload_n 0, 1) := by decide +kernel
theorem dX7_makeAnalysis_14 : decode cX7_makeAnalysis 14 = .ok (.getfield 25, 3) := by decide +kernel
theorem dX7_makeAnalysis_17 : decode cX7_makeAnalysis 17 = .ok (.aload_n 0, 1) := by decide +kernel
theorem dX7_makeAnalysis_18 : decode cX7_makeAnalysis 18 = .ok (.getfield 18, 3) := by decide +kernel
theorem dX7_makeAnalysis_21 : decode cX7_makeAnalysis 21 = .ok (.aload_n 0, 1) := by decide +kernel
theorem dX7_makeAnalysis_22 : decode cX7_makeAnalysis 22 = .ok (.iconst 0, 1) := by decide +kernel
theorem dX7_makeAnalysis_23 : decode cX7_makeAnalysis 23 = .ok (.invokevirtual 67, 3) := by decide +kernel
theorem dX7_makeAnalysis_26 : decode cX7_makeAnalysis 26 = .ok (.aload_n 0, 1) := by decide +kernel
theorem dX7_makeAnalysis_27 : decode cX7_makeAnalysis 27 = .ok (.iconst 1, 1) := by decide +kernel
theorem dX7_makeAnalysis_28 : decode cX7_makeAnalysis 28 = .ok (.invokevirtual 67, 3) := by decide +kernel
theorem dX7_makeAnalysis_31 : decode cX7_makeAnalysis 31 = .ok (.aload_n 0, 1) := by decide +kernel
theorem dX7_makeAnalysis_32 : decode cX7_makeAnalysis 32 = .ok (.iconst 2, 1) := by decide +kernel
theorem dX7_makeAnalysis_33 : decode cX7_makeAnalysis 33 = .ok (.invokevirtual 67, 3) := by decide +kernel
theorem dX7_makeAnalysis_36 : decode cX7_makeAnalysis 36 = .ok (.invokevirtual 71, 3) := by decide +kernel
theorem dX7_makeAnalysis_39 : decode cX7_makeAnalysis 39 = .ok (.aload_n 0, 1) := by decide +kernel
theorem dX7_makeAnalysis_40 : decode cX7_makeAnalysis 40 = .ok (.getfield 25, 3) := by decide +kernel
theorem dX7_makeAnalysis_43 : decode cX7_makeAnalysis 43 = .ok (.getfield 75, 3) := by decide +kernel
theorem dX7_makeAnalysis_46 : decode cX7_makeAnalysis 46 = .ok (.ireturn, 1) := by decide +kernel
theorem dX7_scale_0 : decode cX7_scale 0 = .ok (.aload_n 0, 1) := by decide +kernel
theorem dX7_scale_1 : decode cX7_scale 1 = .ok (.getfield 25, 3) := by decide +kernel
theorem dX7_scale_4 : decode cX7_scale 4 = .ok (.getfield 75, 3) := by decide +kernel
theorem dX7_scale_7 : decode cX7_scale 7 = .ok (.ifCond .le 23, 3) := by decide +kernel
theorem dX7_scale_10 : decode cX7_scale 10 = .ok (.iload_n 1, 1) := by decide +kernel
theorem dX7_scale_11 : decode cX7_scale 11 = .ok (.aload_n 0, 1) := by decide +kernel
theorem dX7_scale_12 : decode cX7_scale 12 = .ok (.getfield 18, 3) := by decide +kernel
theorem dX7_scale_15 : decode cX7_scale 15 = .ok (.getfield 52, 3) := by decide +kernel
theorem dX7_scale_18 : decode cX7_scale 18 = .ok (.imul, 1) := by decide +kernel
theorem dX7_scale_19 : decode cX7_scale 19 = .ok (.aload_n 0, 1) := by decide +kernel
theorem dX7_scale_20 : decode cX7_scale 20 = .ok (.getfield 25, 3) := by decide +kernel
theorem dX7_scale_23 : decode cX7_scale 23 = .ok (.getfield 75, 3) := by decide +kernel
theorem dX7_scale_26 : decode cX7_scale 26 = .ok (.idiv, 1) := by decide +kernel
theorem dX7_scale_27 : decode cX7_scale 27 = .ok (.goto 4, 3) := by decide +kernel
theorem dX7_scale_30 : decode cX7_scale 30 = .ok (.iconst 0, 1) := by decide +kernel
theorem dX7_scale_31 : decode cX7_scale 31 = .ok (.ireturn, 1) := by decide +kernel
theorem dX7_copyFrom_0 : decode cX7_copyFrom 0 = .ok (.aload_n 1, 1) := by decide +kernel
theorem dX7_copyFrom_1 : decode cX7_copyFrom 1 = .ok (.getfield 9, 3) := by decide +kernel
theorem dX7_copyFrom_4 : decode cX7_copyFrom 4 = .ok (.aload_n 0, 1) := by decide +kernel
theorem dX7_copyFrom_5 : decode cX7_copyFrom 5 = .ok (.getfield 9, 3) := by decide +kernel
theorem dX7_copyFrom_8 : decode cX7_copyFrom 8 = .ok (.invokestatic 78, 3) := by decide +kernel
theorem dX7_copyFrom_11 : decode cX7_copyFrom 11 = .ok (.aload_n 0, 1) := by decide +kernel
theorem dX7_copyFrom_12 : decode cX7_copyFrom 12 = .ok (.getfield 18, 3) := by decide +kernel
theorem dX7_copyFrom_15 : decode cX7_copyFrom 15 = .ok (.aload_n 1, 1) := by decide +kernel
theorem dX7_copyFrom_16 : decode cX7_copyFrom 16 = .ok (.getfield 18, 3) := by decide +kernel
theorem dX7_copyFrom_19 : decode cX7_copyFrom 19 = .ok (.invokevirtual 82, 3) := by decide +kernel
theorem dX7_copyFrom_22 : decode cX7_copyFrom 22 = .ok (.aload_n 0, 1) := by decide +kernel
theorem dX7_copyFrom_23 : decode cX7_copyFrom 23 = .ok (.getfield 25, 3) := by decide +kernel
theorem dX7_copyFrom_26 : decode cX7_copyFrom 26 = .ok (.aload_n 1, 1) := by decide +kernel
theorem dX7_copyFrom_27 : decode cX7_copyFrom 27 = .ok (.getfield 25, 3) := by decide +kernel
theorem dX7_copyFrom_30 : decode cX7_copyFrom 30 = .ok (.invokevirtual 86, 3) := by decide +kernel
theorem dX7_copyFrom_33 : decode cX7_copyFrom 33 = .ok (.return_, 1) := by decide +kernel
theorem dX8_init_0 : decode cX8_init 0 = .ok (.aload_n 0, 1) := by decide +kernel
theorem dX8_init_1 : decode cX8_init 1 = .ok (.invokespecial 3, 3) := by decide +kernel
theorem dX8_init_4 : decode cX8_init 4 = .ok (.aload_n 0, 1) := by decide +kernel
theorem dX8_init_5 : decode cX8_init 5 = .ok (.bipush 60, 2) := by decide +kernel
theorem dX8_init_7 : decode cX8_init 7 = .ok (.newarray .int, 2) := by decide +kernel
theorem dX8_init_9 : decode cX8_init 9 = .ok (.putfield 9, 3) := by decide +kernel
theorem dX8_init_12 : decode cX8_init 12 = .ok (.aload_n 0, 1) := by decide +kernel
theorem dX8_init_13 : decode cX8_init 13 = .ok (.bipush 60, 2) := by decide +kernel
theorem dX8_init_15 : decode cX8_init 15 = .ok (.newarray .int, 2) := by decide +kernel
theorem dX8_init_17 : decode cX8_init 17 = .ok (.putfield 15, 3) := by decide +kernel
theorem dX8_init_20 : decode cX8_init 20 = .ok (.return_, 1) := by decide +kernel
theorem dX8_isFull_0 : decode cX8_isFull 0 = .ok (.aload_n 0, 1) := by decide +kernel
theorem dX8_isFull_1 : decode cX8_isFull 1 = .ok (.getfield 18, 3) := by decide +kernel
theorem dX8_isFull_4 : decode cX8_isFull 4 = .ok (.bipush 60, 2) := by decide +kernel
theorem dX8_isFull_6 : decode cX8_isFull 6 = .ok (.if_icmp .lt 7, 3) := by decide +kernel
theorem dX8_isFull_9 : decode cX8_isFull 9 = .ok (.iconst 1, 1) := by decide +kernel
theorem dX8_isFull_10 : decode cX8_isFull 10 = .ok (.goto 4, 3) := by decide +kernel
theorem dX8_isFull_13 : decode cX8_isFull 13 = .ok (.iconst 0, 1) := by decide +kernel
theorem dX8_isFull_14 : decode cX8_isFull 14 = .ok (.ireturn, 1) := by decide +kernel
theorem dX8_hasRow_0 : decode cX8_hasRow 0 = .ok (.iload_n 1, 1) := by decide +kernel
theorem dX8_hasRow_1 : decode cX8_hasRow 1 = .ok (.ifCond .lt 15, 3) := by decide +kernel
theorem dX8_hasRow_4 : decode cX8_hasRow 4 = .ok (.iload_n 1, 1) := by decide +kernel
theorem dX8_hasRow_5 : decode cX8_hasRow 5 = .ok (.aload_n 0, 1) := by decide +kernel
theorem dX8_hasRow_6 : decode cX8_hasRow 6 = .ok (.getfield 18, 3) := by decide +kernel
theorem dX8_hasRow_9 : decode cX8_hasRow 9 = .ok (.if_icmp .ge 7, 3) := by decide +kernel
theorem dX8_hasRow_12 : decode cX8_hasRow 12 = .ok (.iconst 1, 1) := by decide +kernel
theorem dX8_hasRow_13 : decode cX8_hasRow 13 = .ok (.goto 4, 3) := by decide +kernel
theorem dX8_hasRow_16 : decode cX8_hasRow 16 = .ok (.iconst 0, 1) := by decide +kernel
theorem dX8_hasRow_17 : decode cX8_hasRow 17 = .ok (.ireturn, 1) := by decide +kernel
theorem dX8_value_0 : decode cX8_value 0 = .ok (.iload_n 1, 1) := by decide +kernel
theorem dX8_value_1 : decode cX8_value 1 = .ok (.ifCond .lt 11, 3) := by decide +kernel
theorem dX8_value_4 : decode cX8_value 4 = .ok (.iload_n 1, 1) := by decide +kernel
theorem dX8_value_5 : decode cX8_value 5 = .ok (.aload_n 0, 1) := by decide +kernel
theorem dX8_value_6 : decode cX8_value 6 = .ok (.getfield 18, 3) := by decide +kernel
theorem dX8_value_9 : decode cX8_value 9 = .ok (.if_icmp .lt 5, 3) := by decide +kernel
theorem dX8_value_12 : decode cX8_value 12 = .ok (.iconst 0, 1) := by decide +kernel
theorem dX8_value_13 : decode cX8_value 13 = .ok (.ireturn, 1) := by decide +kernel
theorem dX8_value_14 : decode cX8_value 14 = .ok (.iload_n 2, 1) := by decide +kernel
theorem dX8_value_15 : decode cX8_value 15 = .ok (.ifCond .ne 12, 3) := by decide +kernel
theorem dX8_value_18 : decode cX8_value 18 = .ok (.aload_n 0, 1) := by decide +kernel
theorem dX8_value_19 : decode cX8_value 19 = .ok (.getfield 9, 3) := by decide +kernel
theorem dX8_value_22 : decode cX8_value 22 = .ok (.iload_n 1, 1) := by decide +kernel
theorem dX8_value_23 : decode cX8_value 23 = .ok (.iaload, 1) := by decide +kernel
theorem dX8_value_24 : decode cX8_value 24 = .ok (.goto 9, 3) := by decide +kernel
theorem dX8_value_27 : decode cX8_value 27 = .ok (.aload_n 0, 1) := by decide +kernel
theorem dX8_value_28 : decode cX8_value 28 = .ok (.getfield 15, 3) := by decide +kernel
theorem dX8_value_31 : decode cX8_value 31 = .ok (.iload_n 1, 1) := by decide +kernel
theorem dX8_value_32 : decode cX8_value 32 = .ok (.iaload, 1) := by decide +kernel
theorem dX8_value_33 : decode cX8_value 33 = .ok (.ireturn, 1) := by decide +kernel
theorem dX8_add_0 : decode cX8_add 0 = .ok (.aload_n 0, 1) := by decide +kernel
theorem dX8_add_1 : decode cX8_add 1 = .ok (.getfield 18, 3) := by decide +kernel
theorem dX8_add_4 : decode cX8_add 4 = .ok (.ifCond .lt 10, 3) := by decide +kernel
theorem dX8_add_7 : decode cX8_add 7 = .ok (.aload_n 0, 1) := by decide +kernel
theorem dX8_add_8 : decode cX8_add 8 = .ok (.invokevirtual 22, 3) := by decide +kernel
theorem dX8_add_11 : decode cX8_add 11 = .ok (.ifCond .eq 4, 3) := by decide +kernel
theorem dX8_add_14 : decode cX8_add 14 = .ok (.return_, 1) := by decide +kernel
theorem dX8_add_15 : decode cX8_add 15 = .ok (.aload_n 0, 1) := by decide +kernel
theorem dX8_add_16 : decode cX8_add 16 = .ok (.getfield 9, 3) := by decide +kernel
theorem dX8_add_19 : decode cX8_add 19 = .ok (.aload_n 0, 1) := by decide +kernel
theorem dX8_add_20 : decode cX8_add 20 = .ok (.getfield 18, 3) := by decide +kernel
theorem dX8_add_23 : decode cX8_add 23 = .ok (.iload_n 1, 1) := by decide +kernel
theorem dX8_add_24 : decode cX8_add 24 = .ok (.iastore, 1) := by decide +kernel
theorem dX8_add_25 : decode cX8_add 25 = .ok (.aload_n 0, 1) := by decide +kernel
theorem dX8_add_26 : decode cX8_add 26 = .ok (.getfield 15, 3) := by decide +kernel
theorem dX8_add_29 : decode cX8_add 29 = .ok (.aload_n 0, 1) := by decide +kernel
theorem dX8_add_30 : decode cX8_add 30 = .ok (.getfield 18, 3) := by decide +kernel
theorem dX8_add_33 : decode cX8_add 33 = .ok (.iload_n 2, 1) := by decide +kernel
theorem dX8_add_34 : decode cX8_add 34 = .ok (.iastore, 1) := by decide +kernel
theorem dX8_add_35 : decode cX8_add 35 = .ok (.aload_n 0, 1) := by decide +kernel
theorem dX8_add_36 : decode cX8_add 36 = .ok (.dup, 1) := by decide +kernel
theorem dX8_add_37 : decode cX8_add 37 = .ok (.getfield 18, 3) := by decide +kernel
theorem dX8_add_40 : decode cX8_add 40 = .ok (.iconst 1, 1) := by decide +kernel
theorem dX8_add_41 : decode cX8_add 41 = .ok (.iadd, 1) := by decide +kernel
theorem dX8_add_42 : decode cX8_add 42 = .ok (.putfield 18, 3) := by decide +kernel
theorem dX8_add_45 : decode cX8_add 45 = .ok (.return_, 1) := by decide +kernel
theorem dX8_drop_0 : decode cX8_drop 0 = .ok (.aload_n 0, 1) := by decide +kernel
theorem dX8_drop_1 : decode cX8_drop 1 = .ok (.iload_n 1, 1) := by decide +kernel
theorem dX8_drop_2 : decode cX8_drop 2 = .ok (.invokevirtual 26, 3) := by decide +kernel
theorem dX8_drop_5 : decode cX8_drop 5 = .ok (.ifCond .ne 4, 3) := by decide +kernel
theorem dX8_drop_8 : decode cX8_drop 8 = .ok (.return_, 1) := by decide +kernel
theorem dX8_drop_9 : decode cX8_drop 9 = .ok (.iload_n 1, 1) := by decide +kernel
theorem dX8_drop_10 : decode cX8_drop 10 = .ok (.istore_n 2, 1) := by decide +kernel
theorem dX8_drop_11 : decode cX8_drop 11 = .ok (.iload_n 2, 1) := by decide +kernel
theorem dX8_drop_12 : decode cX8_drop 12 = .ok (.iconst 1, 1) := by decide +kernel
theorem dX8_drop_13 : decode cX8_drop 13 = .ok (.iadd, 1) := by decide +kernel
theorem dX8_drop_14 : decode cX8_drop 14 = .ok (.aload_n 0, 1) := by decide +kernel
theorem dX8_drop_15 : decode cX8_drop 15 = .ok (.getfield 18, 3) := by decide +kernel
theorem dX8_drop_18 : decode cX8_drop 18 = .ok (.if_icmp .ge 37, 3) := by decide +kernel
theorem dX8_drop_21 : decode cX8_drop 21 = .ok (.aload_n 0, 1) := by decide +kernel
theorem dX8_drop_22 : decode cX8_drop 22 = .ok (.getfield 9, 3) := by decide +kernel
theorem dX8_drop_25 : decode cX8_drop 25 = .ok (.iload_n 2, 1) := by decide +kernel
theorem dX8_drop_26 : decode cX8_drop 26 = .ok (.aload_n 0, 1) := by decide +kernel
theorem dX8_drop_27 : decode cX8_drop 27 = .ok (.getfield 9, 3) := by decide +kernel
theorem dX8_drop_30 : decode cX8_drop 30 = .ok (.iload_n 2, 1) := by decide +kernel
theorem dX8_drop_31 : decode cX8_drop 31 = .ok (.iconst 1, 1) := by decide +kernel
theorem dX8_drop_32 : decode cX8_drop 32 = .ok (.iadd, 1) := by decide +kernel
theorem dX8_drop_33 : decode cX8_drop 33 = .ok (.iaload, 1) := by decide +kernel
theorem dX8_drop_34 : decode cX8_drop 34 = .ok (.iastore, 1) := by decide +kernel
theorem dX8_drop_35 : decode cX8_drop 35 = .ok (.aload_n 0, 1) := by decide +kernel
theorem dX8_drop_36 : decode cX8_drop 36 = .ok (.getfield 15, 3) := by decide +kernel
theorem dX8_drop_39 : decode cX8_drop 39 = .ok (.iload_n 2, 1) := by decide +kernel
theorem dX8_drop_40 : decode cX8_drop 40 = .ok (.aload_n 0, 1) := by decide +kernel
theorem dX8_drop_41 : decode cX8_drop 41 = .ok (.getfield 15, 3) := by decide +kernel
theorem dX8_drop_44 : decode cX8_drop 44 = .ok (.iload_n 2, 1) := by decide +kernel
theorem dX8_drop_45 : decode cX8_drop 45 = .ok (.iconst 1, 1) := by decide +kernel
theorem dX8_drop_46 : decode cX8_drop 46 = .ok (.iadd, 1) := by decide +kernel
theorem dX8_drop_47 : decode cX8_drop 47 = .ok (.iaload, 1) := by decide +kernel
theorem dX8_drop_48 : decode cX8_drop 48 = .ok (.iastore, 1) := by decide +kernel
theorem dX8_drop_49 : decode cX8_drop 49 = .ok (.iinc 2 1, 3) := by decide +kernel
theorem dX8_drop_52 : decode cX8_drop 52 = .ok (.goto (-41), 3) := by decide +kernel
theorem dX8_drop_55 : decode cX8_drop 55 = .ok (.aload_n 0, 1) := by decide +kernel
theorem dX8_drop_56 : decode cX8_drop 56 = .ok (.dup, 1) := by decide +kernel
theorem dX8_drop_57 : decode cX8_drop 57 = .ok (.getfield 18, 3) := by decide +kernel
theorem dX8_drop_60 : decode cX8_drop 60 = .ok (.iconst 1, 1) := by decide +kernel
theorem dX8_drop_61 : decode cX8_drop 61 = .ok (.isub, 1) := by decide +kernel
theorem dX8_drop_62 : decode cX8_drop 62 = .ok (.putfield 18, 3) := by decide +kernel
theorem dX8_drop_65 : decode cX8_drop 65 = .ok (.return_, 1) := by decide +kernel
theorem dX8_rowsInside_0 : decode cX8_rowsInside 0 = .ok (.iload_n 1, 1) := by decide +kernel
theorem dX8_rowsInside_1 : decode cX8_rowsInside 1 = .ok (.ifCond .ne 15, 3) := by decide +kernel
theorem dX8_rowsInside_4 : decode cX8_rowsInside 4 = .ok (.aload_n 0, 1) := by decide +kernel
theorem dX8_rowsInside_5 : decode cX8_rowsInside 5 = .ok (.iload_n 2, 1) := by decide +kernel
theorem dX8_rowsInside_6 : decode cX8_rowsInside 6 = .ok (.iload_n 3, 1) := by decide +kernel
theorem dX8_rowsInside_7 : decode cX8_rowsInside 7 = .ok (.iconst 0, 1) := by decide +kernel
theorem dX8_rowsInside_8 : decode cX8_rowsInside 8 = .ok (.bipush 99, 2) := by decide +kernel
theorem dX8_rowsInside_10 : decode cX8_rowsInside 10 = .ok (.invokevirtual 30, 3) := by decide +kernel
theorem dX8_rowsInside_13 : decode cX8_rowsInside 13 = .ok (.goto 12, 3) := by decide +kernel
theorem dX8_rowsInside_16 : decode cX8_rowsInside 16 = .ok (.aload_n 0, 1) := by decide +kernel
theorem dX8_rowsInside_17 : decode cX8_rowsInside 17 = .ok (.iconst 0, 1) := by decide +kernel
theorem dX8_rowsInside_18 : decode cX8_rowsInside 18 = .ok (.bipush 99, 2) := by decide +kernel
theorem dX8_rowsInside_20 : decode cX8_rowsInside 20 = .ok (.iload_n 2, 1) := by decide +kernel
theorem dX8_rowsInside_21 : decode cX8_rowsInside 21 = .ok (.iload_n 3, 1) := by decide +kernel
theorem dX8_rowsInside_22 : decode cX8_rowsInside 22 = .ok (.invokevirtual 30, 3) := by decide +kernel
theorem dX8_rowsInside_25 : decode cX8_rowsInside 25 = .ok (.ireturn, 1) := by decide +kernel
theorem dX8_rowsInsideBoth_0 : decode cX8_rowsInsideBoth 0 = .ok (.iconst 0, 1) := by decide +kernel
theorem dX8_rowsInsideBoth_1 : decode cX8_rowsInsideBoth 1 = .ok (.istore 5, 2) := by decide +kernel
theorem dX8_rowsInsideBoth_3 : decode cX8_rowsInsideBoth 3 = .ok (.iconst 0, 1) := by decide +kernel
theorem dX8_rowsInsideBoth_4 : decode cX8_rowsInsideBoth 4 = .ok (.istore 6, 2) := by decide +kernel
theorem dX8_rowsInsideBoth_6 : decode cX8_rowsInsideBoth 6 = .ok (.iload 6, 2) := by decide +kernel
theorem dX8_rowsInsideBoth_8 : decode cX8_rowsInsideBoth 8 = .ok (.aload_n 0, 1) := by decide +kernel
theorem dX8_rowsInsideBoth_9 : decode cX8_rowsInsideBoth 9 = .ok (.getfield 18, 3) := by decide +kernel
theorem dX8_rowsInsideBoth_12 : decode cX8_rowsInsideBoth 12 = .ok (.if_icmp .ge 43, 3) := by decide +kernel
theorem dX8_rowsInsideBoth_15 : decode cX8_rowsInsideBoth 15 = .ok (.aload_n 0, 1) := by decide +kernel
theorem dX8_rowsInsideBoth_16 : decode cX8_rowsInsideBoth 16 = .ok (.getfield 9, 3) := by decide +kernel
theorem dX8_rowsInsideBoth_19 : decode cX8_rowsInsideBoth 19 = .ok (.iload 6, 2) := by decide +kernel
theorem dX8_rowsInsideBoth_21 : decode cX8_rowsInsideBoth 21 = .ok (.iaload, 1) := by decide +kernel
theorem dX8_rowsInsideBoth_22 : decode cX8_rowsInsideBoth 22 = .ok (.iload_n 1, 1) := by decide +kernel
theorem dX8_rowsInsideBoth_23 : decode cX8_rowsInsideBoth 23 = .ok (.iload_n 2, 1) := by decide +kernel
theorem dX8_rowsInsideBoth_24 : decode cX8_rowsInsideBoth 24 = .ok (.invokestatic 34, 3) := by decide +kernel
theorem dX8_rowsInsideBoth_27 : decode cX8_rowsInsideBoth 27 = .ok (.ifCond .eq 22, 3) := by decide +kernel
theorem dX8_rowsInsideBoth_30 : decode cX8_rowsInsideBoth 30 = .ok (.aload_n 0, 1) := by decide +kernel
theorem dX8_rowsInsideBoth_31 : decode cX8_rowsInsideBoth 31 = .ok (.getfield 15, 3) := by decide +kernel
theorem dX8_rowsInsideBoth_34 : decode cX8_rowsInsideBoth 34 = .ok (.iload 6, 2) := by decide +kernel
theorem dX8_rowsInsideBoth_36 : decode cX8_rowsInsideBoth 36 = .ok (.iaload, 1) := by decide +kernel
theorem dX8_rowsInsideBoth_37 : decode cX8_rowsInsideBoth 37 = .ok (.iload_n 3, 1) := by decide +kernel
theorem dX8_rowsInsideBoth_38 : decode cX8_rowsInsideBoth 38 = .ok (.iload 4, 2) := by decide +kernel
theorem dX8_rowsInsideBoth_40 : decode cX8_rowsInsideBoth 40 = .ok (.invokestatic 34, 3) := by decide +kernel
theorem dX8_rowsInsideBoth_43 : decode cX8_rowsInsideBoth 43 = .ok (.ifCond .eq 6, 3) := by decide +kernel
theorem dX8_rowsInsideBoth_46 : decode cX8_rowsInsideBoth 46 = .ok (.iinc 5 1, 3) := by decide +kernel
theorem dX8_rowsInsideBoth_49 : decode cX8_rowsInsideBoth 49 = .ok (.iinc 6 1, 3) := by decide +kernel
theorem dX8_rowsInsideBoth_52 : decode cX8_rowsInsideBoth 52 = .ok (.goto (-46), 3) := by decide +kernel
theorem dX8_rowsInsideBoth_55 : decode cX8_rowsInsideBoth 55 = .ok (.iload 5, 2) := by decide +kernel
theorem dX8_rowsInsideBoth_57 : decode cX8_rowsInsideBoth 57 = .ok (.ireturn, 1) := by decide +kernel
theorem dX8_rowsLike_0 : decode cX8_rowsLike 0 = .ok (.iload_n 1, 1) := by decide +kernel
theorem dX8_rowsLike_1 : decode cX8_rowsLike 1 = .ok (.ifCond .lt 11, 3) := by decide +kernel
theorem dX8_rowsLike_4 : decode cX8_rowsLike 4 = .ok (.iload_n 1, 1) := by decide +kernel
theorem dX8_rowsLike_5 : decode cX8_rowsLike 5 = .ok (.aload_n 0, 1) := by decide +kernel
theorem dX8_rowsLike_6 : decode cX8_rowsLike 6 = .ok (.getfield 18, 3) := by decide +kernel
theorem dX8_rowsLike_9 : decode cX8_rowsLike 9 = .ok (.if_icmp .lt 5, 3) := by decide +kernel
theorem dX8_rowsLike_12 : decode cX8_rowsLike 12 = .ok (.iconst 0, 1) := by decide +kernel
theorem dX8_rowsLike_13 : decode cX8_rowsLike 13 = .ok (.ireturn, 1) := by decide +kernel
theorem dX8_rowsLike_14 : decode cX8_rowsLike 14 = .ok (.iconst 0, 1) := by decide +kernel
theorem dX8_rowsLike_15 : decode cX8_rowsLike 15 = .ok (.istore_n 2, 1) := by decide +kernel
theorem dX8_rowsLike_16 : decode cX8_rowsLike 16 = .ok (.iconst 0, 1) := by decide +kernel
theorem dX8_rowsLike_17 : decode cX8_rowsLike 17 = .ok (.istore_n 3, 1) := by decide +kernel
theorem dX8_rowsLike_18 : decode cX8_rowsLike 18 = .ok (.iload_n 3, 1) := by decide +kernel
theorem dX8_rowsLike_19 : decode cX8_rowsLike 19 = .ok (.aload_n 0, 1) := by decide +kernel
theorem dX8_rowsLike_20 : decode cX8_rowsLike 20 = .ok (.getfield 18, 3) := by decide +kernel
theorem dX8_rowsLike_23 : decode cX8_rowsLike 23 = .ok (.if_icmp .ge 42, 3) := by decide +kernel
theorem dX8_rowsLike_26 : decode cX8_rowsLike 26 = .ok (.aload_n 0, 1) := by decide +kernel
theorem dX8_rowsLike_27 : decode cX8_rowsLike 27 = .ok (.getfield 9, 3) := by decide +kernel
theorem dX8_rowsLike_30 : decode cX8_rowsLike 30 = .ok (.iload_n 3, 1) := by decide +kernel
theorem dX8_rowsLike_31 : decode cX8_rowsLike 31 = .ok (.iaload, 1) := by decide +kernel
theorem dX8_rowsLike_32 : decode cX8_rowsLike 32 = .ok (.aload_n 0, 1) := by decide +kernel
theorem dX8_rowsLike_33 : decode cX8_rowsLike 33 = .ok (.getfield 9, 3) := by decide +kernel
theorem dX8_rowsLike_36 : decode cX8_rowsLike 36 = .ok (.iload_n 1, 1) := by decide +kernel
theorem dX8_rowsLike_37 : decode cX8_rowsLike 37 = .ok (.iaload, 1) := by decide +kernel
theorem dX8_rowsLike_38 : decode cX8_rowsLike 38 = .ok (.if_icmp .ne 21, 3) := by decide +kernel
theorem dX8_rowsLike_41 : decode cX8_rowsLike 41 = .ok (.aload_n 0, 1) := by decide +kernel
theorem dX8_rowsLike_42 : decode cX8_rowsLike 42 = .ok (.getfield 15, 3) := by decide +kernel
theorem dX8_rowsLike_45 : decode cX8_rowsLike 45 = .ok (.iload_n 3, 1) := by decide +kernel
theorem dX8_rowsLike_46 : decode cX8_rowsLike 46 = .ok (.iaload, 1) := by decide +kernel
theorem dX8_rowsLike_47 : decode cX8_rowsLike 47 = .ok (.aload_n 0, 1) := by decide +kernel
theorem dX8_rowsLike_48 : decode cX8_rowsLike 48 = .ok (.getfield 15, 3) := by decide +kernel
theorem dX8_rowsLike_51 : decode cX8_rowsLike 51 = .ok (.iload_n 1, 1) := by decide +kernel
theorem dX8_rowsLike_52 : decode cX8_rowsLike 52 = .ok (.iaload, 1) := by decide +kernel
theorem dX8_rowsLike_53 : decode cX8_rowsLike 53 = .ok (.if_icmp .ne 6, 3) := by decide +kernel
theorem dX8_rowsLike_56 : decode cX8_rowsLike 56 = .ok (.iinc 2 1, 3) := by decide +kernel
theorem dX8_rowsLike_59 : decode cX8_rowsLike 59 = .ok (.iinc 3 1, 3) := by decide +kernel
theorem dX8_rowsLike_62 : decode cX8_rowsLike 62 = .ok (.goto (-44), 3) := by decide +kernel
theorem dX8_rowsLike_65 : decode cX8_rowsLike 65 = .ok (.iload_n 2, 1) := by decide +kernel
theorem dX8_rowsLike_66 : decode cX8_rowsLike 66 = .ok (.ireturn, 1) := by decide +kernel
theorem dX8_copyFrom_0 : decode cX8_copyFrom 0 = .ok (.aload_n 1, 1) := by decide +kernel
theorem dX8_copyFrom_1 : decode cX8_copyFrom 1 = .ok (.getfield 9, 3) := by decide +kernel
theorem dX8_copyFrom_4 : decode cX8_copyFrom 4 = .ok (.aload_n 0, 1) := by decide +kernel
theorem dX8_copyFrom_5 : decode cX8_copyFrom 5 = .ok (.getfield 9, 3) := by decide +kernel
theorem dX8_copyFrom_8 : decode cX8_copyFrom 8 = .ok (.invokestatic 38, 3) := by decide +kernel
theorem dX8_copyFrom_11 : decode cX8_copyFrom 11 = .ok (.aload_n 1, 1) := by decide +kernel
theorem dX8_copyFrom_12 : decode cX8_copyFrom 12 = .ok (.getfield 15, 3) := by decide +kernel
theorem dX8_copyFrom_15 : decode cX8_copyFrom 15 = .ok (.aload_n 0, 1) := by decide +kernel
theorem dX8_copyFrom_16 : decode cX8_copyFrom 16 = .ok (.getfield 15, 3) := by decide +kernel
theorem dX8_copyFrom_19 : decode cX8_copyFrom 19 = .ok (.invokestatic 38, 3) := by decide +kernel
theorem dX8_copyFrom_22 : decode cX8_copyFrom 22 = .ok (.aload_n 0, 1) := by decide +kernel
theorem dX8_copyFrom_23 : decode cX8_copyFrom 23 = .ok (.aload_n 1, 1) := by decide +kernel
theorem dX8_copyFrom_24 : decode cX8_copyFrom 24 = .ok (.getfield 18, 3) := by decide +kernel
theorem dX8_copyFrom_27 : decode cX8_copyFrom 27 = .ok (.putfield 18, 3) := by decide +kernel
theorem dX8_copyFrom_30 : decode cX8_copyFrom 30 = .ok (.return_, 1) := by decide +kernel
theorem dX9_init_0 : decode cX9_init 0 = .ok (.aload_n 0, 1) := by decide +kernel
theorem dX9_init_1 : decode cX9_init 1 = .ok (.invokespecial 3, 3) := by decide +kernel
theorem dX9_init_4 : decode cX9_init 4 = .ok (.aload_n 0, 1) := by decide +kernel
theorem dX9_init_5 : decode cX9_init 5 = .ok (.new 9, 3) := by decide +kernel
theorem dX9_init_8 : decode cX9_init 8 = .ok (.dup, 1) := by decide +kernel
theorem dX9_init_9 : decode cX9_init 9 = .ok (.invokespecial 11, 3) := by decide +kernel
theorem dX9_init_12 : decode cX9_init 12 = .ok (.putfield 12, 3) := by decide +kernel
theorem dX9_init_15 : decode cX9_init 15 = .ok (.aload_n 0, 1) := by decide +kernel
theorem dX9_init_16 : decode cX9_init 16 = .ok (.iconst 2, 1) := by decide +kernel
theorem dX9_init_17 : decode cX9_init 17 = .ok (.anewarray 9, 3) := by decide +kernel
theorem dX9_init_20 : decode cX9_init 20 = .ok (.putfield 16, 3) := by decide +kernel
theorem dX9_init_23 : decode cX9_init 23 = .ok (.aload_n 0, 1) := by decide +kernel
theorem dX9_init_24 : decode cX9_init 24 = .ok (.new 20, 3) := by decide +kernel
theorem dX9_init_27 : decode cX9_init 27 = .ok (.dup, 1) := by decide +kernel
theorem dX9_init_28 : decode cX9_init 28 = .ok (.invokespecial 22, 3) := by decide +kernel
theorem dX9_init_31 : decode cX9_init 31 = .ok (.putfield 23, 3) := by decide +kernel
theorem dX9_init_34 : decode cX9_init 34 = .ok (.aload_n 0, 1) := by decide +kernel
theorem dX9_init_35 : decode cX9_init 35 = .ok (.new 27, 3) := by decide +kernel
theorem dX9_init_38 : decode cX9_init 38 = .ok (.dup, 1) := by decide +kernel
theorem dX9_init_39 : decode cX9_init 39 = .ok (.invokespecial 29, 3) := by decide +kernel
theorem dX9_init_42 : decode cX9_init 42 = .ok (.putfield 30, 3) := by decide +kernel
theorem dX9_init_45 : decode cX9_init 45 = .ok (.aload_n 0, 1) := by decide +kernel
theorem dX9_init_46 : decode cX9_init 46 = .ok (.new 34, 3) := by decide +kernel
theorem dX9_init_49 : decode cX9_init 49 = .ok (.dup, 1) := by decide +kernel
theorem dX9_init_50 : decode cX9_init 50 = .ok (.aload_n 0, 1) := by decide +kernel
theorem dX9_init_51 : decode cX9_init 51 = .ok (.getfield 30, 3) := by decide +kernel
theorem dX9_init_54 : decode cX9_init 54 = .ok (.invokespecial 36, 3) := by decide +kernel
theorem dX9_init_57 : decode cX9_init 57 = .ok (.putfield 39, 3) := by decide +kernel
theorem dX9_init_60 : decode cX9_init 60 = .ok (.aload_n 0, 1) := by decide +kernel
theorem dX9_init_61 : decode cX9_init 61 = .ok (.new 43, 3) := by decide +kernel
theorem dX9_init_64 : decode cX9_init 64 = .ok (.dup, 1) := by decide +kernel
theorem dX9_init_65 : decode cX9_init 65 = .ok (.invokespecial 45, 3) := by decide +kernel
theorem dX9_init_68 : decode cX9_init 68 = .ok (.putfield 46, 3) := by decide +kernel
theorem dX9_init_71 : decode cX9_init 71 = .ok (.return_, 1) := by decide +kernel
theorem dX9_set_0 : decode cX9_set 0 = .ok (.aload_n 0, 1) := by decide +kernel
theorem dX9_set_1 : decode cX9_set 1 = .ok (.getfield 23, 3) := by decide +kernel
theorem dX9_set_4 : decode cX9_set 4 = .ok (.aload_n 0, 1) := by decide +kernel
theorem dX9_set_5 : decode cX9_set 5 = .ok (.getfield 12, 3) := by decide +kernel
theorem dX9_set_8 : decode cX9_set 8 = .ok (.invokevirtual 50, 3) := by decide +kernel
theorem dX9_set_11 : decode cX9_set 11 = .ok (.aload_n 0, 1) := by decide +kernel
theorem dX9_set_12 : decode cX9_set 12 = .ok (.aload_n 0, 1) := by decide +kernel
theorem dX9_set_13 : decode cX9_set 13 = .ok (.getfield 12, 3) := by decide +kernel
theorem dX9_set_16 : decode cX9_set 16 = .ok (.iload_n 1, 1) := by decide +kernel
theorem dX9_set_17 : decode cX9_set 17 = .ok (.iload_n 2, 1) := by decide +kernel
theorem dX9_set_18 : decode cX9_set 18 = .ok (.invokevirtual 54, 3) := by decide +kernel
theorem dX9_set_21 : decode cX9_set 21 = .ok (.invokevirtual 58, 3) := by decide +kernel
theorem dX9_set_24 : decode cX9_set 24 = .ok (.ireturn, 1) := by decide +kernel
theorem dX9_insert_0 : decode cX9_insert 0 = .ok (.aload_n 0, 1) := by decide +kernel
theorem dX9_insert_1 : decode cX9_insert 1 = .ok (.getfield 23, 3) := by decide +kernel
theorem dX9_insert_4 : decode cX9_insert 4 = .ok (.aload_n 0, 1) := by decide +kernel
theorem dX9_insert_5 : decode cX9_insert 5 = .ok (.getfield 12, 3) := by decide +kernel
theorem dX9_insert_8 : decode cX9_insert 8 = .ok (.invokevirtual 50, 3) := by decide +kernel
theorem dX9_insert_11 : decode cX9_insert 11 = .ok (.aload_n 0, 1) := by decide +kernel
theorem dX9_insert_12 : decode cX9_insert 12 = .ok (.aload_n 0, 1) := by decide +kernel
theorem dX9_insert_13 : decode cX9_insert 13 = .ok (.getfield 12, 3) := by decide +kernel
theorem dX9_insert_16 : decode cX9_insert 16 = .ok (.iload_n 1, 1) := by decide +kernel
theorem dX9_insert_17 : decode cX9_insert 17 = .ok (.iload_n 2, 1) := by decide +kernel
theorem dX9_insert_18 : decode cX9_insert 18 = .ok (.invokevirtual 62, 3) := by decide +kernel
theorem dX9_insert_21 : decode cX9_insert 21 = .ok (.invokevirtual 58, 3) := by decide +kernel
theorem dX9_insert_24 : decode cX9_insert 24 = .ok (.ireturn, 1) := by decide +kernel
theorem dX9_remove_0 : decode cX9_remove 0 = .ok (.aload_n 0, 1) := by decide +kernel
theorem dX9_remove_1 : decode cX9_remove 1 = .ok (.getfield 23, 3) := by decide +kernel
theorem dX9_remove_4 : decode cX9_remove 4 = .ok (.aload_n 0, 1) := by decide +kernel
theorem dX9_remove_5 : decode cX9_remove 5 = .ok (.getfield 12, 3) := by decide +kernel
theorem dX9_remove_8 : decode cX9_remove 8 = .ok (.invokevirtual 50, 3) := by decide +kernel
theorem dX9_remove_11 : decode cX9_remove 11 = .ok (.aload_n 0, 1) := by decide +kernel
theorem dX9_remove_12 : decode cX9_remove 12 = .ok (.aload_n 0, 1) := by decide +kernel
theorem dX9_remove_13 : decode cX9_remove 13 = .ok (.getfield 12, 3) := by decide +kernel
theorem dX9_remove_16 : decode cX9_remove 16 = .ok (.iload_n 1, 1) := by decide +kernel
theorem dX9_remove_17 : decode cX9_remove 17 = .ok (.invokevirtual 65, 3) := by decide +kernel
theorem dX9_remove_20 : decode cX9_remove 20 = .ok (.invokevirtual 58, 3) := by decide +kernel
theorem dX9_remove_23 : decode cX9_remove 23 = .ok (.ireturn, 1) := by decide +kernel
theorem dX9_analyse_0 : decode cX9_analyse 0 = .ok (.aload_n 0, 1) := by decide +kernel
theorem dX9_analyse_1 : decode cX9_analyse 1 = .ok (.getfield 23, 3) := by decide +kernel
theorem dX9_analyse_4 : decode cX9_analyse 4 = .ok (.aload_n 0, 1) := by decide +kernel
theorem dX9_analyse_5 : decode cX9_analyse 5 = .ok (.getfield 12, 3) := by decide +kernel
theorem dX9_analyse_8 : decode cX9_analyse 8 = .ok (.invokevirtual 50, 3) := by decide +kernel
theorem dX9_analyse_11 : decode cX9_analyse 11 = .ok (.aload_n 0, 1) := by decide +kernel
theorem dX9_analyse_12 : decode cX9_analyse 12 = .ok (.aload_n 0, 1) := by decide +kernel
theorem dX9_analyse_13 : decode cX9_analyse 13 = .ok (.getfield 12, 3) := by decide +kernel
theorem dX9_analyse_16 : decode cX9_analyse 16 = .ok (.invokevirtual 68, 3) := by decide +kernel
theorem dX9_analyse_19 : decode cX9_analyse 19 = .ok (.invokevirtual 58, 3) := by decide +kernel
theorem dX9_analyse_22 : decode cX9_analyse 22 = .ok (.ireturn, 1) := by decide +kernel
theorem dX9_row_0 : decode cX9_row 0 = .ok (.aload_n 0, 1) := by decide +kernel
theorem dX9_row_1 : decode cX9_row 1 = .ok (.getfield 12, 3) := by decide +kernel
theorem dX9_row_4 : decode cX9_row 4 = .ok (.getfield 72, 3) := by decide +kernel
theorem dX9_row_7 : decode cX9_row 7 = .ok (.iload_n 1, 1) := by decide +kernel
theorem dX9_row_8 : decode cX9_row 8 = .ok (.invokevirtual 76, 3) := by decide +kernel
theorem dX9_row_11 : decode cX9_row 11 = .ok (.ifCond .ne 5, 3) := by decide +kernel
theorem dX9_row_14 : decode cX9_row 14 = .ok (.iconst (-1), 1) := by decide +kernel
theorem dX9_row_15 : decode cX9_row 15 = .ok (.ireturn, 1) := by decide +kernel
theorem dX9_row_16 : decode cX9_row 16 = .ok (.iload_n 2, 1) := by decide +kernel
theorem dX9_row_17 : decode cX9_row 17 = .ok (.invokestatic 82, 3) := by decide +kernel
theorem dX9_row_20 : decode cX9_row 20 = .ok (.ifCond .ne 6, 3) := by decide +kernel
theorem dX9_row_23 : decode cX9_row 23 = .ok (.bipush (-2), 2) := by decide +kernel
theorem dX9_row_25 : decode cX9_row 25 = .ok (.ireturn, 1) := by decide +kernel
theorem dX9_row_26 : decode cX9_row 26 = .ok (.aload_n 0, 1) := by decide +kernel
theorem dX9_row_27 : decode cX9_row 27 = .ok (.getfield 12, 3) := by decide +kernel
theorem dX9_row_30 : decode cX9_row 30 = .ok (.getfield 72, 3) := by decide +kernel
theorem dX9_row_33 : decode cX9_row 33 = .ok (.iload_n 1, 1) := by decide +kernel
theorem dX9_row_34 : decode cX9_row 34 = .ok (.iload_n 2, 1) := by decide +kernel
theorem dX9_row_35 : decode cX9_row 35 = .ok (.invokevirtual 85, 3) := by decide +kernel
theorem dX9_row_38 : decode cX9_row 38 = .ok (.ireturn, 1) := by decide +kernel
theorem dX9_bucket_0 : decode cX9_bucket 0 = .ok (.iload_n 1, 1) := by decide +kernel
theorem dX9_bucket_1 : decode cX9_bucket 1 = .ok (.invokestatic 82, 3) := by decide +kernel
theorem dX9_bucket_4 : decode cX9_bucket 4 = .ok (.ifCond .eq 12, 3) := by decide +kernel
theorem dX9_bucket_7 : decode cX9_bucket 7 = .ok (.iload_n 3, 1) := by decide +kernel
theorem dX9_bucket_8 : decode cX9_bucket 8 = .ok (.iconst 0, 1) := by decide +kernel
theorem dX9_bucket_9 : decode cX9_bucket 9 = .ok (.iconst 3, 1) := by decide +kernel
theorem dX9_bucket_10 : decode cX9_bucket 10 = .ok (.invokestatic 88, 3) := by decide +kernel
theorem dX9_bucket_13 : decode cX9_bucket 13 = .ok (.ifCond .ne 6, 3) := by decide +kernel
theorem dX9_bucket_16 : decode cX9_bucket 16 = .ok (.bipush (-2), 2) := by decide +kernel
theorem dX9_bucket_18 : decode cX9_bucket 18 = .ok (.ireturn, 1) := by decide +kernel
theorem dX9_bucket_19 : decode cX9_bucket 19 = .ok (.aload_n 0, 1) := by decide +kernel
theorem dX9_bucket_20 : decode cX9_bucket 20 = .ok (.getfield 12, 3) := by decide +kernel
theorem dX9_bucket_23 : decode cX9_bucket 23 = .ok (.getfield 92, 3) := by decide +kernel
theorem dX9_bucket_26 : decode cX9_bucket 26 = .ok (.iload_n 1, 1) := by decide +kernel
theorem dX9_bucket_27 : decode cX9_bucket 27 = .ok (.invokevirtual 96, 3) := by decide +kernel
theorem dX9_bucket_30 : decode cX9_bucket 30 = .ok (.iload_n 2, 1) := by decide +kernel
theorem dX9_bucket_31 : decode cX9_bucket 31 = .ok (.iload_n 3, 1) := by decide +kernel
theorem dX9_bucket_32 : decode cX9_bucket 32 = .ok (.invokevirtual 102, 3) := by decide +kernel
theorem dX9_bucket_35 : decode cX9_bucket 35 = .ok (.ireturn, 1) := by decide +kernel
theorem dX9_common_0 : decode cX9_common 0 = .ok (.iload_n 1, 1) := by decide +kernel
theorem dX9_common_1 : decode cX9_common 1 = .ok (.invokestatic 82, 3) := by decide +kernel
theorem dX9_common_4 : decode cX9_common 4 = .ok (.ifCond .eq 12, 3) := by decide +kernel
theorem dX9_common_7 : decode cX9_common 7 = .ok (.iload_n 3, 1) := by decide +kernel
theorem dX9_common_8 : decode cX9_common 8 = .ok (.iconst 0, 1) := by decide +kernel
theorem dX9_common_9 : decode cX9_common 9 = .ok (.iconst 1, 1) := by decide +kernel
theorem dX9_common_10 : decode cX9_common 10 = .ok (.invokestatic 88, 3) := by decide +kernel
theorem dX9_common_13 : decode cX9_common 13 = .ok (.ifCond .ne 6, 3) := by decide +kernel
theorem dX9_common_16 : decode cX9_common 16 = .ok (.bipush (-2), 2) := by decide +kernel
theorem dX9_common_18 : decode cX9_common 18 = .ok (.ireturn, 1) := by decide +kernel
theorem dX9_common_19 : decode cX9_common 19 = .ok (.aload_n 0, 1) := by decide +kernel
theorem dX9_common_20 : decode cX9_common 20 = .ok (.getfield 12, 3) := by decide +kernel
theorem dX9_common_23 : decode cX9_common 23 = .ok (.getfield 92, 3) := by decide +kernel
theorem dX9_common_26 : decode cX9_common 26 = .ok (.iload_n 1, 1) := by decide +kernel
theorem dX9_common_27 : decode cX9_common 27 = .ok (.invokevirtual 96, 3) := by decide +kernel
theorem dX9_common_30 : decode cX9_common 30 = .ok (.iload_n 2, 1) := by decide +kernel
theorem dX9_common_31 : decode cX9_common 31 = .ok (.iload_n 3, 1) := by decide +kernel
theorem dX9_common_32 : decode cX9_common 32 = .ok (.invokevirtual 105, 3) := by decide +kernel
theorem dX9_common_35 : decode cX9_common 35 = .ok (.ireturn, 1) := by decide +kernel
theorem dX9_pair_0 : decode cX9_pair 0 = .ok (.iload_n 2, 1) := by decide +kernel
theorem dX9_pair_1 : decode cX9_pair 1 = .ok (.iconst 0, 1) := by decide +kernel
theorem dX9_pair_2 : decode cX9_pair 2 = .ok (.iconst 2, 1) := by decide +kernel
theorem dX9_pair_3 : decode cX9_pair 3 = .ok (.invokestatic 88, 3) := by decide +kernel
theorem dX9_pair_6 : decode cX9_pair 6 = .ok (.ifCond .ne 6, 3) := by decide +kernel
theorem dX9_pair_9 : decode cX9_pair 9 = .ok (.bipush (-2), 2) := by decide +kernel
theorem dX9_pair_11 : decode cX9_pair 11 = .ok (.ireturn, 1) := by decide +kernel
theorem dX9_pair_12 : decode cX9_pair 12 = .ok (.aload_n 0, 1) := by decide +kernel
theorem dX9_pair_13 : decode cX9_pair 13 = .ok (.getfield 12, 3) := by decide +kernel
theorem dX9_pair_16 : decode cX9_pair 16 = .ok (.getfield 92, 3) := by decide +kernel
theorem dX9_pair_19 : decode cX9_pair 19 = .ok (.getfield 108, 3) := by decide +kernel
theorem dX9_pair_22 : decode cX9_pair 22 = .ok (.iload_n 1, 1) := by decide +kernel
theorem dX9_pair_23 : decode cX9_pair 23 = .ok (.iload_n 2, 1) := by decide +kernel
theorem dX9_pair_24 : decode cX9_pair 24 = .ok (.invokevirtual 112, 3) := by decide +kernel
theorem dX9_pair_27 : decode cX9_pair 27 = .ok (.ireturn, 1) := by decide +kernel
theorem dX9_count_0 : decode cX9_count 0 = .ok (.aload_n 0, 1) := by decide +kernel
theorem dX9_count_1 : decode cX9_count 1 = .ok (.getfield 12, 3) := by decide +kernel
theorem dX9_count_4 : decode cX9_count 4 = .ok (.getfield 92, 3) := by decide +kernel
theorem dX9_count_7 : decode cX9_count 7 = .ok (.astore_n 2, 1) := by decide +kernel
theorem dX9_count_8 : decode cX9_count 8 = .ok (.iload_n 1, 1) := by decide +kernel
theorem dX9_count_9 : decode cX9_count 9 = .ok (.tableswitch 197 0 14 #[75, 86, 91, 96, 101, 110, 119, 128, 137, 145, 154, 163, 172, 181, 189], 75) := by decide +kernel
theorem dX9_count_84 : decode cX9_count 84 = .ok (.aload_n 0, 1) := by decide +kernel
theorem dX9_count_85 : decode cX9_count 85 = .ok (.getfield 12, 3) := by decide +kernel
theorem dX9_count_88 : decode cX9_count 88 = .ok (.getfield 72, 3) := by decide +kernel
theorem dX9_count_91 : decode cX9_count 91 = .ok (.getfield 117, 3) := by decide +kernel
theorem dX9_count_94 : decode cX9_count 94 = .ok (.ireturn, 1) := by decide +kernel
theorem dX9_count_95 : decode cX9_count 95 = .ok (.aload_n 2, 1) := by decide +kernel
theorem dX9_count_96 : decode cX9_count 96 = .ok (.getfield 121, 3) := by decide +kernel
theorem dX9_count_99 : decode cX9_count 99 = .ok (.ireturn, 1) := by decide +kernel
theorem dX9_count_100 : decode cX9_count 100 = .ok (.aload_n 2, 1) := by decide +kernel
theorem dX9_count_101 : decode cX9_count 101 = .ok (.getfield 124, 3) := by decide +kernel
theorem dX9_count_104 : decode cX9_count 104 = .ok (.ireturn, 1) := by decide +kernel
theorem dX9_count_105 : decode cX9_count 105 = .ok (.aload_n 0, 1) := by decide +kernel
theorem dX9_count_106 : decode cX9_count 106 = .ok (.invokevirtual 127, 3) := by decide +kernel
theorem dX9_count_109 : decode cX9_count 109 = .ok (.ireturn, 1) := by decide +kernel
theorem dX9_count_110 : decode cX9_count 110 = .ok (.aload_n 2, 1) := by decide +kernel
theorem dX9_count_111 : decode cX9_count 111 = .ok (.iconst 0, 1) := by decide +kernel
theorem dX9_count_112 : decode cX9_count 112 = .ok (.invokevirtual 96, 3) := by decide +kernel
theorem dX9_count_115 : decode cX9_count 115 = .ok (.getfield 130, 3) := by decide +kernel
theorem dX9_count_118 : decode cX9_count 118 = .ok (.ireturn, 1) := by decide +kernel
theorem dX9_count_119 : decode cX9_count 119 = .ok (.aload_n 2, 1) := by decide +kernel
theorem dX9_count_120 : decode cX9_count 120 = .ok (.iconst 1, 1) := by decide +kernel
theorem dX9_count_121 : decode cX9_count 121 = .ok (.invokevirtual 96, 3) := by decide +kernel
theorem dX9_count_124 : decode cX9_count 124 = .ok (.getfield 130, 3) := by decide +kernel
theorem dX9_count_127 : decode cX9_count 127 = .ok (.ireturn, 1) := by decide +kernel
theorem dX9_count_128 : decode cX9_count 128 = .ok (.aload_n 2, 1) := by decide +kernel
theorem dX9_count_129 : decode cX9_count 129 = .ok (.iconst 0, 1) := by decide +kernel
theorem dX9_count_130 : decode cX9_count 130 = .ok (.invokevirtual 96, 3) := by decide +kernel
theorem dX9_count_133 : decode cX9_count 133 = .ok (.getfield 133, 3) := by decide +kernel
theorem dX9_count_136 : decode cX9_count 136 = .ok (.ireturn, 1) := by decide +kernel
theorem dX9_count_137 : decode cX9_count 137 = .ok (.aload_n 2, 1) := by decide +kernel
theorem dX9_count_138 : decode cX9_count 138 = .ok (.iconst 1, 1) := by decide +kernel
theorem dX9_count_139 : decode cX9_count 139 = .ok (.invokevirtual 96, 3) := by decide +kernel
theorem dX9_count_142 : decode cX9_count 142 = .ok (.getfield 133, 3) := by decide +kernel
theorem dX9_count_145 : decode cX9_count 145 = .ok (.ireturn, 1) := by decide +kernel
theorem dX9_count_146 : decode cX9_count 146 = .ok (.aload_n 2, 1) := by decide +kernel
theorem dX9_count_147 : decode cX9_count 147 = .ok (.getfield 108, 3) := by decide +kernel
theorem dX9_count_150 : decode cX9_count 150 = .ok (.getfield 136, 3) := by decide +kernel
theorem dX9_count_153 : decode cX9_count 153 = .ok (.ireturn, 1) := by decide +kernel
theorem dX9_count_154 : decode cX9_count 154 = .ok (.aload_n 0, 1) := by decide +kernel
theorem dX9_count_155 : decode cX9_count 155 = .ok (.getfield 12, 3) := by decide +kernel
theorem dX9_count_158 : decode cX9_count 158 = .ok (.iconst 0, 1) := by decide +kernel
theorem dX9_count_159 : decode cX9_count 159 = .ok (.invokevirtual 138, 3) := by decide +kernel
theorem dX9_count_162 : decode cX9_count 162 = .ok (.ireturn, 1) := by decide +kernel
theorem dX9_count_163 : decode cX9_count 163 = .ok (.aload_n 0, 1) := by decide +kernel
theorem dX9_count_164 : decode cX9_count 164 = .ok (.getfield 12, 3) := by decide +kernel
theorem dX9_count_167 : decode cX9_count 167 = .ok (.iconst 1, 1) := by decide +kernel
theorem dX9_count_168 : decode cX9_count 168 = .ok (.invokevirtual 138, 3) := by decide +kernel
theorem dX9_count_171 : decode cX9_count 171 = .ok (.ireturn, 1) := by decide +kernel
theorem dX9_count_172 : decode cX9_count 172 = .ok (.aload_n 0, 1) := by decide +kernel
theorem dX9_count_173 : decode cX9_count 173 = .ok (.getfield 12, 3) := by decide +kernel
theorem dX9_count_176 : decode cX9_count 176 = .ok (.iconst 2, 1) := by decide +kernel
theorem dX9_count_177 : decode cX9_count 177 = .ok (.invokevirtual 138, 3) := by decide +kernel
theorem dX9_count_180 : decode cX9_count 180 = .ok (.ireturn, 1) := by decide +kernel
theorem dX9_count_181 : decode cX9_count 181 = .ok (.aload_n 0, 1) := by decide +kernel
theorem dX9_count_182 : decode cX9_count 182 = .ok (.getfield 12, 3) := by decide +kernel
theorem dX9_count_185 : decode cX9_count 185 = .ok (.iconst 3, 1) := by decide +kernel
theorem dX9_count_186 : decode cX9_count 186 = .ok (.invokevirtual 138, 3) := by decide +kernel
theorem dX9_count_189 : decode cX9_count 189 = .ok (.ireturn, 1) := by decide +kernel
theorem dX9_count_190 : decode cX9_count 190 = .ok (.aload_n 0, 1) := by decide +kernel
theorem dX9_count_191 : decode cX9_count 191 = .ok (.getfield 30, 3) := by decide +kernel
theorem dX9_count_194 : decode cX9_count 194 = .ok (.getfield 141, 3) := by decide +kernel
theorem dX9_count_197 : decode cX9_count 197 = .ok (.ireturn, 1) := by decide +kernel
theorem dX9_count_198 : decode cX9_count 198 = .ok (.aload_n 0, 1) := by decide +kernel
theorem dX9_count_199 : decode cX9_count 199 = .ok (.getfield 23, 3) := by decide +kernel
theorem dX9_count_202 : decode cX9_count 202 = .ok (.getfield 144, 3) := by decide +kernel
theorem dX9_count_205 : decode cX9_count 205 = .ok (.ireturn, 1) := by decide +kernel
theorem dX9_count_206 : decode cX9_count 206 = .ok (.bipush (-2), 2) := by decide +kernel
theorem dX9_count_208 : decode cX9_count 208 = .ok (.ireturn, 1) := by decide +kernel
theorem dX9_tellStale_0 : decode cX9_tellStale 0 = .ok (.aload_n 0, 1) := by decide +kernel
theorem dX9_tellStale_1 : decode cX9_tellStale 1 = .ok (.getfield 12, 3) := by decide +kernel
theorem dX9_tellStale_4 : decode cX9_tellStale 4 = .ok (.getfield 92, 3) := by decide +kernel
theorem dX9_tellStale_7 : decode cX9_tellStale 7 = .ok (.invokevirtual 147, 3) := by decide +kernel
theorem dX9_tellStale_10 : decode cX9_tellStale 10 = .ok (.ifCond .ne 6, 3) := by decide +kernel
theorem dX9_tellStale_13 : decode cX9_tellStale 13 = .ok (.bipush (-6), 2) := by decide +kernel
theorem dX9_tellStale_15 : decode cX9_tellStale 15 = .ok (.ireturn, 1) := by decide +kernel
theorem dX9_tellStale_16 : decode cX9_tellStale 16 = .ok (.aload_n 0, 1) := by decide +kernel
theorem dX9_tellStale_17 : decode cX9_tellStale 17 = .ok (.getfield 12, 3) := by decide +kernel
theorem dX9_tellStale_20 : decode cX9_tellStale 20 = .ok (.getfield 92, 3) := by decide +kernel
theorem dX9_tellStale_23 : decode cX9_tellStale 23 = .ok (.aload_n 0, 1) := by decide +kernel
theorem dX9_tellStale_24 : decode cX9_tellStale 24 = .ok (.getfield 12, 3) := by decide +kernel
theorem dX9_tellStale_27 : decode cX9_tellStale 27 = .ok (.iconst 3, 1) := by decide +kernel
theorem dX9_tellStale_28 : decode cX9_tellStale 28 = .ok (.invokevirtual 138, 3) := by decide +kernel
theorem dX9_tellStale_31 : decode cX9_tellStale 31 = .ok (.invokevirtual 151, 3) := by decide +kernel
theorem dX9_tellStale_34 : decode cX9_tellStale 34 = .ok (.ifCond .eq 7, 3) := by decide +kernel
theorem dX9_tellStale_37 : decode cX9_tellStale 37 = .ok (.iconst 1, 1) := by decide +kernel
theorem dX9_tellStale_38 : decode cX9_tellStale 38 = .ok (.goto 4, 3) := by decide +kernel
theorem dX9_tellStale_41 : decode cX9_tellStale 41 = .ok (.iconst 0, 1) := by decide +kernel
theorem dX9_tellStale_42 : decode cX9_tellStale 42 = .ok (.ireturn, 1) := by decide +kernel
theorem dX9_estimate_0 : decode cX9_estimate 0 = .ok (.iload_n 1, 1) := by decide +kernel
theorem dX9_estimate_1 : decode cX9_estimate 1 = .ok (.invokestatic 82, 3) := by decide +kernel
theorem dX9_estimate_4 : decode cX9_estimate 4 = .ok (.ifCond .eq 21, 3) := by decide +kernel
theorem dX9_estimate_7 : decode cX9_estimate 7 = .ok (.iload_n 2, 1) := by decide +kernel
theorem dX9_estimate_8 : decode cX9_estimate 8 = .ok (.iload_n 3, 1) := by decide +kernel
theorem dX9_estimate_9 : decode cX9_estimate 9 = .ok (.invokestatic 154, 3) := by decide +kernel
theorem dX9_estimate_12 : decode cX9_estimate 12 = .ok (.ifCond .eq 13, 3) := by decide +kernel
theorem dX9_estimate_15 : decode cX9_estimate 15 = .ok (.iload 4, 2) := by decide +kernel
theorem dX9_estimate_17 : decode cX9_estimate 17 = .ok (.iconst 0, 1) := by decide +kernel
theorem dX9_estimate_18 : decode cX9_estimate 18 = .ok (.iconst 4, 1) := by decide +kernel
theorem dX9_estimate_19 : decode cX9_estimate 19 = .ok (.invokestatic 88, 3) := by decide +kernel
theorem dX9_estimate_22 : decode cX9_estimate 22 = .ok (.ifCond .ne 6, 3) := by decide +kernel
theorem dX9_estimate_25 : decode cX9_estimate 25 = .ok (.bipush (-2), 2) := by decide +kernel
theorem dX9_estimate_27 : decode cX9_estimate 27 = .ok (.ireturn, 1) := by decide +kernel
theorem dX9_estimate_28 : decode cX9_estimate 28 = .ok (.iload 4, 2) := by decide +kernel
theorem dX9_estimate_30 : decode cX9_estimate 30 = .ok (.iconst 4, 1) := by decide +kernel
theorem dX9_estimate_31 : decode cX9_estimate 31 = .ok (.if_icmp .ne 17, 3) := by decide +kernel
theorem dX9_estimate_34 : decode cX9_estimate 34 = .ok (.aload_n 0, 1) := by decide +kernel
theorem dX9_estimate_35 : decode cX9_estimate 35 = .ok (.getfield 12, 3) := by decide +kernel
theorem dX9_estimate_38 : decode cX9_estimate 38 = .ok (.getfield 72, 3) := by decide +kernel
theorem dX9_estimate_41 : decode cX9_estimate 41 = .ok (.iload_n 1, 1) := by decide +kernel
theorem dX9_estimate_42 : decode cX9_estimate 42 = .ok (.iload_n 2, 1) := by decide +kernel
theorem dX9_estimate_43 : decode cX9_estimate 43 = .ok (.iload_n 3, 1) := by decide +kernel
theorem dX9_estimate_44 : decode cX9_estimate 44 = .ok (.invokevirtual 158, 3) := by decide +kernel
theorem dX9_estimate_47 : decode cX9_estimate 47 = .ok (.ireturn, 1) := by decide +kernel
theorem dX9_estimate_48 : decode cX9_estimate 48 = .ok (.aload_n 0, 1) := by decide +kernel
theorem dX9_estimate_49 : decode cX9_estimate 49 = .ok (.getfield 12, 3) := by decide +kernel
theorem dX9_estimate_52 : decode cX9_estimate 52 = .ok (.getfield 92, 3) := by decide +kernel
theorem dX9_estimate_55 : decode cX9_estimate 55 = .ok (.invokevirtual 147, 3) := by decide +kernel
theorem dX9_estimate_58 : decode cX9_estimate 58 = .ok (.ifCond .ne 6, 3) := by decide +kernel
theorem dX9_estimate_61 : decode cX9_estimate 61 = .ok (.bipush (-6), 2) := by decide +kernel
theorem dX9_estimate_63 : decode cX9_estimate 63 = .ok (.ireturn, 1) := by decide +kernel
theorem dX9_estimate_64 : decode cX9_estimate 64 = .ok (.aload_n 0, 1) := by decide +kernel
theorem dX9_estimate_65 : decode cX9_estimate 65 = .ok (.getfield 12, 3) := by decide +kernel
theorem dX9_estimate_68 : decode cX9_estimate 68 = .ok (.getfield 92, 3) := by decide +kernel
theorem dX9_estimate_71 : decode cX9_estimate 71 = .ok (.iload_n 1, 1) := by decide +kernel
theorem dX9_estimate_72 : decode cX9_estimate 72 = .ok (.invokevirtual 96, 3) := by decide +kernel
theorem dX9_estimate_75 : decode cX9_estimate 75 = .ok (.astore 5, 2) := by decide +kernel
theorem dX9_estimate_77 : decode cX9_estimate 77 = .ok (.iload 4, 2) := by decide +kernel
theorem dX9_estimate_79 : decode cX9_estimate 79 = .ok (.tableswitch 49 0 2 #[25, 33, 41], 25) := by decide +kernel
theorem dX9_estimate_104 : decode cX9_estimate 104 = .ok (.aload 5, 2) := by decide +kernel
theorem dX9_estimate_106 : decode cX9_estimate 106 = .ok (.iload_n 2, 1) := by decide +kernel
theorem dX9_estimate_107 : decode cX9_estimate 107 = .ok (.iload_n 3, 1) := by decide +kernel
theorem dX9_estimate_108 : decode cX9_estimate 108 = .ok (.invokevirtual 162, 3) := by decide +kernel
theorem dX9_estimate_111 : decode cX9_estimate 111 = .ok (.ireturn, 1) := by decide +kernel
theorem dX9_estimate_112 : decode cX9_estimate 112 = .ok (.aload 5, 2) := by decide +kernel
theorem dX9_estimate_114 : decode cX9_estimate 114 = .ok (.iload_n 2, 1) := by decide +kernel
theorem dX9_estimate_115 : decode cX9_estimate 115 = .ok (.iload_n 3, 1) := by decide +kernel
theorem dX9_estimate_116 : decode cX9_estimate 116 = .ok (.invokevirtual 165, 3) := by decide +kernel
theorem dX9_estimate_119 : decode cX9_estimate 119 = .ok (.ireturn, 1) := by decide +kernel
theorem dX9_estimate_120 : decode cX9_estimate 120 = .ok (.aload 5, 2) := by decide +kernel
theorem dX9_estimate_122 : decode cX9_estimate 122 = .ok (.iload_n 2, 1) := by decide +kernel
theorem dX9_estimate_123 : decode cX9_estimate 123 = .ok (.iload_n 3, 1) := by decide +kernel
theorem dX9_estimate_124 : decode cX9_estimate 124 = .ok (.invokevirtual 168, 3) := by decide +kernel
theorem dX9_estimate_127 : decode cX9_estimate 127 = .ok (.ireturn, 1) := by decide +kernel
theorem dX9_estimate_128 : decode cX9_estimate 128 = .ok (.aload_n 0, 1) := by decide +kernel
theorem dX9_estimate_129 : decode cX9_estimate 129 = .ok (.getfield 12, 3) := by decide +kernel
theorem dX9_estimate_132 : decode cX9_estimate 132 = .ok (.aload 5, 2) := by decide +kernel
theorem dX9_estimate_134 : decode cX9_estimate 134 = .ok (.iload_n 2, 1) := by decide +kernel
theorem dX9_estimate_135 : decode cX9_estimate 135 = .ok (.iload_n 3, 1) := by decide +kernel
theorem dX9_estimate_136 : decode cX9_estimate 136 = .ok (.invokevirtual 162, 3) := by decide +kernel
theorem dX9_estimate_139 : decode cX9_estimate 139 = .ok (.invokevirtual 171, 3) := by decide +kernel
theorem dX9_estimate_142 : decode cX9_estimate 142 = .ok (.ireturn, 1) := by decide +kernel
theorem dX9_both_0 : decode cX9_both 0 = .ok (.iload_n 1, 1) := by decide +kernel
theorem dX9_both_1 : decode cX9_both 1 = .ok (.iload_n 2, 1) := by decide +kernel
theorem dX9_both_2 : decode cX9_both 2 = .ok (.invokestatic 154, 3) := by decide +kernel
theorem dX9_both_5 : decode cX9_both 5 = .ok (.ifCond .eq 22, 3) := by decide +kernel
theorem dX9_both_8 : decode cX9_both 8 = .ok (.iload_n 3, 1) := by decide +kernel
theorem dX9_both_9 : decode cX9_both 9 = .ok (.iload 4, 2) := by decide +kernel
theorem dX9_both_11 : decode cX9_both 11 = .ok (.invokestatic 154, 3) := by decide +kernel
theorem dX9_both_14 : decode cX9_both 14 = .ok (.ifCond .eq 13, 3) := by decide +kernel
theorem dX9_both_17 : decode cX9_both 17 = .ok (.iload 5, 2) := by decide +kernel
theorem dX9_both_19 : decode cX9_both 19 = .ok (.iconst 0, 1) := by decide +kernel
theorem dX9_both_20 : decode cX9_both 20 = .ok (.iconst 2, 1) := by decide +kernel
theorem dX9_both_21 : decode cX9_both 21 = .ok (.invokestatic 88, 3) := by decide +kernel
theorem dX9_both_24 : decode cX9_both 24 = .ok (.ifCond .ne 6, 3) := by decide +kernel
theorem dX9_both_27 : decode cX9_both 27 = .ok (.bipush (-2), 2) := by decide +kernel
theorem dX9_both_29 : decode cX9_both 29 = .ok (.ireturn, 1) := by decide +kernel
theorem dX9_both_30 : decode cX9_both 30 = .ok (.iload 5, 2) := by decide +kernel
theorem dX9_both_32 : decode cX9_both 32 = .ok (.iconst 2, 1) := by decide +kernel
theorem dX9_both_33 : decode cX9_both 33 = .ok (.if_icmp .ne 19, 3) := by decide +kernel
theorem dX9_both_36 : decode cX9_both 36 = .ok (.aload_n 0, 1) := by decide +kernel
theorem dX9_both_37 : decode cX9_both 37 = .ok (.getfield 12, 3) := by decide +kernel
theorem dX9_both_40 : decode cX9_both 40 = .ok (.getfield 72, 3) := by decide +kernel
theorem dX9_both_43 : decode cX9_both 43 = .ok (.iload_n 1, 1) := by decide +kernel
theorem dX9_both_44 : decode cX9_both 44 = .ok (.iload_n 2, 1) := by decide +kernel
theorem dX9_both_45 : decode cX9_both 45 = .ok (.iload_n 3, 1) := by decide +kernel
theorem dX9_both_46 : decode cX9_both 46 = .ok (.iload 4, 2) := by decide +kernel
theorem dX9_both_48 : decode cX9_both 48 = .ok (.invokevirtual 174, 3) := by decide +kernel
theorem dX9_both_51 : decode cX9_both 51 = .ok (.ireturn, 1) := by decide +kernel
theorem dX9_both_52 : decode cX9_both 52 = .ok (.aload_n 0, 1) := by decide +kernel
theorem dX9_both_53 : decode cX9_both 53 = .ok (.getfield 12, 3) := by decide +kernel
theorem dX9_both_56 : decode cX9_both 56 = .ok (.getfield 92, 3) := by decide +kernel
theorem dX9_both_59 : decode cX9_both 59 = .ok (.invokevirtual 147, 3) := by decide +kernel
theorem dX9_both_62 : decode cX9_both 62 = .ok (.ifCond .ne 6, 3) := by decide +kernel
theorem dX9_both_65 : decode cX9_both 65 = .ok (.bipush (-6), 2) := by decide +kernel
theorem dX9_both_67 : decode cX9_both 67 = .ok (.ireturn, 1) := by decide +kernel
theorem dX9_both_68 : decode cX9_both 68 = .ok (.aload_n 0, 1) := by decide +kernel
theorem dX9_both_69 : decode cX9_both 69 = .ok (.getfield 12, 3) := by decide +kernel
theorem dX9_both_72 : decode cX9_both 72 = .ok (.getfield 92, 3) := by decide +kernel
theorem dX9_both_75 : decode cX9_both 75 = .ok (.iload_n 1, 1) := by decide +kernel
theorem dX9_both_76 : decode cX9_both 76 = .ok (.iload_n 2, 1) := by decide +kernel
theorem dX9_both_77 : decode cX9_both 77 = .ok (.iload_n 3, 1) := by decide +kernel
theorem dX9_both_78 : decode cX9_both 78 = .ok (.iload 4, 2) := by decide +kernel
theorem dX9_both_80 : decode cX9_both 80 = .ok (.invokevirtual 178, 3) := by decide +kernel
theorem dX9_both_83 : decode cX9_both 83 = .ok (.istore 6, 2) := by decide +kernel
theorem dX9_both_85 : decode cX9_both 85 = .ok (.iload 5, 2) := by decide +kernel
theorem dX9_both_87 : decode cX9_both 87 = .ok (.ifCond .ne 8, 3) := by decide +kernel
theorem dX9_both_90 : decode cX9_both 90 = .ok (.iload 6, 2) := by decide +kernel
theorem dX9_both_92 : decode cX9_both 92 = .ok (.goto 12, 3) := by decide +kernel
theorem dX9_both_95 : decode cX9_both 95 = .ok (.aload_n 0, 1) := by decide +kernel
theorem dX9_both_96 : decode cX9_both 96 = .ok (.getfield 12, 3) := by decide +kernel
theorem dX9_both_99 : decode cX9_both 99 = .ok (.iload 6, 2) := by decide +kernel
theorem dX9_both_101 : decode cX9_both 101 = .ok (.invokevirtual 171, 3) := by decide +kernel
theorem dX9_both_104 : decode cX9_both 104 = .ok (.ireturn, 1) := by decide +kernel
theorem dX9_share_0 : decode cX9_share 0 = .ok (.iload_n 1, 1) := by decide +kernel
theorem dX9_share_1 : decode cX9_share 1 = .ok (.invokestatic 82, 3) := by decide +kernel
theorem dX9_share_4 : decode cX9_share 4 = .ok (.ifCond .eq 11, 3) := by decide +kernel
theorem dX9_share_7 : decode cX9_share 7 = .ok (.iload_n 2, 1) := by decide +kernel
theorem dX9_share_8 : decode cX9_share 8 = .ok (.iload_n 3, 1) := by decide +kernel
theorem dX9_share_9 : decode cX9_share 9 = .ok (.invokestatic 154, 3) := by decide +kernel
theorem dX9_share_12 : decode cX9_share 12 = .ok (.ifCond .ne 6, 3) := by decide +kernel
theorem dX9_share_15 : decode cX9_share 15 = .ok (.bipush (-2), 2) := by decide +kernel
theorem dX9_share_17 : decode cX9_share 17 = .ok (.ireturn, 1) := by decide +kernel
theorem dX9_share_18 : decode cX9_share 18 = .ok (.aload_n 0, 1) := by decide +kernel
theorem dX9_share_19 : decode cX9_share 19 = .ok (.getfield 12, 3) := by decide +kernel
theorem dX9_share_22 : decode cX9_share 22 = .ok (.getfield 92, 3) := by decide +kernel
theorem dX9_share_25 : decode cX9_share 25 = .ok (.getfield 121, 3) := by decide +kernel
theorem dX9_share_28 : decode cX9_share 28 = .ok (.istore 4, 2) := by decide +kernel
theorem dX9_share_30 : decode cX9_share 30 = .ok (.iload 4, 2) := by decide +kernel
theorem dX9_share_32 : decode cX9_share 32 = .ok (.ifCond .gt 6, 3) := by decide +kernel
theorem dX9_share_35 : decode cX9_share 35 = .ok (.bipush (-6), 2) := by decide +kernel
theorem dX9_share_37 : decode cX9_share 37 = .ok (.ireturn, 1) := by decide +kernel
theorem dX9_share_38 : decode cX9_share 38 = .ok (.aload_n 0, 1) := by decide +kernel
theorem dX9_share_39 : decode cX9_share 39 = .ok (.getfield 12, 3) := by decide +kernel
theorem dX9_share_42 : decode cX9_share 42 = .ok (.getfield 92, 3) := by decide +kernel
theorem dX9_share_45 : decode cX9_share 45 = .ok (.iload_n 1, 1) := by decide +kernel
theorem dX9_share_46 : decode cX9_share 46 = .ok (.invokevirtual 96, 3) := by decide +kernel
theorem dX9_share_49 : decode cX9_share 49 = .ok (.iload_n 2, 1) := by decide +kernel
theorem dX9_share_50 : decode cX9_share 50 = .ok (.iload_n 3, 1) := by decide +kernel
theorem dX9_share_51 : decode cX9_share 51 = .ok (.invokevirtual 162, 3) := by decide +kernel
theorem dX9_share_54 : decode cX9_share 54 = .ok (.i2d, 1) := by decide +kernel
theorem dX9_share_55 : decode cX9_share 55 = .ok (.iload 4, 2) := by decide +kernel
theorem dX9_share_57 : decode cX9_share 57 = .ok (.i2d, 1) := by decide +kernel
theorem dX9_share_58 : decode cX9_share 58 = .ok (.ddiv, 1) := by decide +kernel
theorem dX9_share_59 : decode cX9_share 59 = .ok (.dstore 5, 2) := by decide +kernel
theorem dX9_share_61 : decode cX9_share 61 = .ok (.dload 5, 2) := by decide +kernel
theorem dX9_share_63 : decode cX9_share 63 = .ok (.d2f, 1) := by decide +kernel
theorem dX9_share_64 : decode cX9_share 64 = .ok (.invokestatic 181, 3) := by decide +kernel
theorem dX9_share_67 : decode cX9_share 67 = .ok (.ireturn, 1) := by decide +kernel
theorem dX9_height_0 : decode cX9_height 0 = .ok (.iload_n 1, 1) := by decide +kernel
theorem dX9_height_1 : decode cX9_height 1 = .ok (.invokestatic 82, 3) := by decide +kernel
theorem dX9_height_4 : decode cX9_height 4 = .ok (.ifCond .ne 7, 3) := by decide +kernel
theorem dX9_height_7 : decode cX9_height 7 = .ok (.ldc2_w 187, 3) := by decide +kernel
theorem dX9_height_10 : decode cX9_height 10 = .ok (.lreturn, 1) := by decide +kernel
theorem dX9_height_11 : decode cX9_height 11 = .ok (.aload_n 0, 1) := by decide +kernel
theorem dX9_height_12 : decode cX9_height 12 = .ok (.getfield 12, 3) := by decide +kernel
theorem dX9_height_15 : decode cX9_height 15 = .ok (.getfield 92, 3) := by decide +kernel
theorem dX9_height_18 : decode cX9_height 18 = .ok (.iload_n 1, 1) := by decide +kernel
theorem dX9_height_19 : decode cX9_height 19 = .ok (.invokevirtual 96, 3) := by decide +kernel
theorem dX9_height_22 : decode cX9_height 22 = .ok (.astore_n 2, 1) := by decide +kernel
theorem dX9_height_23 : decode cX9_height 23 = .ok (.aload_n 2, 1) := by decide +kernel
theorem dX9_height_24 : decode cX9_height 24 = .ok (.getfield 130, 3) := by decide +kernel
theorem dX9_height_27 : decode cX9_height 27 = .ok (.ifCond .gt 5, 3) := by decide +kernel
theorem dX9_height_30 : decode cX9_height 30 = .ok (.lconst 0, 1) := by decide +kernel
theorem dX9_height_31 : decode cX9_height 31 = .ok (.lreturn, 1) := by decide +kernel
theorem dX9_height_32 : decode cX9_height 32 = .ok (.aload_n 2, 1) := by decide +kernel
theorem dX9_height_33 : decode cX9_height 33 = .ok (.invokevirtual 189, 3) := by decide +kernel
theorem dX9_height_36 : decode cX9_height 36 = .ok (.i2d, 1) := by decide +kernel
theorem dX9_height_37 : decode cX9_height 37 = .ok (.aload_n 2, 1) := by decide +kernel
theorem dX9_height_38 : decode cX9_height 38 = .ok (.getfield 130, 3) := by decide +kernel
theorem dX9_height_41 : decode cX9_height 41 = .ok (.i2d, 1) := by decide +kernel
theorem dX9_height_42 : decode cX9_height 42 = .ok (.ddiv, 1) := by decide +kernel
theorem dX9_height_43 : decode cX9_height 43 = .ok (.invokestatic 192, 3) := by decide +kernel
theorem dX9_height_46 : decode cX9_height 46 = .ok (.lreturn, 1) := by decide +kernel
theorem dX9_worst_0 : decode cX9_worst 0 = .ok (.iload_n 1, 1) := by decide +kernel
theorem dX9_worst_1 : decode cX9_worst 1 = .ok (.invokestatic 82, 3) := by decide +kernel
theorem dX9_worst_4 : decode cX9_worst 4 = .ok (.ifCond .eq 12, 3) := by decide +kernel
theorem dX9_worst_7 : decode cX9_worst 7 = .ok (.iload_n 2, 1) := by decide +kernel
theorem dX9_worst_8 : decode cX9_worst 8 = .ok (.iconst 0, 1) := by decide +kernel
theorem dX9_worst_9 : decode cX9_worst 9 = .ok (.iconst 1, 1) := by decide +kernel
theorem dX9_worst_10 : decode cX9_worst 10 = .ok (.invokestatic 88, 3) := by decide +kernel
theorem dX9_worst_13 : decode cX9_worst 13 = .ok (.ifCond .ne 6, 3) := by decide +kernel
theorem dX9_worst_16 : decode cX9_worst 16 = .ok (.bipush (-2), 2) := by decide +kernel
theorem dX9_worst_18 : decode cX9_worst 18 = .ok (.ireturn, 1) := by decide +kernel
theorem dX9_worst_19 : decode cX9_worst 19 = .ok (.aload_n 0, 1) := by decide +kernel
theorem dX9_worst_20 : decode cX9_worst 20 = .ok (.getfield 12, 3) := by decide +kernel
theorem dX9_worst_23 : decode cX9_worst 23 = .ok (.getfield 92, 3) := by decide +kernel
theorem dX9_worst_26 : decode cX9_worst 26 = .ok (.invokevirtual 147, 3) := by decide +kernel
theorem dX9_worst_29 : decode cX9_worst 29 = .ok (.ifCond .ne 6, 3) := by decide +kernel
theorem dX9_worst_32 : decode cX9_worst 32 = .ok (.bipush (-6), 2) := by decide +kernel
theorem dX9_worst_34 : decode cX9_worst 34 = .ok (.ireturn, 1) := by decide +kernel
theorem dX9_worst_35 : decode cX9_worst 35 = .ok (.aload_n 0, 1) := by decide +kernel
theorem dX9_worst_36 : decode cX9_worst 36 = .ok (.getfield 12, 3) := by decide +kernel
theorem dX9_worst_39 : decode cX9_worst 39 = .ok (.getfield 92, 3) := by decide +kernel
theorem dX9_worst_42 : decode cX9_worst 42 = .ok (.iload_n 1, 1) := by decide +kernel
theorem dX9_worst_43 : decode cX9_worst 43 = .ok (.invokevirtual 96, 3) := by decide +kernel
theorem dX9_worst_46 : decode cX9_worst 46 = .ok (.astore_n 3, 1) := by decide +kernel
theorem dX9_worst_47 : decode cX9_worst 47 = .ok (.aload_n 3, 1) := by decide +kernel
theorem dX9_worst_48 : decode cX9_worst 48 = .ok (.invokevirtual 196, 3) := by decide +kernel
theorem dX9_worst_51 : decode cX9_worst 51 = .ok (.istore 4, 2) := by decide +kernel
theorem dX9_worst_53 : decode cX9_worst 53 = .ok (.iload_n 2, 1) := by decide +kernel
theorem dX9_worst_54 : decode cX9_worst 54 = .ok (.ifCond .ne 8, 3) := by decide +kernel
theorem dX9_worst_57 : decode cX9_worst 57 = .ok (.iload 4, 2) := by decide +kernel
theorem dX9_worst_59 : decode cX9_worst 59 = .ok (.goto 9, 3) := by decide +kernel
theorem dX9_worst_62 : decode cX9_worst 62 = .ok (.aload_n 3, 1) := by decide +kernel
theorem dX9_worst_63 : decode cX9_worst 63 = .ok (.iload 4, 2) := by decide +kernel
theorem dX9_worst_65 : decode cX9_worst 65 = .ok (.invokevirtual 199, 3) := by decide +kernel
theorem dX9_worst_68 : decode cX9_worst 68 = .ok (.ireturn, 1) := by decide +kernel
theorem dX9_fewest_0 : decode cX9_fewest 0 = .ok (.iload_n 1, 1) := by decide +kernel
theorem dX9_fewest_1 : decode cX9_fewest 1 = .ok (.invokestatic 82, 3) := by decide +kernel
theorem dX9_fewest_4 : decode cX9_fewest 4 = .ok (.ifCond .eq 13, 3) := by decide +kernel
theorem dX9_fewest_7 : decode cX9_fewest 7 = .ok (.iload_n 2, 1) := by decide +kernel
theorem dX9_fewest_8 : decode cX9_fewest 8 = .ok (.iconst 0, 1) := by decide +kernel
theorem dX9_fewest_9 : decode cX9_fewest 9 = .ok (.bipush 60, 2) := by decide +kernel
theorem dX9_fewest_11 : decode cX9_fewest 11 = .ok (.invokestatic 88, 3) := by decide +kernel
theorem dX9_fewest_14 : decode cX9_fewest 14 = .ok (.ifCond .ne 6, 3) := by decide +kernel
theorem dX9_fewest_17 : decode cX9_fewest 17 = .ok (.bipush (-2), 2) := by decide +kernel
theorem dX9_fewest_19 : decode cX9_fewest 19 = .ok (.ireturn, 1) := by decide +kernel
theorem dX9_fewest_20 : decode cX9_fewest 20 = .ok (.aload_n 0, 1) := by decide +kernel
theorem dX9_fewest_21 : decode cX9_fewest 21 = .ok (.getfield 12, 3) := by decide +kernel
theorem dX9_fewest_24 : decode cX9_fewest 24 = .ok (.getfield 72, 3) := by decide +kernel
theorem dX9_fewest_27 : decode cX9_fewest 27 = .ok (.getfield 117, 3) := by decide +kernel
theorem dX9_fewest_30 : decode cX9_fewest 30 = .ok (.ifCond .ne 6, 3) := by decide +kernel
theorem dX9_fewest_33 : decode cX9_fewest 33 = .ok (.bipush (-5), 2) := by decide +kernel
theorem dX9_fewest_35 : decode cX9_fewest 35 = .ok (.ireturn, 1) := by decide +kernel
theorem dX9_fewest_36 : decode cX9_fewest 36 = .ok (.iconst 1, 1) := by decide +kernel
theorem dX9_fewest_37 : decode cX9_fewest 37 = .ok (.istore_n 3, 1) := by decide +kernel
theorem dX9_fewest_38 : decode cX9_fewest 38 = .ok (.iload_n 3, 1) := by decide +kernel
theorem dX9_fewest_39 : decode cX9_fewest 39 = .ok (.bipush 10, 2) := by decide +kernel
theorem dX9_fewest_41 : decode cX9_fewest 41 = .ok (.if_icmp .gt 53, 3) := by decide +kernel
theorem dX9_fewest_44 : decode cX9_fewest 44 = .ok (.aload_n 0, 1) := by decide +kernel
theorem dX9_fewest_45 : decode cX9_fewest 45 = .ok (.getfield 46, 3) := by decide +kernel
theorem dX9_fewest_48 : decode cX9_fewest 48 = .ok (.aload_n 0, 1) := by decide +kernel
theorem dX9_fewest_49 : decode cX9_fewest 49 = .ok (.getfield 12, 3) := by decide +kernel
theorem dX9_fewest_52 : decode cX9_fewest 52 = .ok (.getfield 72, 3) := by decide +kernel
theorem dX9_fewest_55 : decode cX9_fewest 55 = .ok (.iload_n 1, 1) := by decide +kernel
theorem dX9_fewest_56 : decode cX9_fewest 56 = .ok (.aload_n 0, 1) := by decide +kernel
theorem dX9_fewest_57 : decode cX9_fewest 57 = .ok (.getfield 12, 3) := by decide +kernel
theorem dX9_fewest_60 : decode cX9_fewest 60 = .ok (.iconst 1, 1) := by decide +kernel
theorem dX9_fewest_61 : decode cX9_fewest 61 = .ok (.invokevirtual 138, 3) := by decide +kernel
theorem dX9_fewest_64 : decode cX9_fewest 64 = .ok (.iload_n 3, 1) := by decide +kernel
theorem dX9_fewest_65 : decode cX9_fewest 65 = .ok (.invokevirtual 202, 3) := by decide +kernel
theorem dX9_fewest_68 : decode cX9_fewest 68 = .ok (.aload_n 0, 1) := by decide +kernel
theorem dX9_fewest_69 : decode cX9_fewest 69 = .ok (.getfield 46, 3) := by decide +kernel
theorem dX9_fewest_72 : decode cX9_fewest 72 = .ok (.aload_n 0, 1) := by decide +kernel
theorem dX9_fewest_73 : decode cX9_fewest 73 = .ok (.getfield 46, 3) := by decide +kernel
theorem dX9_fewest_76 : decode cX9_fewest 76 = .ok (.invokevirtual 196, 3) := by decide +kernel
theorem dX9_fewest_79 : decode cX9_fewest 79 = .ok (.invokevirtual 199, 3) := by decide +kernel
theorem dX9_fewest_82 : decode cX9_fewest 82 = .ok (.iload_n 2, 1) := by decide +kernel
theorem dX9_fewest_83 : decode cX9_fewest 83 = .ok (.if_icmp .gt 5, 3) := by decide +kernel
theorem dX9_fewest_86 : decode cX9_fewest 86 = .ok (.iload_n 3, 1) := by decide +kernel
theorem dX9_fewest_87 : decode cX9_fewest 87 = .ok (.ireturn, 1) := by decide +kernel
theorem dX9_fewest_88 : decode cX9_fewest 88 = .ok (.iinc 3 1, 3) := by decide +kernel
theorem dX9_fewest_91 : decode cX9_fewest 91 = .ok (.goto (-53), 3) := by decide +kernel
theorem dX9_fewest_94 : decode cX9_fewest 94 = .ok (.bipush (-6), 2) := by decide +kernel
theorem dX9_fewest_96 : decode cX9_fewest 96 = .ok (.ireturn, 1) := by decide +kernel
theorem dX9_put_0 : decode cX9_put 0 = .ok (.aload_n 0, 1) := by decide +kernel
theorem dX9_put_1 : decode cX9_put 1 = .ok (.getfield 30, 3) := by decide +kernel
theorem dX9_put_4 : decode cX9_put 4 = .ok (.lload_n 1, 1) := by decide +kernel
theorem dX9_put_5 : decode cX9_put 5 = .ok (.invokevirtual 206, 3) := by decide +kernel
theorem dX9_put_8 : decode cX9_put 8 = .ok (.ireturn, 1) := by decide +kernel
theorem dX9_wipe_0 : decode cX9_wipe 0 = .ok (.aload_n 0, 1) := by decide +kernel
theorem dX9_wipe_1 : decode cX9_wipe 1 = .ok (.getfield 30, 3) := by decide +kernel
theorem dX9_wipe_4 : decode cX9_wipe 4 = .ok (.invokevirtual 210, 3) := by decide +kernel
theorem dX9_wipe_7 : decode cX9_wipe 7 = .ok (.ireturn, 1) := by decide +kernel
theorem dX9_fault_0 : decode cX9_fault 0 = .ok (.aload_n 0, 1) := by decide +kernel
theorem dX9_fault_1 : decode cX9_fault 1 = .ok (.getfield 39, 3) := by decide +kernel
theorem dX9_fault_4 : decode cX9_fault 4 = .ok (.invokevirtual 213, 3) := by decide +kernel
theorem dX9_fault_7 : decode cX9_fault 7 = .ok (.ireturn, 1) := by decide +kernel
theorem dX9_carryOut_0 : decode cX9_carryOut 0 = .ok (.aload_n 0, 1) := by decide +kernel
theorem dX9_carryOut_1 : decode cX9_carryOut 1 = .ok (.getfield 39, 3) := by decide +kernel
theorem dX9_carryOut_4 : decode cX9_carryOut 4 = .ok (.invokevirtual 213, 3) := by decide +kernel
theorem dX9_carryOut_7 : decode cX9_carryOut 7 = .ok (.bipush (-6), 2) := by decide +kernel
theorem dX9_carryOut_9 : decode cX9_carryOut 9 = .ok (.if_icmp .eq 6, 3) := by decide +kernel
theorem dX9_carryOut_12 : decode cX9_carryOut 12 = .ok (.bipush (-3), 2) := by decide +kernel
theorem dX9_carryOut_14 : decode cX9_carryOut 14 = .ok (.ireturn, 1) := by decide +kernel
theorem dX9_carryOut_15 : decode cX9_carryOut 15 = .ok (.aload_n 0, 1) := by decide +kernel
theorem dX9_carryOut_16 : decode cX9_carryOut 16 = .ok (.getfield 23, 3) := by decide +kernel
theorem dX9_carryOut_19 : decode cX9_carryOut 19 = .ok (.aload_n 0, 1) := by decide +kernel
theorem dX9_carryOut_20 : decode cX9_carryOut 20 = .ok (.getfield 12, 3) := by decide +kernel
theorem dX9_carryOut_23 : decode cX9_carryOut 23 = .ok (.invokevirtual 50, 3) := by decide +kernel
theorem dX9_carryOut_26 : decode cX9_carryOut 26 = .ok (.iconst 0, 1) := by decide +kernel
theorem dX9_carryOut_27 : decode cX9_carryOut 27 = .ok (.istore_n 1, 1) := by decide +kernel
theorem dX9_carryOut_28 : decode cX9_carryOut 28 = .ok (.aload_n 0, 1) := by decide +kernel
theorem dX9_carryOut_29 : decode cX9_carryOut 29 = .ok (.getfield 39, 3) := by decide +kernel
theorem dX9_carryOut_32 : decode cX9_carryOut 32 = .ok (.invokevirtual 216, 3) := by decide +kernel
theorem dX9_carryOut_35 : decode cX9_carryOut 35 = .ok (.iload_n 1, 1) := by decide +kernel
theorem dX9_carryOut_36 : decode cX9_carryOut 36 = .ok (.bipush 80, 2) := by decide +kernel
theorem dX9_carryOut_38 : decode cX9_carryOut 38 = .ok (.if_icmp .ge 36, 3) := by decide +kernel
theorem dX9_carryOut_41 : decode cX9_carryOut 41 = .ok (.aload_n 0, 1) := by decide +kernel
theorem dX9_carryOut_42 : decode cX9_carryOut 42 = .ok (.getfield 39, 3) := by decide +kernel
theorem dX9_carryOut_45 : decode cX9_carryOut 45 = .ok (.invokevirtual 219, 3) := by decide +kernel
theorem dX9_carryOut_48 : decode cX9_carryOut 48 = .ok (.ifCond .eq 26, 3) := by decide +kernel
theorem dX9_carryOut_51 : decode cX9_carryOut 51 = .ok (.aload_n 0, 1) := by decide +kernel
theorem dX9_carryOut_52 : decode cX9_carryOut 52 = .ok (.invokevirtual 222, 3) := by decide +kernel
theorem dX9_carryOut_55 : decode cX9_carryOut 55 = .ok (.ifCond .lt 19, 3) := by decide +kernel
theorem dX9_carryOut_58 : decode cX9_carryOut 58 = .ok (.iinc 1 1, 3) := by decide +kernel
theorem dX9_carryOut_61 : decode cX9_carryOut 61 = .ok (.aload_n 0, 1) := by decide +kernel
theorem dX9_carryOut_62 : decode cX9_carryOut 62 = .ok (.getfield 39, 3) := by decide +kernel
theorem dX9_carryOut_65 : decode cX9_carryOut 65 = .ok (.bipush 59, 2) := by decide +kernel
theorem dX9_carryOut_67 : decode cX9_carryOut 67 = .ok (.invokevirtual 225, 3) := by decide +kernel
theorem dX9_carryOut_70 : decode cX9_carryOut 70 = .ok (.pop, 1) := by decide +kernel
theorem dX9_carryOut_71 : decode cX9_carryOut 71 = .ok (.goto (-36), 3) := by decide +kernel
theorem dX9_carryOut_74 : decode cX9_carryOut 74 = .ok (.aload_n 0, 1) := by decide +kernel
theorem dX9_carryOut_75 : decode cX9_carryOut 75 = .ok (.getfield 30, 3) := by decide +kernel
theorem dX9_carryOut_78 : decode cX9_carryOut 78 = .ok (.invokevirtual 210, 3) := by decide +kernel
theorem dX9_carryOut_81 : decode cX9_carryOut 81 = .ok (.pop, 1) := by decide +kernel
theorem dX9_carryOut_82 : decode cX9_carryOut 82 = .ok (.aload_n 0, 1) := by decide +kernel
theorem dX9_carryOut_83 : decode cX9_carryOut 83 = .ok (.iload_n 1, 1) := by decide +kernel
theorem dX9_carryOut_84 : decode cX9_carryOut 84 = .ok (.invokevirtual 58, 3) := by decide +kernel
theorem dX9_carryOut_87 : decode cX9_carryOut 87 = .ok (.ireturn, 1) := by decide +kernel
theorem dX9_followOrder_0 : decode cX9_followOrder 0 = .ok (.aload_n 0, 1) := by decide +kernel
theorem dX9_followOrder_1 : decode cX9_followOrder 1 = .ok (.getfield 39, 3) := by decide +kernel
theorem dX9_followOrder_4 : decode cX9_followOrder 4 = .ok (.getfield 229, 3) := by decide +kernel
theorem dX9_followOrder_7 : decode cX9_followOrder 7 = .ok (.lookupswitch 157 #[(43, 57), (45, 86), (97, 101), (98, 109), (99, 125), (112, 141)], 57) := by decide +kernel
theorem dX9_followOrder_64 : decode cX9_followOrder 64 = .ok (.aload_n 0, 1) := by decide +kernel
theorem dX9_followOrder_65 : decode cX9_followOrder 65 = .ok (.getfield 12, 3) := by decide +kernel
theorem dX9_followOrder_68 : decode cX9_followOrder 68 = .ok (.aload_n 0, 1) := by decide +kernel
theorem dX9_followOrder_69 : decode cX9_followOrder 69 = .ok (.getfield 39, 3) := by decide +kernel
theorem dX9_followOrder_72 : decode cX9_followOrder 72 = .ok (.getfield 233, 3) := by decide +kernel
theorem dX9_followOrder_75 : decode cX9_followOrder 75 = .ok (.aload_n 0, 1) := by decide +kernel
theorem dX9_followOrder_76 : decode cX9_followOrder 76 = .ok (.getfield 39, 3) := by decide +kernel
theorem dX9_followOrder_79 : decode cX9_followOrder 79 = .ok (.getfield 236, 3) := by decide +kernel
theorem dX9_followOrder_82 : decode cX9_followOrder 82 = .ok (.aload_n 0, 1) := by decide +kernel
theorem dX9_followOrder_83 : decode cX9_followOrder 83 = .ok (.getfield 39, 3) := by decide +kernel
theorem dX9_followOrder_86 : decode cX9_followOrder 86 = .ok (.getfield 239, 3) := by decide +kernel
theorem dX9_followOrder_89 : decode cX9_followOrder 89 = .ok (.invokevirtual 242, 3) := by decide +kernel
theorem dX9_followOrder_92 : decode cX9_followOrder 92 = .ok (.ireturn, 1) := by decide +kernel
theorem dX9_followOrder_93 : decode cX9_followOrder 93 = .ok (.aload_n 0, 1) := by decide +kernel
theorem dX9_followOrder_94 : decode cX9_followOrder 94 = .ok (.getfield 12, 3) := by decide +kernel
theorem dX9_followOrder_97 : decode cX9_followOrder 97 = .ok (.aload_n 0, 1) := by decide +kernel
theorem dX9_followOrder_98 : decode cX9_followOrder 98 = .ok (.getfield 39, 3) := by decide +kernel
theorem dX9_followOrder_101 : decode cX9_followOrder 101 = .ok (.getfield 233, 3) := by decide +kernel
theorem dX9_followOrder_104 : decode cX9_followOrder 104 = .ok (.invokevirtual 65, 3) := by decide +kernel
theorem dX9_followOrder_107 : decode cX9_followOrder 107 = .ok (.ireturn, 1) := by decide +kernel
theorem dX9_followOrder_108 : decode cX9_followOrder 108 = .ok (.aload_n 0, 1) := by decide +kernel
theorem dX9_followOrder_109 : decode cX9_followOrder 109 = .ok (.getfield 12, 3) := by decide +kernel
theorem dX9_followOrder_112 : decode cX9_followOrder 112 = .ok (.invokevirtual 68, 3) := by decide +kernel
theorem dX9_followOrder_115 : decode cX9_followOrder 115 = .ok (.ireturn, 1) := by decide +kernel
theorem dX9_followOrder_116 : decode cX9_followOrder 116 = .ok (.aload_n 0, 1) := by decide +kernel
theorem dX9_followOrder_117 : decode cX9_followOrder 117 = .ok (.getfield 12, 3) := by decide +kernel
theorem dX9_followOrder_120 : decode cX9_followOrder 120 = .ok (.iconst 0, 1) := by decide +kernel
theorem dX9_followOrder_121 : decode cX9_followOrder 121 = .ok (.aload_n 0, 1) := by decide +kernel
theorem dX9_followOrder_122 : decode cX9_followOrder 122 = .ok (.getfield 39, 3) := by decide +kernel
theorem dX9_followOrder_125 : decode cX9_followOrder 125 = .ok (.getfield 233, 3) := by decide +kernel
theorem dX9_followOrder_128 : decode cX9_followOrder 128 = .ok (.invokevirtual 54, 3) := by decide +kernel
theorem dX9_followOrder_131 : decode cX9_followOrder 131 = .ok (.ireturn, 1) := by decide +kernel
theorem dX9_followOrder_132 : decode cX9_followOrder 132 = .ok (.aload_n 0, 1) := by decide +kernel
theorem dX9_followOrder_133 : decode cX9_followOrder 133 = .ok (.getfield 12, 3) := by decide +kernel
theorem dX9_followOrder_136 : decode cX9_followOrder 136 = .ok (.iconst 1, 1) := by decide +kernel
theorem dX9_followOrder_137 : decode cX9_followOrder 137 = .ok (.aload_n 0, 1) := by decide +kernel
theorem dX9_followOrder_138 : decode cX9_followOrder 138 = .ok (.getfield 39, 3) := by decide +kernel
theorem dX9_followOrder_141 : decode cX9_followOrder 141 = .ok (.getfield 233, 3) := by decide +kernel
theorem dX9_followOrder_144 : decode cX9_followOrder 144 = .ok (.invokevirtual 54, 3) := by decide +kernel
theorem dX9_followOrder_147 : decode cX9_followOrder 147 = .ok (.ireturn, 1) := by decide +kernel
theorem dX9_followOrder_148 : decode cX9_followOrder 148 = .ok (.aload_n 0, 1) := by decide +kernel
theorem dX9_followOrder_149 : decode cX9_followOrder 149 = .ok (.getfield 12, 3) := by decide +kernel
theorem dX9_followOrder_152 : decode cX9_followOrder 152 = .ok (.iconst 2, 1) := by decide +kernel
theorem dX9_followOrder_153 : decode cX9_followOrder 153 = .ok (.aload_n 0, 1) := by decide +kernel
theorem dX9_followOrder_154 : decode cX9_followOrder 154 = .ok (.getfield 39, 3) := by decide +kernel
theorem dX9_followOrder_157 : decode cX9_followOrder 157 = .ok (.getfield 233, 3) := by decide +kernel
theorem dX9_followOrder_160 : decode cX9_followOrder 160 = .ok (.invokevirtual 54, 3) := by decide +kernel
theorem dX9_followOrder_163 : decode cX9_followOrder 163 = .ok (.ireturn, 1) := by decide +kernel
theorem dX9_followOrder_164 : decode cX9_followOrder 164 = .ok (.bipush (-3), 2) := by decide +kernel
theorem dX9_followOrder_166 : decode cX9_followOrder 166 = .ok (.ireturn, 1) := by decide +kernel
theorem dX9_undo_0 : decode cX9_undo 0 = .ok (.aload_n 0, 1) := by decide +kernel
theorem dX9_undo_1 : decode cX9_undo 1 = .ok (.getfield 23, 3) := by decide +kernel
theorem dX9_undo_4 : decode cX9_undo 4 = .ok (.getfield 144, 3) := by decide +kernel
theorem dX9_undo_7 : decode cX9_undo 7 = .ok (.ifCond .ne 6, 3) := by decide +kernel
theorem dX9_undo_10 : decode cX9_undo 10 = .ok (.bipush (-5), 2) := by decide +kernel
theorem dX9_undo_12 : decode cX9_undo 12 = .ok (.ireturn, 1) := by decide +kernel
theorem dX9_undo_13 : decode cX9_undo 13 = .ok (.aload_n 0, 1) := by decide +kernel
theorem dX9_undo_14 : decode cX9_undo 14 = .ok (.getfield 23, 3) := by decide +kernel
theorem dX9_undo_17 : decode cX9_undo 17 = .ok (.aload_n 0, 1) := by decide +kernel
theorem dX9_undo_18 : decode cX9_undo 18 = .ok (.getfield 12, 3) := by decide +kernel
theorem dX9_undo_21 : decode cX9_undo 21 = .ok (.invokevirtual 245, 3) := by decide +kernel
theorem dX9_undo_24 : decode cX9_undo 24 = .ok (.aload_n 0, 1) := by decide +kernel
theorem dX9_undo_25 : decode cX9_undo 25 = .ok (.getfield 23, 3) := by decide +kernel
theorem dX9_undo_28 : decode cX9_undo 28 = .ok (.getfield 144, 3) := by decide +kernel
theorem dX9_undo_31 : decode cX9_undo 31 = .ok (.ireturn, 1) := by decide +kernel
theorem dX9_save_0 : decode cX9_save 0 = .ok (.iload_n 1, 1) := by decide +kernel
theorem dX9_save_1 : decode cX9_save 1 = .ok (.ifCond .lt 12, 3) := by decide +kernel
theorem dX9_save_4 : decode cX9_save 4 = .ok (.iload_n 1, 1) := by decide +kernel
theorem dX9_save_5 : decode cX9_save 5 = .ok (.aload_n 0, 1) := by decide +kernel
theorem dX9_save_6 : decode cX9_save 6 = .ok (.getfield 16, 3) := by decide +kernel
theorem dX9_save_9 : decode cX9_save 9 = .ok (.arraylength, 1) := by decide +kernel
theorem dX9_save_10 : decode cX9_save 10 = .ok (.if_icmp .lt 6, 3) := by decide +kernel
theorem dX9_save_13 : decode cX9_save 13 = .ok (.bipush (-2), 2) := by decide +kernel
theorem dX9_save_15 : decode cX9_save 15 = .ok (.ireturn, 1) := by decide +kernel
theorem dX9_save_16 : decode cX9_save 16 = .ok (.aload_n 0, 1) := by decide +kernel
theorem dX9_save_17 : decode cX9_save 17 = .ok (.getfield 16, 3) := by decide +kernel
theorem dX9_save_20 : decode cX9_save 20 = .ok (.iload_n 1, 1) := by decide +kernel
theorem dX9_save_21 : decode cX9_save 21 = .ok (.aaload, 1) := by decide +kernel
theorem dX9_save_22 : decode cX9_save 22 = .ok (.astore_n 2, 1) := by decide +kernel
theorem dX9_save_23 : decode cX9_save 23 = .ok (.aload_n 2, 1) := by decide +kernel
theorem dX9_save_24 : decode cX9_save 24 = .ok (.ifnonnull 18, 3) := by decide +kernel
theorem dX9_save_27 : decode cX9_save 27 = .ok (.new 9, 3) := by decide +kernel
theorem dX9_save_30 : decode cX9_save 30 = .ok (.dup, 1) := by decide +kernel
theorem dX9_save_31 : decode cX9_save 31 = .ok (.invokespecial 11, 3) := by decide +kernel
theorem dX9_save_34 : decode cX9_save 34 = .ok (.astore_n 2, 1) := by decide +kernel
theorem dX9_save_35 : decode cX9_save 35 = .ok (.aload_n 0, 1) := by decide +kernel
theorem dX9_save_36 : decode cX9_save 36 = .ok (.getfield 16, 3) := by decide +kernel
theorem dX9_save_39 : decode cX9_save 39 = .ok (.iload_n 1, 1) := by decide +kernel
theorem dX9_save_40 : decode cX9_save 40 = .ok (.aload_n 2, 1) := by decide +kernel
theorem dX9_save_41 : decode cX9_save 41 = .ok (.aastore, 1) := by decide +kernel
theorem dX9_save_42 : decode cX9_save 42 = .ok (.aload_n 2, 1) := by decide +kernel
theorem dX9_save_43 : decode cX9_save 43 = .ok (.aload_n 0, 1) := by decide +kernel
theorem dX9_save_44 : decode cX9_save 44 = .ok (.getfield 12, 3) := by decide +kernel
theorem dX9_save_47 : decode cX9_save 47 = .ok (.invokevirtual 248, 3) := by decide +kernel
theorem dX9_save_50 : decode cX9_save 50 = .ok (.aload_n 0, 1) := by decide +kernel
theorem dX9_save_51 : decode cX9_save 51 = .ok (.getfield 12, 3) := by decide +kernel
theorem dX9_save_54 : decode cX9_save 54 = .ok (.getfield 72, 3) := by decide +kernel
theorem dX9_save_57 : decode cX9_save 57 = .ok (.getfield 117, 3) := by decide +kernel
theorem dX9_save_60 : decode cX9_save 60 = .ok (.ireturn, 1) := by decide +kernel
theorem dX9_restore_0 : decode cX9_restore 0 = .ok (.iload_n 1, 1) := by decide +kernel
theorem dX9_restore_1 : decode cX9_restore 1 = .ok (.ifCond .lt 12, 3) := by decide +kernel
theorem dX9_restore_4 : decode cX9_restore 4 = .ok (.iload_n 1, 1) := by decide +kernel
theorem dX9_restore_5 : decode cX9_restore 5 = .ok (.aload_n 0, 1) := by decide +kernel
theorem dX9_restore_6 : decode cX9_restore 6 = .ok (.getfield 16, 3) := by decide +kernel
theorem dX9_restore_9 : decode cX9_restore 9 = .ok (.arraylength, 1) := by decide +kernel
theorem dX9_restore_10 : decode cX9_restore 10 = .ok (.if_icmp .lt 6, 3) := by decide +kernel
theorem dX9_restore_13 : decode cX9_restore 13 = .ok (.bipush (-2), 2) := by decide +kernel
theorem dX9_restore_15 : decode cX9_restore 15 = .ok (.ireturn, 1) := by decide +kernel
theorem dX9_restore_16 : decode cX9_restore 16 = .ok (.aload_n 0, 1) := by decide +kernel
theorem dX9_restore_17 : decode cX9_restore 17 = .ok (.getfield 16, 3) := by decide +kernel
theorem dX9_restore_20 : decode cX9_restore 20 = .ok (.iload_n 1, 1) := by decide +kernel
theorem dX9_restore_21 : decode cX9_restore 21 = .ok (.aaload, 1) := by decide +kernel
theorem dX9_restore_22 : decode cX9_restore 22 = .ok (.astore_n 2, 1) := by decide +kernel
theorem dX9_restore_23 : decode cX9_restore 23 = .ok (.aload_n 2, 1) := by decide +kernel
theorem dX9_restore_24 : decode cX9_restore 24 = .ok (.ifnonnull 6, 3) := by decide +kernel
theorem dX9_restore_27 : decode cX9_restore 27 = .ok (.bipush (-5), 2) := by decide +kernel
theorem dX9_restore_29 : decode cX9_restore 29 = .ok (.ireturn, 1) := by decide +kernel
theorem dX9_restore_30 : decode cX9_restore 30 = .ok (.aload_n 0, 1) := by decide +kernel
theorem dX9_restore_31 : decode cX9_restore 31 = .ok (.getfield 23, 3) := by decide +kernel
theorem dX9_restore_34 : decode cX9_restore 34 = .ok (.aload_n 0, 1) := by decide +kernel
theorem dX9_restore_35 : decode cX9_restore 35 = .ok (.getfield 12, 3) := by decide +kernel
theorem dX9_restore_38 : decode cX9_restore 38 = .ok (.invokevirtual 50, 3) := by decide +kernel
theorem dX9_restore_41 : decode cX9_restore 41 = .ok (.aload_n 0, 1) := by decide +kernel
theorem dX9_restore_42 : decode cX9_restore 42 = .ok (.getfield 12, 3) := by decide +kernel
theorem dX9_restore_45 : decode cX9_restore 45 = .ok (.aload_n 2, 1) := by decide +kernel
theorem dX9_restore_46 : decode cX9_restore 46 = .ok (.invokevirtual 248, 3) := by decide +kernel
theorem dX9_restore_49 : decode cX9_restore 49 = .ok (.aload_n 0, 1) := by decide +kernel
theorem dX9_restore_50 : decode cX9_restore 50 = .ok (.aload_n 0, 1) := by decide +kernel
theorem dX9_restore_51 : decode cX9_restore 51 = .ok (.getfield 12, 3) := by decide +kernel
theorem dX9_restore_54 : decode cX9_restore 54 = .ok (.getfield 72, 3) := by decide +kernel
theorem dX9_restore_57 : decode cX9_restore 57 = .ok (.getfield 117, 3) := by decide +kernel
theorem dX9_restore_60 : decode cX9_restore 60 = .ok (.invokevirtual 58, 3) := by decide +kernel
theorem dX9_restore_63 : decode cX9_restore 63 = .ok (.ireturn, 1) := by decide +kernel
theorem dX9_recorded_0 : decode cX9_recorded 0 = .ok (.iload_n 1, 1) := by decide +kernel
theorem dX9_recorded_1 : decode cX9_recorded 1 = .ok (.ifCond .lt 10, 3) := by decide +kernel
theorem dX9_recorded_4 : decode cX9_recorded 4 = .ok (.aload_n 0, 1) := by decide +kernel
theorem dX9_recorded_5 : decode cX9_recorded 5 = .ok (.getfield 23, 3) := by decide +kernel
theorem dX9_recorded_8 : decode cX9_recorded 8 = .ok (.invokevirtual 251, 3) := by decide +kernel
theorem dX9_recorded_11 : decode cX9_recorded 11 = .ok (.iload_n 1, 1) := by decide +kernel
theorem dX9_recorded_12 : decode cX9_recorded 12 = .ok (.ireturn, 1) := by decide +kernel
theorem dX9_isBetween_0 : decode cX9_isBetween 0 = .ok (.iload_n 1, 1) := by decide +kernel
theorem dX9_isBetween_1 : decode cX9_isBetween 1 = .ok (.iload_n 0, 1) := by decide +kernel
theorem dX9_isBetween_2 : decode cX9_isBetween 2 = .ok (.if_icmp .gt 12, 3) := by decide +kernel
theorem dX9_isBetween_5 : decode cX9_isBetween 5 = .ok (.iload_n 0, 1) := by decide +kernel
theorem dX9_isBetween_6 : decode cX9_isBetween 6 = .ok (.iload_n 2, 1) := by decide +kernel
theorem dX9_isBetween_7 : decode cX9_isBetween 7 = .ok (.if_icmp .gt 7, 3) := by decide +kernel
theorem dX9_isBetween_10 : decode cX9_isBetween 10 = .ok (.iconst 1, 1) := by decide +kernel
theorem dX9_isBetween_11 : decode cX9_isBetween 11 = .ok (.goto 4, 3) := by decide +kernel
theorem dX9_isBetween_14 : decode cX9_isBetween 14 = .ok (.iconst 0, 1) := by decide +kernel
theorem dX9_isBetween_15 : decode cX9_isBetween 15 = .ok (.ireturn, 1) := by decide +kernel
theorem dX9_isColumn_0 : decode cX9_isColumn 0 = .ok (.iload_n 0, 1) := by decide +kernel
theorem dX9_isColumn_1 : decode cX9_isColumn 1 = .ok (.ifCond .eq 8, 3) := by decide +kernel
theorem dX9_isColumn_4 : decode cX9_isColumn 4 = .ok (.iload_n 0, 1) := by decide +kernel
theorem dX9_isColumn_5 : decode cX9_isColumn 5 = .ok (.iconst 1, 1) := by decide +kernel
theorem dX9_isColumn_6 : decode cX9_isColumn 6 = .ok (.if_icmp .ne 7, 3) := by decide +kernel
theorem dX9_isColumn_9 : decode cX9_isColumn 9 = .ok (.iconst 1, 1) := by decide +kernel
theorem dX9_isColumn_10 : decode cX9_isColumn 10 = .ok (.goto 4, 3) := by decide +kernel
theorem dX9_isColumn_13 : decode cX9_isColumn 13 = .ok (.iconst 0, 1) := by decide +kernel
theorem dX9_isColumn_14 : decode cX9_isColumn 14 = .ok (.ireturn, 1) := by decide +kernel
theorem dX9_isValue_0 : decode cX9_isValue 0 = .ok (.iload_n 0, 1) := by decide +kernel
theorem dX9_isValue_1 : decode cX9_isValue 1 = .ok (.iconst 0, 1) := by decide +kernel
theorem dX9_isValue_2 : decode cX9_isValue 2 = .ok (.bipush 99, 2) := by decide +kernel
theorem dX9_isValue_4 : decode cX9_isValue 4 = .ok (.invokestatic 88, 3) := by decide +kernel
theorem dX9_isValue_7 : decode cX9_isValue 7 = .ok (.ireturn, 1) := by decide +kernel
theorem dX9_areBounds_0 : decode cX9_areBounds 0 = .ok (.iload_n 0, 1) := by decide +kernel
theorem dX9_areBounds_1 : decode cX9_areBounds 1 = .ok (.invokestatic 254, 3) := by decide +kernel
theorem dX9_areBounds_4 : decode cX9_areBounds 4 = .ok (.ifCond .eq 19, 3) := by decide +kernel
theorem dX9_areBounds_7 : decode cX9_areBounds 7 = .ok (.iload_n 1, 1) := by decide +kernel
theorem dX9_areBounds_8 : decode cX9_areBounds 8 = .ok (.invokestatic 254, 3) := by decide +kernel
theorem dX9_areBounds_11 : decode cX9_areBounds 11 = .ok (.ifCond .eq 12, 3) := by decide +kernel
theorem dX9_areBounds_14 : decode cX9_areBounds 14 = .ok (.iload_n 0, 1) := by decide +kernel
theorem dX9_areBounds_15 : decode cX9_areBounds 15 = .ok (.iload_n 1, 1) := by decide +kernel
theorem dX9_areBounds_16 : decode cX9_areBounds 16 = .ok (.if_icmp .gt 7, 3) := by decide +kernel
theorem dX9_areBounds_19 : decode cX9_areBounds 19 = .ok (.iconst 1, 1) := by decide +kernel
theorem dX9_areBounds_20 : decode cX9_areBounds 20 = .ok (.goto 4, 3) := by decide +kernel
theorem dX9_areBounds_23 : decode cX9_areBounds 23 = .ok (.iconst 0, 1) := by decide +kernel
theorem dX9_areBounds_24 : decode cX9_areBounds 24 = .ok (.ireturn, 1) := by decide +kernel
theorem dX9_copyNumbers_0 : decode cX9_copyNumbers 0 = .ok (.iconst 0, 1) := by decide +kernel
theorem dX9_copyNumbers_1 : decode cX9_copyNumbers 1 = .ok (.istore_n 2, 1) := by decide +kernel
theorem dX9_copyNumbers_2 : decode cX9_copyNumbers 2 = .ok (.iload_n 2, 1) := by decide +kernel
theorem dX9_copyNumbers_3 : decode cX9_copyNumbers 3 = .ok (.aload_n 0, 1) := by decide +kernel
theorem dX9_copyNumbers_4 : decode cX9_copyNumbers 4 = .ok (.arraylength, 1) := by decide +kernel
theorem dX9_copyNumbers_5 : decode cX9_copyNumbers 5 = .ok (.if_icmp .ge 21, 3) := by decide +kernel
theorem dX9_copyNumbers_8 : decode cX9_copyNumbers 8 = .ok (.iload_n 2, 1) := by decide +kernel
theorem dX9_copyNumbers_9 : decode cX9_copyNumbers 9 = .ok (.aload_n 1, 1) := by decide +kernel
theorem dX9_copyNumbers_10 : decode cX9_copyNumbers 10 = .ok (.arraylength, 1) := by decide +kernel
theorem dX9_copyNumbers_11 : decode cX9_copyNumbers 11 = .ok (.if_icmp .ge 15, 3) := by decide +kernel
theorem dX9_copyNumbers_14 : decode cX9_copyNumbers 14 = .ok (.aload_n 1, 1) := by decide +kernel
theorem dX9_copyNumbers_15 : decode cX9_copyNumbers 15 = .ok (.iload_n 2, 1) := by decide +kernel
theorem dX9_copyNumbers_16 : decode cX9_copyNumbers 16 = .ok (.aload_n 0, 1) := by decide +kernel
theorem dX9_copyNumbers_17 : decode cX9_copyNumbers 17 = .ok (.iload_n 2, 1) := by decide +kernel
theorem dX9_copyNumbers_18 : decode cX9_copyNumbers 18 = .ok (.iaload, 1) := by decide +kernel
theorem dX9_copyNumbers_19 : decode cX9_copyNumbers 19 = .ok (.iastore, 1) := by decide +kernel
theorem dX9_copyNumbers_20 : decode cX9_copyNumbers 20 = .ok (.iinc 2 1, 3) := by decide +kernel
theorem dX9_copyNumbers_23 : decode cX9_copyNumbers 23 = .ok (.goto (-21), 3) := by decide +kernel
theorem dX9_copyNumbers_26 : decode cX9_copyNumbers 26 = .ok (.return_, 1) := by decide +kernel
theorem dX10_init_0 : decode cX10_init 0 = .ok (.aload_n 0, 1) := by decide +kernel
theorem dX10_init_1 : decode cX10_init 1 = .ok (.invokespecial 1, 3) := by decide +kernel
theorem dX10_init_4 : decode cX10_init 4 = .ok (.aload_n 0, 1) := by decide +kernel
theorem dX10_init_5 : decode cX10_init 5 = .ok (.sipush 455, 3) := by decide +kernel
theorem dX10_init_8 : decode cX10_init 8 = .ok (.newarray .int, 2) := by decide +kernel
theorem dX10_init_10 : decode cX10_init 10 = .ok (.putfield 7, 3) := by decide +kernel
theorem dX10_init_13 : decode cX10_init 13 = .ok (.aload_n 0, 1) := by decide +kernel
theorem dX10_init_14 : decode cX10_init 14 = .ok (.sipush 455, 3) := by decide +kernel
theorem dX10_init_17 : decode cX10_init 17 = .ok (.newarray .int, 2) := by decide +kernel
theorem dX10_init_19 : decode cX10_init 19 = .ok (.putfield 13, 3) := by decide +kernel
theorem dX10_init_22 : decode cX10_init 22 = .ok (.aload_n 0, 1) := by decide +kernel
theorem dX10_init_23 : decode cX10_init 23 = .ok (.sipush 2730, 3) := by decide +kernel
theorem dX10_init_26 : decode cX10_init 26 = .ok (.newarray .int, 2) := by decide +kernel
theorem dX10_init_28 : decode cX10_init 28 = .ok (.putfield 16, 3) := by decide +kernel
theorem dX10_init_31 : decode cX10_init 31 = .ok (.aload_n 0, 1) := by decide +kernel
theorem dX10_init_32 : decode cX10_init 32 = .ok (.sipush 910, 3) := by decide +kernel
theorem dX10_init_35 : decode cX10_init 35 = .ok (.newarray .int, 2) := by decide +kernel
theorem dX10_init_37 : decode cX10_init 37 = .ok (.putfield 19, 3) := by decide +kernel
theorem dX10_init_40 : decode cX10_init 40 = .ok (.aload_n 0, 1) := by decide +kernel
theorem dX10_init_41 : decode cX10_init 41 = .ok (.iconst 2, 1) := by decide +kernel
theorem dX10_init_42 : decode cX10_init 42 = .ok (.newarray .boolean, 2) := by decide +kernel
theorem dX10_init_44 : decode cX10_init 44 = .ok (.putfield 22, 3) := by decide +kernel
theorem dX10_init_47 : decode cX10_init 47 = .ok (.aload_n 0, 1) := by decide +kernel
theorem dX10_init_48 : decode cX10_init 48 = .ok (.bipush 80, 2) := by decide +kernel
theorem dX10_init_50 : decode cX10_init 50 = .ok (.newarray .int, 2) := by decide +kernel
theorem dX10_init_52 : decode cX10_init 52 = .ok (.putfield 26, 3) := by decide +kernel
theorem dX10_init_55 : decode cX10_init 55 = .ok (.aload_n 0, 1) := by decide +kernel
theorem dX10_init_56 : decode cX10_init 56 = .ok (.sipush 164, 3) := by decide +kernel
theorem dX10_init_59 : decode cX10_init 59 = .ok (.newarray .int, 2) := by decide +kernel
theorem dX10_init_61 : decode cX10_init 61 = .ok (.putfield 29, 3) := by decide +kernel
theorem dX10_init_64 : decode cX10_init 64 = .ok (.aload_n 0, 1) := by decide +kernel
theorem dX10_init_65 : decode cX10_init 65 = .ok (.bipush 100, 2) := by decide +kernel
theorem dX10_init_67 : decode cX10_init 67 = .ok (.newarray .int, 2) := by decide +kernel
theorem dX10_init_69 : decode cX10_init 69 = .ok (.putfield 32, 3) := by decide +kernel
theorem dX10_init_72 : decode cX10_init 72 = .ok (.aload_n 0, 1) := by decide +kernel
theorem dX10_init_73 : decode cX10_init 73 = .ok (.getfield 7, 3) := by decide +kernel
theorem dX10_init_76 : decode cX10_init 76 = .ok (.iconst 4, 1) := by decide +kernel
theorem dX10_init_77 : decode cX10_init 77 = .ok (.iconst 4, 1) := by decide +kernel
theorem dX10_init_78 : decode cX10_init 78 = .ok (.iastore, 1) := by decide +kernel
theorem dX10_init_79 : decode cX10_init 79 = .ok (.aload_n 0, 1) := by decide +kernel
theorem dX10_init_80 : decode cX10_init 80 = .ok (.getfield 7, 3) := by decide +kernel
theorem dX10_init_83 : decode cX10_init 83 = .ok (.iconst 5, 1) := by decide +kernel
theorem dX10_init_84 : decode cX10_init 84 = .ok (.iconst 2, 1) := by decide +kernel
theorem dX10_init_85 : decode cX10_init 85 = .ok (.iastore, 1) := by decide +kernel
theorem dX10_init_86 : decode cX10_init 86 = .ok (.aload_n 0, 1) := by decide +kernel
theorem dX10_init_87 : decode cX10_init 87 = .ok (.getfield 7, 3) := by decide +kernel
theorem dX10_init_90 : decode cX10_init 90 = .ok (.bipush 6, 2) := by decide +kernel
theorem dX10_init_92 : decode cX10_init 92 = .ok (.iconst 2, 1) := by decide +kernel
theorem dX10_init_93 : decode cX10_init 93 = .ok (.iastore, 1) := by decide +kernel
theorem dX10_init_94 : decode cX10_init 94 = .ok (.aload_n 0, 1) := by decide +kernel
theorem dX10_init_95 : decode cX10_init 95 = .ok (.getfield 7, 3) := by decide +kernel
theorem dX10_init_98 : decode cX10_init 98 = .ok (.bipush 7, 2) := by decide +kernel
theorem dX10_init_100 : decode cX10_init 100 = .ok (.bipush 20, 2) := by decide +kernel
theorem dX10_init_102 : decode cX10_init 102 = .ok (.iastore, 1) := by decide +kernel
theorem dX10_init_103 : decode cX10_init 103 = .ok (.return_, 1) := by decide +kernel
theorem dX10_in_0 : decode cX10_in 0 = .ok (.iload_n 0, 1) := by decide +kernel
theorem dX10_in_1 : decode cX10_in 1 = .ok (.iload_n 1, 1) := by decide +kernel
theorem dX10_in_2 : decode cX10_in 2 = .ok (.if_icmp .lt 12, 3) := by decide +kernel
theorem dX10_in_5 : decode cX10_in 5 = .ok (.iload_n 0, 1) := by decide +kernel
theorem dX10_in_6 : decode cX10_in 6 = .ok (.iload_n 2, 1) := by decide +kernel
theorem dX10_in_7 : decode cX10_in 7 = .ok (.if_icmp .gt 7, 3) := by decide +kernel
theorem dX10_in_10 : decode cX10_in 10 = .ok (.iconst 1, 1) := by decide +kernel
theorem dX10_in_11 : decode cX10_in 11 = .ok (.goto 4, 3) := by decide +kernel
theorem dX10_in_14 : decode cX10_in 14 = .ok (.iconst 0, 1) := by decide +kernel
theorem dX10_in_15 : decode cX10_in 15 = .ok (.ireturn, 1) := by decide +kernel
theorem dX10_isValue_0 : decode cX10_isValue 0 = .ok (.iload_n 0, 1) := by decide +kernel
theorem dX10_isValue_1 : decode cX10_isValue 1 = .ok (.iconst 0, 1) := by decide +kernel
theorem dX10_isValue_2 : decode cX10_isValue 2 = .ok (.bipush 99, 2) := by decide +kernel
theorem dX10_isValue_4 : decode cX10_isValue 4 = .ok (.invokestatic 35, 3) := by decide +kernel
theorem dX10_isValue_7 : decode cX10_isValue 7 = .ok (.ireturn, 1) := by decide +kernel
theorem dX10_isColumn_0 : decode cX10_isColumn 0 = .ok (.iload_n 0, 1) := by decide +kernel
theorem dX10_isColumn_1 : decode cX10_isColumn 1 = .ok (.iconst 0, 1) := by decide +kernel
theorem dX10_isColumn_2 : decode cX10_isColumn 2 = .ok (.iconst 1, 1) := by decide +kernel
theorem dX10_isColumn_3 : decode cX10_isColumn 3 = .ok (.invokestatic 35, 3) := by decide +kernel
theorem dX10_isColumn_6 : decode cX10_isColumn 6 = .ok (.ireturn, 1) := by decide +kernel
theorem dX10_lays_0 : decode cX10_lays 0 = .ok (.iconst 0, 1) := by decide +kernel
theorem dX10_lays_1 : decode cX10_lays 1 = .ok (.istore 4, 2) := by decide +kernel
theorem dX10_lays_3 : decode cX10_lays 3 = .ok (.iload 4, 2) := by decide +kernel
theorem dX10_lays_5 : decode cX10_lays 5 = .ok (.sipush 455, 3) := by decide +kernel
theorem dX10_lays_8 : decode cX10_lays 8 = .ok (.if_icmp .ge 21, 3) := by decide +kernel
theorem dX10_lays_11 : decode cX10_lays 11 = .ok (.aload_n 2, 1) := by decide +kernel
theorem dX10_lays_12 : decode cX10_lays 12 = .ok (.iload_n 3, 1) := by decide +kernel
theorem dX10_lays_13 : decode cX10_lays 13 = .ok (.iload 4, 2) := by decide +kernel
theorem dX10_lays_15 : decode cX10_lays 15 = .ok (.iadd, 1) := by decide +kernel
theorem dX10_lays_16 : decode cX10_lays 16 = .ok (.aload_n 0, 1) := by decide +kernel
theorem dX10_lays_17 : decode cX10_lays 17 = .ok (.iload_n 1, 1) := by decide +kernel
theorem dX10_lays_18 : decode cX10_lays 18 = .ok (.iload 4, 2) := by decide +kernel
theorem dX10_lays_20 : decode cX10_lays 20 = .ok (.iadd, 1) := by decide +kernel
theorem dX10_lays_21 : decode cX10_lays 21 = .ok (.iaload, 1) := by decide +kernel
theorem dX10_lays_22 : decode cX10_lays 22 = .ok (.iastore, 1) := by decide +kernel
theorem dX10_lays_23 : decode cX10_lays 23 = .ok (.iinc 4 1, 3) := by decide +kernel
theorem dX10_lays_26 : decode cX10_lays 26 = .ok (.goto (-23), 3) := by decide +kernel
theorem dX10_lays_29 : decode cX10_lays 29 = .ok (.return_, 1) := by decide +kernel
theorem dX10_records_0 : decode cX10_records 0 = .ok (.aload_n 0, 1) := by decide +kernel
theorem dX10_records_1 : decode cX10_records 1 = .ok (.getfield 39, 3) := by decide +kernel
theorem dX10_records_4 : decode cX10_records 4 = .ok (.bipush 6, 2) := by decide +kernel
theorem dX10_records_6 : decode cX10_records 6 = .ok (.if_icmp .ne 44, 3) := by decide +kernel
theorem dX10_records_9 : decode cX10_records 9 = .ok (.iconst 0, 1) := by decide +kernel
theorem dX10_records_10 : decode cX10_records 10 = .ok (.istore_n 1, 1) := by decide +kernel
theorem dX10_records_11 : decode cX10_records 11 = .ok (.iload_n 1, 1) := by decide +kernel
theorem dX10_records_12 : decode cX10_records 12 = .ok (.sipush 2275, 3) := by decide +kernel
theorem dX10_records_15 : decode cX10_records 15 = .ok (.if_icmp .ge 25, 3) := by decide +kernel
theorem dX10_records_18 : decode cX10_records 18 = .ok (.aload_n 0, 1) := by decide +kernel
theorem dX10_records_19 : decode cX10_records 19 = .ok (.getfield 16, 3) := by decide +kernel
theorem dX10_records_22 : decode cX10_records 22 = .ok (.iload_n 1, 1) := by decide +kernel
theorem dX10_records_23 : decode cX10_records 23 = .ok (.aload_n 0, 1) := by decide +kernel
theorem dX10_records_24 : decode cX10_records 24 = .ok (.getfield 16, 3) := by decide +kernel
theorem dX10_records_27 : decode cX10_records 27 = .ok (.iload_n 1, 1) := by decide +kernel
theorem dX10_records_28 : decode cX10_records 28 = .ok (.sipush 455, 3) := by decide +kernel
theorem dX10_records_31 : decode cX10_records 31 = .ok (.iadd, 1) := by decide +kernel
theorem dX10_records_32 : decode cX10_records 32 = .ok (.iaload, 1) := by decide +kernel
theorem dX10_records_33 : decode cX10_records 33 = .ok (.iastore, 1) := by decide +kernel
theorem dX10_records_34 : decode cX10_records 34 = .ok (.iinc 1 1, 3) := by decide +kernel
theorem dX10_records_37 : decode cX10_records 37 = .ok (.goto (-26), 3) := by decide +kernel
theorem dX10_records_40 : decode cX10_records 40 = .ok (.aload_n 0, 1) := by decide +kernel
theorem dX10_records_41 : decode cX10_records 41 = .ok (.dup, 1) := by decide +kernel
theorem dX10_records_42 : decode cX10_records 42 = .ok (.getfield 39, 3) := by decide +kernel
theorem dX10_records_45 : decode cX10_records 45 = .ok (.iconst 1, 1) := by decide +kernel
theorem dX10_records_46 : decode cX10_records 46 = .ok (.isub, 1) := by decide +kernel
theorem dX10_records_47 : decode cX10_records 47 = .ok (.putfield 39, 3) := by decide +kernel
theorem dX10_records_50 : decode cX10_records 50 = .ok (.aload_n 0, 1) := by decide +kernel
theorem dX10_records_51 : decode cX10_records 51 = .ok (.getfield 7, 3) := by decide +kernel
theorem dX10_records_54 : decode cX10_records 54 = .ok (.iconst 0, 1) := by decide +kernel
theorem dX10_records_55 : decode cX10_records 55 = .ok (.aload_n 0, 1) := by decide +kernel
theorem dX10_records_56 : decode cX10_records 56 = .ok (.getfield 16, 3) := by decide +kernel
theorem dX10_records_59 : decode cX10_records 59 = .ok (.sipush 455, 3) := by decide +kernel
theorem dX10_records_62 : decode cX10_records 62 = .ok (.aload_n 0, 1) := by decide +kernel
theorem dX10_records_63 : decode cX10_records 63 = .ok (.getfield 39, 3) := by decide +kernel
theorem dX10_records_66 : decode cX10_records 66 = .ok (.imul, 1) := by decide +kernel
theorem dX10_records_67 : decode cX10_records 67 = .ok (.invokestatic 43, 3) := by decide +kernel
theorem dX10_records_70 : decode cX10_records 70 = .ok (.aload_n 0, 1) := by decide +kernel
theorem dX10_records_71 : decode cX10_records 71 = .ok (.dup, 1) := by decide +kernel
theorem dX10_records_72 : decode cX10_records 72 = .ok (.getfield 39, 3) := by decide +kernel
theorem dX10_records_75 : decode cX10_records 75 = .ok (.iconst 1, 1) := by decide +kernel
theorem dX10_records_76 : decode cX10_records 76 = .ok (.iadd, 1) := by decide +kernel
theorem dX10_records_77 : decode cX10_records 77 = .ok (.putfield 39, 3) := by decide +kernel
theorem dX10_records_80 : decode cX10_records 80 = .ok (.return_, 1) := by decide +kernel
theorem dX10_undo_0 : decode cX10_undo 0 = .ok (.aload_n 0, 1) := by decide +kernel
theorem dX10_undo_1 : decode cX10_undo 1 = .ok (.getfield 39, 3) := by decide +kernel
theorem dX10_undo_4 : decode cX10_undo 4 = .ok (.ifCond .ne 6, 3) := by decide +kernel
theorem dX10_undo_7 : decode cX10_undo 7 = .ok (.bipush (-5), 2) := by decide +kernel
theorem dX10_undo_9 : decode cX10_undo 9 = .ok (.ireturn, 1) := by decide +kernel
theorem dX10_undo_10 : decode cX10_undo 10 = .ok (.aload_n 0, 1) := by decide +kernel
theorem dX10_undo_11 : decode cX10_undo 11 = .ok (.dup, 1) := by decide +kernel
theorem dX10_undo_12 : decode cX10_undo 12 = .ok (.getfield 39, 3) := by decide +kernel
theorem dX10_undo_15 : decode cX10_undo 15 = .ok (.iconst 1, 1) := by decide +kernel
theorem dX10_undo_16 : decode cX10_undo 16 = .ok (.isub, 1) := by decide +kernel
theorem dX10_undo_17 : decode cX10_undo 17 = .ok (.putfield 39, 3) := by decide +kernel
theorem dX10_undo_20 : decode cX10_undo 20 = .ok (.aload_n 0, 1) := by decide +kernel
theorem dX10_undo_21 : decode cX10_undo 21 = .ok (.getfield 16, 3) := by decide +kernel
theorem dX10_undo_24 : decode cX10_undo 24 = .ok (.sipush 455, 3) := by decide +kernel
theorem dX10_undo_27 : decode cX10_undo 27 = .ok (.aload_n 0, 1) := by decide +kernel
theorem dX10_undo_28 : decode cX10_undo 28 = .ok (.getfield 39, 3) := by decide +kernel
theorem dX10_undo_31 : decode cX10_undo 31 = .ok (.imul, 1) := by decide +kernel
end
section
theorem dX10_undo_32 : decode cX10_undo 32 = .ok (.aload_n 0, 1) := by decide +kernel
theorem dX10_undo_33 : decode cX10_undo 33 = .ok (.getfield 7, 3) := by decide +kernel
theorem dX10_undo_36 : decode cX10_undo 36 = .ok (.iconst 0, 1) := by decide +kernel
theorem dX10_undo_37 : decode cX10_undo 37 = .ok (.invokestatic 43, 3) := by decide +kernel
theorem dX10_undo_40 : decode cX10_undo 40 = .ok (.aload_n 0, 1) := by decide +kernel
theorem dX10_undo_41 : decode cX10_undo 41 = .ok (.getfield 39, 3) := by decide +kernel
theorem dX10_undo_44 : decode cX10_undo 44 = .ok (.ireturn, 1) := by decide +kernel
theorem dX10_save_0 : decode cX10_save 0 = .ok (.iload_n 1, 1) := by decide +kernel
theorem dX10_save_1 : decode cX10_save 1 = .ok (.iconst 0, 1) := by decide +kernel
theorem dX10_save_2 : decode cX10_save 2 = .ok (.iconst 1, 1) := by decide +kernel
theorem dX10_save_3 : decode cX10_save 3 = .ok (.invokestatic 35, 3) := by decide +kernel
theorem dX10_save_6 : decode cX10_save 6 = .ok (.ifCond .ne 6, 3) := by decide +kernel
theorem dX10_save_9 : decode cX10_save 9 = .ok (.bipush (-2), 2) := by decide +kernel
theorem dX10_save_11 : decode cX10_save 11 = .ok (.ireturn, 1) := by decide +kernel
theorem dX10_save_12 : decode cX10_save 12 = .ok (.aload_n 0, 1) := by decide +kernel
theorem dX10_save_13 : decode cX10_save 13 = .ok (.getfield 7, 3) := by decide +kernel
theorem dX10_save_16 : decode cX10_save 16 = .ok (.iconst 0, 1) := by decide +kernel
theorem dX10_save_17 : decode cX10_save 17 = .ok (.aload_n 0, 1) := by decide +kernel
theorem dX10_save_18 : decode cX10_save 18 = .ok (.getfield 19, 3) := by decide +kernel
theorem dX10_save_21 : decode cX10_save 21 = .ok (.sipush 455, 3) := by decide +kernel
theorem dX10_save_24 : decode cX10_save 24 = .ok (.iload_n 1, 1) := by decide +kernel
theorem dX10_save_25 : decode cX10_save 25 = .ok (.imul, 1) := by decide +kernel
theorem dX10_save_26 : decode cX10_save 26 = .ok (.invokestatic 43, 3) := by decide +kernel
theorem dX10_save_29 : decode cX10_save 29 = .ok (.aload_n 0, 1) := by decide +kernel
theorem dX10_save_30 : decode cX10_save 30 = .ok (.getfield 22, 3) := by decide +kernel
theorem dX10_save_33 : decode cX10_save 33 = .ok (.iload_n 1, 1) := by decide +kernel
theorem dX10_save_34 : decode cX10_save 34 = .ok (.iconst 1, 1) := by decide +kernel
theorem dX10_save_35 : decode cX10_save 35 = .ok (.bastore, 1) := by decide +kernel
theorem dX10_save_36 : decode cX10_save 36 = .ok (.aload_n 0, 1) := by decide +kernel
theorem dX10_save_37 : decode cX10_save 37 = .ok (.getfield 7, 3) := by decide +kernel
theorem dX10_save_40 : decode cX10_save 40 = .ok (.iconst 0, 1) := by decide +kernel
theorem dX10_save_41 : decode cX10_save 41 = .ok (.iaload, 1) := by decide +kernel
theorem dX10_save_42 : decode cX10_save 42 = .ok (.ireturn, 1) := by decide +kernel
theorem dX10_restore_0 : decode cX10_restore 0 = .ok (.iload_n 1, 1) := by decide +kernel
theorem dX10_restore_1 : decode cX10_restore 1 = .ok (.iconst 0, 1) := by decide +kernel
theorem dX10_restore_2 : decode cX10_restore 2 = .ok (.iconst 1, 1) := by decide +kernel
theorem dX10_restore_3 : decode cX10_restore 3 = .ok (.invokestatic 35, 3) := by decide +kernel
theorem dX10_restore_6 : decode cX10_restore 6 = .ok (.ifCond .ne 6, 3) := by decide +kernel
theorem dX10_restore_9 : decode cX10_restore 9 = .ok (.bipush (-2), 2) := by decide +kernel
theorem dX10_restore_11 : decode cX10_restore 11 = .ok (.ireturn, 1) := by decide +kernel
theorem dX10_restore_12 : decode cX10_restore 12 = .ok (.aload_n 0, 1) := by decide +kernel
theorem dX10_restore_13 : decode cX10_restore 13 = .ok (.getfield 22, 3) := by decide +kernel
theorem dX10_restore_16 : decode cX10_restore 16 = .ok (.iload_n 1, 1) := by decide +kernel
theorem dX10_restore_17 : decode cX10_restore 17 = .ok (.baload, 1) := by decide +kernel
theorem dX10_restore_18 : decode cX10_restore 18 = .ok (.ifCond .ne 6, 3) := by decide +kernel
theorem dX10_restore_21 : decode cX10_restore 21 = .ok (.bipush (-5), 2) := by decide +kernel
theorem dX10_restore_23 : decode cX10_restore 23 = .ok (.ireturn, 1) := by decide +kernel
theorem dX10_restore_24 : decode cX10_restore 24 = .ok (.aload_n 0, 1) := by decide +kernel
theorem dX10_restore_25 : decode cX10_restore 25 = .ok (.invokevirtual 47, 3) := by decide +kernel
theorem dX10_restore_28 : decode cX10_restore 28 = .ok (.aload_n 0, 1) := by decide +kernel
theorem dX10_restore_29 : decode cX10_restore 29 = .ok (.getfield 19, 3) := by decide +kernel
theorem dX10_restore_32 : decode cX10_restore 32 = .ok (.sipush 455, 3) := by decide +kernel
theorem dX10_restore_35 : decode cX10_restore 35 = .ok (.iload_n 1, 1) := by decide +kernel
theorem dX10_restore_36 : decode cX10_restore 36 = .ok (.imul, 1) := by decide +kernel
theorem dX10_restore_37 : decode cX10_restore 37 = .ok (.aload_n 0, 1) := by decide +kernel
theorem dX10_restore_38 : decode cX10_restore 38 = .ok (.getfield 7, 3) := by decide +kernel
theorem dX10_restore_41 : decode cX10_restore 41 = .ok (.iconst 0, 1) := by decide +kernel
theorem dX10_restore_42 : decode cX10_restore 42 = .ok (.invokestatic 43, 3) := by decide +kernel
theorem dX10_restore_45 : decode cX10_restore 45 = .ok (.aload_n 0, 1) := by decide +kernel
theorem dX10_restore_46 : decode cX10_restore 46 = .ok (.getfield 7, 3) := by decide +kernel
theorem dX10_restore_49 : decode cX10_restore 49 = .ok (.iconst 0, 1) := by decide +kernel
theorem dX10_restore_50 : decode cX10_restore 50 = .ok (.iaload, 1) := by decide +kernel
theorem dX10_restore_51 : decode cX10_restore 51 = .ok (.ireturn, 1) := by decide +kernel
theorem dX10_of_0 : decode cX10_of 0 = .ok (.aload_n 0, 1) := by decide +kernel
theorem dX10_of_1 : decode cX10_of 1 = .ok (.bipush 8, 2) := by decide +kernel
theorem dX10_of_3 : decode cX10_of 3 = .ok (.iconst 2, 1) := by decide +kernel
theorem dX10_of_4 : decode cX10_of 4 = .ok (.iload_n 1, 1) := by decide +kernel
theorem dX10_of_5 : decode cX10_of 5 = .ok (.imul, 1) := by decide +kernel
theorem dX10_of_6 : decode cX10_of 6 = .ok (.iadd, 1) := by decide +kernel
theorem dX10_of_7 : decode cX10_of 7 = .ok (.iload_n 2, 1) := by decide +kernel
theorem dX10_of_8 : decode cX10_of 8 = .ok (.iadd, 1) := by decide +kernel
theorem dX10_of_9 : decode cX10_of 9 = .ok (.iaload, 1) := by decide +kernel
theorem dX10_of_10 : decode cX10_of 10 = .ok (.ireturn, 1) := by decide +kernel
theorem dX10_had_0 : decode cX10_had 0 = .ok (.aload_n 0, 1) := by decide +kernel
theorem dX10_had_1 : decode cX10_had 1 = .ok (.sipush 255, 3) := by decide +kernel
theorem dX10_had_4 : decode cX10_had 4 = .ok (.bipush 100, 2) := by decide +kernel
theorem dX10_had_6 : decode cX10_had 6 = .ok (.iload_n 1, 1) := by decide +kernel
theorem dX10_had_7 : decode cX10_had 7 = .ok (.imul, 1) := by decide +kernel
theorem dX10_had_8 : decode cX10_had 8 = .ok (.iadd, 1) := by decide +kernel
theorem dX10_had_9 : decode cX10_had 9 = .ok (.iload_n 2, 1) := by decide +kernel
theorem dX10_had_10 : decode cX10_had 10 = .ok (.iadd, 1) := by decide +kernel
theorem dX10_had_11 : decode cX10_had 11 = .ok (.iaload, 1) := by decide +kernel
theorem dX10_had_12 : decode cX10_had 12 = .ok (.ireturn, 1) := by decide +kernel
theorem dX10_chooses_0 : decode cX10_chooses 0 = .ok (.iconst 0, 1) := by decide +kernel
theorem dX10_chooses_1 : decode cX10_chooses 1 = .ok (.istore_n 3, 1) := by decide +kernel
theorem dX10_chooses_2 : decode cX10_chooses 2 = .ok (.iload_n 3, 1) := by decide +kernel
theorem dX10_chooses_3 : decode cX10_chooses 3 = .ok (.bipush 100, 2) := by decide +kernel
theorem dX10_chooses_5 : decode cX10_chooses 5 = .ok (.if_icmp .ge 21, 3) := by decide +kernel
theorem dX10_chooses_8 : decode cX10_chooses 8 = .ok (.aload_n 0, 1) := by decide +kernel
theorem dX10_chooses_9 : decode cX10_chooses 9 = .ok (.getfield 32, 3) := by decide +kernel
theorem dX10_chooses_12 : decode cX10_chooses 12 = .ok (.iload_n 3, 1) := by decide +kernel
theorem dX10_chooses_13 : decode cX10_chooses 13 = .ok (.aload_n 1, 1) := by decide +kernel
theorem dX10_chooses_14 : decode cX10_chooses 14 = .ok (.iload_n 2, 1) := by decide +kernel
theorem dX10_chooses_15 : decode cX10_chooses 15 = .ok (.iload_n 3, 1) := by decide +kernel
theorem dX10_chooses_16 : decode cX10_chooses 16 = .ok (.invokestatic 50, 3) := by decide +kernel
theorem dX10_chooses_19 : decode cX10_chooses 19 = .ok (.iastore, 1) := by decide +kernel
theorem dX10_chooses_20 : decode cX10_chooses 20 = .ok (.iinc 3 1, 3) := by decide +kernel
theorem dX10_chooses_23 : decode cX10_chooses 23 = .ok (.goto (-21), 3) := by decide +kernel
theorem dX10_chooses_26 : decode cX10_chooses 26 = .ok (.aload_n 1, 1) := by decide +kernel
theorem dX10_chooses_27 : decode cX10_chooses 27 = .ok (.sipush 210, 3) := by decide +kernel
theorem dX10_chooses_30 : decode cX10_chooses 30 = .ok (.iload_n 2, 1) := by decide +kernel
theorem dX10_chooses_31 : decode cX10_chooses 31 = .ok (.iadd, 1) := by decide +kernel
theorem dX10_chooses_32 : decode cX10_chooses 32 = .ok (.iconst 0, 1) := by decide +kernel
theorem dX10_chooses_33 : decode cX10_chooses 33 = .ok (.iastore, 1) := by decide +kernel
theorem dX10_chooses_34 : decode cX10_chooses 34 = .ok (.iconst 1, 1) := by decide +kernel
theorem dX10_chooses_35 : decode cX10_chooses 35 = .ok (.istore_n 3, 1) := by decide +kernel
theorem dX10_chooses_36 : decode cX10_chooses 36 = .ok (.iload_n 3, 1) := by decide +kernel
theorem dX10_chooses_37 : decode cX10_chooses 37 = .ok (.ifCond .eq 143, 3) := by decide +kernel
theorem dX10_chooses_40 : decode cX10_chooses 40 = .ok (.aload_n 1, 1) := by decide +kernel
theorem dX10_chooses_41 : decode cX10_chooses 41 = .ok (.sipush 210, 3) := by decide +kernel
theorem dX10_chooses_44 : decode cX10_chooses 44 = .ok (.iload_n 2, 1) := by decide +kernel
theorem dX10_chooses_45 : decode cX10_chooses 45 = .ok (.iadd, 1) := by decide +kernel
theorem dX10_chooses_46 : decode cX10_chooses 46 = .ok (.iaload, 1) := by decide +kernel
theorem dX10_chooses_47 : decode cX10_chooses 47 = .ok (.aload_n 1, 1) := by decide +kernel
theorem dX10_chooses_48 : decode cX10_chooses 48 = .ok (.iconst 5, 1) := by decide +kernel
theorem dX10_chooses_49 : decode cX10_chooses 49 = .ok (.iaload, 1) := by decide +kernel
theorem dX10_chooses_50 : decode cX10_chooses 50 = .ok (.if_icmp .ge 130, 3) := by decide +kernel
theorem dX10_chooses_53 : decode cX10_chooses 53 = .ok (.iconst 0, 1) := by decide +kernel
theorem dX10_chooses_54 : decode cX10_chooses 54 = .ok (.istore 4, 2) := by decide +kernel
theorem dX10_chooses_56 : decode cX10_chooses 56 = .ok (.iconst 1, 1) := by decide +kernel
theorem dX10_chooses_57 : decode cX10_chooses 57 = .ok (.istore 5, 2) := by decide +kernel
theorem dX10_chooses_59 : decode cX10_chooses 59 = .ok (.iload 5, 2) := by decide +kernel
theorem dX10_chooses_61 : decode cX10_chooses 61 = .ok (.bipush 100, 2) := by decide +kernel
theorem dX10_chooses_63 : decode cX10_chooses 63 = .ok (.if_icmp .ge 35, 3) := by decide +kernel
theorem dX10_chooses_66 : decode cX10_chooses 66 = .ok (.aload_n 0, 1) := by decide +kernel
theorem dX10_chooses_67 : decode cX10_chooses 67 = .ok (.getfield 32, 3) := by decide +kernel
theorem dX10_chooses_70 : decode cX10_chooses 70 = .ok (.iload 5, 2) := by decide +kernel
theorem dX10_chooses_72 : decode cX10_chooses 72 = .ok (.iaload, 1) := by decide +kernel
theorem dX10_chooses_73 : decode cX10_chooses 73 = .ok (.aload_n 0, 1) := by decide +kernel
theorem dX10_chooses_74 : decode cX10_chooses 74 = .ok (.getfield 32, 3) := by decide +kernel
theorem dX10_chooses_77 : decode cX10_chooses 77 = .ok (.iload 4, 2) := by decide +kernel
theorem dX10_chooses_79 : decode cX10_chooses 79 = .ok (.iaload, 1) := by decide +kernel
theorem dX10_chooses_80 : decode cX10_chooses 80 = .ok (.if_icmp .le 8, 3) := by decide +kernel
theorem dX10_chooses_83 : decode cX10_chooses 83 = .ok (.iload 5, 2) := by decide +kernel
theorem dX10_chooses_85 : decode cX10_chooses 85 = .ok (.goto 5, 3) := by decide +kernel
theorem dX10_chooses_88 : decode cX10_chooses 88 = .ok (.iload 4, 2) := by decide +kernel
theorem dX10_chooses_90 : decode cX10_chooses 90 = .ok (.istore 4, 2) := by decide +kernel
theorem dX10_chooses_92 : decode cX10_chooses 92 = .ok (.iinc 5 1, 3) := by decide +kernel
theorem dX10_chooses_95 : decode cX10_chooses 95 = .ok (.goto (-36), 3) := by decide +kernel
theorem dX10_chooses_98 : decode cX10_chooses 98 = .ok (.aload_n 0, 1) := by decide +kernel
theorem dX10_chooses_99 : decode cX10_chooses 99 = .ok (.getfield 32, 3) := by decide +kernel
theorem dX10_chooses_102 : decode cX10_chooses 102 = .ok (.iload 4, 2) := by decide +kernel
theorem dX10_chooses_104 : decode cX10_chooses 104 = .ok (.iaload, 1) := by decide +kernel
theorem dX10_chooses_105 : decode cX10_chooses 105 = .ok (.iconst 2, 1) := by decide +kernel
theorem dX10_chooses_106 : decode cX10_chooses 106 = .ok (.if_icmp .lt 7, 3) := by decide +kernel
theorem dX10_chooses_109 : decode cX10_chooses 109 = .ok (.iconst 1, 1) := by decide +kernel
theorem dX10_chooses_110 : decode cX10_chooses 110 = .ok (.goto 4, 3) := by decide +kernel
theorem dX10_chooses_113 : decode cX10_chooses 113 = .ok (.iconst 0, 1) := by decide +kernel
theorem dX10_chooses_114 : decode cX10_chooses 114 = .ok (.istore_n 3, 1) := by decide +kernel
theorem dX10_chooses_115 : decode cX10_chooses 115 = .ok (.iload_n 3, 1) := by decide +kernel
theorem dX10_chooses_116 : decode cX10_chooses 116 = .ok (.ifCond .eq 61, 3) := by decide +kernel
theorem dX10_chooses_119 : decode cX10_chooses 119 = .ok (.sipush 212, 3) := by decide +kernel
theorem dX10_chooses_122 : decode cX10_chooses 122 = .ok (.bipush 12, 2) := by decide +kernel
theorem dX10_chooses_124 : decode cX10_chooses 124 = .ok (.iload_n 2, 1) := by decide +kernel
theorem dX10_chooses_125 : decode cX10_chooses 125 = .ok (.imul, 1) := by decide +kernel
theorem dX10_chooses_126 : decode cX10_chooses 126 = .ok (.iadd, 1) := by decide +kernel
theorem dX10_chooses_127 : decode cX10_chooses 127 = .ok (.iconst 2, 1) := by decide +kernel
theorem dX10_chooses_128 : decode cX10_chooses 128 = .ok (.aload_n 1, 1) := by decide +kernel
theorem dX10_chooses_129 : decode cX10_chooses 129 = .ok (.sipush 210, 3) := by decide +kernel
theorem dX10_chooses_132 : decode cX10_chooses 132 = .ok (.iload_n 2, 1) := by decide +kernel
theorem dX10_chooses_133 : decode cX10_chooses 133 = .ok (.iadd, 1) := by decide +kernel
theorem dX10_chooses_134 : decode cX10_chooses 134 = .ok (.iaload, 1) := by decide +kernel
theorem dX10_chooses_135 : decode cX10_chooses 135 = .ok (.imul, 1) := by decide +kernel
theorem dX10_chooses_136 : decode cX10_chooses 136 = .ok (.iadd, 1) := by decide +kernel
theorem dX10_chooses_137 : decode cX10_chooses 137 = .ok (.istore 5, 2) := by decide +kernel
theorem dX10_chooses_139 : decode cX10_chooses 139 = .ok (.aload_n 1, 1) := by decide +kernel
theorem dX10_chooses_140 : decode cX10_chooses 140 = .ok (.iload 5, 2) := by decide +kernel
theorem dX10_chooses_142 : decode cX10_chooses 142 = .ok (.iload 4, 2) := by decide +kernel
theorem dX10_chooses_144 : decode cX10_chooses 144 = .ok (.iastore, 1) := by decide +kernel
theorem dX10_chooses_145 : decode cX10_chooses 145 = .ok (.aload_n 1, 1) := by decide +kernel
theorem dX10_chooses_146 : decode cX10_chooses 146 = .ok (.iload 5, 2) := by decide +kernel
theorem dX10_chooses_148 : decode cX10_chooses 148 = .ok (.iconst 1, 1) := by decide +kernel
theorem dX10_chooses_149 : decode cX10_chooses 149 = .ok (.iadd, 1) := by decide +kernel
theorem dX10_chooses_150 : decode cX10_chooses 150 = .ok (.aload_n 0, 1) := by decide +kernel
theorem dX10_chooses_151 : decode cX10_chooses 151 = .ok (.getfield 32, 3) := by decide +kernel
theorem dX10_chooses_154 : decode cX10_chooses 154 = .ok (.iload 4, 2) := by decide +kernel
theorem dX10_chooses_156 : decode cX10_chooses 156 = .ok (.iaload, 1) := by decide +kernel
theorem dX10_chooses_157 : decode cX10_chooses 157 = .ok (.iastore, 1) := by decide +kernel
theorem dX10_chooses_158 : decode cX10_chooses 158 = .ok (.aload_n 0, 1) := by decide +kernel
theorem dX10_chooses_159 : decode cX10_chooses 159 = .ok (.getfield 32, 3) := by decide +kernel
theorem dX10_chooses_162 : decode cX10_chooses 162 = .ok (.iload 4, 2) := by decide +kernel
theorem dX10_chooses_164 : decode cX10_chooses 164 = .ok (.iconst 0, 1) := by decide +kernel
theorem dX10_chooses_165 : decode cX10_chooses 165 = .ok (.iastore, 1) := by decide +kernel
theorem dX10_chooses_166 : decode cX10_chooses 166 = .ok (.aload_n 1, 1) := by decide +kernel
theorem dX10_chooses_167 : decode cX10_chooses 167 = .ok (.sipush 210, 3) := by decide +kernel
theorem dX10_chooses_170 : decode cX10_chooses 170 = .ok (.iload_n 2, 1) := by decide +kernel
theorem dX10_chooses_171 : decode cX10_chooses 171 = .ok (.iadd, 1) := by decide +kernel
theorem dX10_chooses_172 : decode cX10_chooses 172 = .ok (.dup2, 1) := by decide +kernel
theorem dX10_chooses_173 : decode cX10_chooses 173 = .ok (.iaload, 1) := by decide +kernel
theorem dX10_chooses_174 : decode cX10_chooses 174 = .ok (.iconst 1, 1) := by decide +kernel
theorem dX10_chooses_175 : decode cX10_chooses 175 = .ok (.iadd, 1) := by decide +kernel
theorem dX10_chooses_176 : decode cX10_chooses 176 = .ok (.iastore, 1) := by decide +kernel
theorem dX10_chooses_177 : decode cX10_chooses 177 = .ok (.goto (-141), 3) := by decide +kernel
theorem dX10_chooses_180 : decode cX10_chooses 180 = .ok (.return_, 1) := by decide +kernel
theorem dX10_cuts_0 : decode cX10_cuts 0 = .ok (.iconst 0, 1) := by decide +kernel
theorem dX10_cuts_1 : decode cX10_cuts 1 = .ok (.istore_n 3, 1) := by decide +kernel
theorem dX10_cuts_2 : decode cX10_cuts 2 = .ok (.iconst 0, 1) := by decide +kernel
theorem dX10_cuts_3 : decode cX10_cuts 3 = .ok (.istore 4, 2) := by decide +kernel
theorem dX10_cuts_5 : decode cX10_cuts 5 = .ok (.iload 4, 2) := by decide +kernel
theorem dX10_cuts_7 : decode cX10_cuts 7 = .ok (.bipush 100, 2) := by decide +kernel
theorem dX10_cuts_9 : decode cX10_cuts 9 = .ok (.if_icmp .ge 19, 3) := by decide +kernel
theorem dX10_cuts_12 : decode cX10_cuts 12 = .ok (.iload_n 3, 1) := by decide +kernel
theorem dX10_cuts_13 : decode cX10_cuts 13 = .ok (.aload_n 0, 1) := by decide +kernel
theorem dX10_cuts_14 : decode cX10_cuts 14 = .ok (.getfield 32, 3) := by decide +kernel
theorem dX10_cuts_17 : decode cX10_cuts 17 = .ok (.iload 4, 2) := by decide +kernel
theorem dX10_cuts_19 : decode cX10_cuts 19 = .ok (.iaload, 1) := by decide +kernel
theorem dX10_cuts_20 : decode cX10_cuts 20 = .ok (.iadd, 1) := by decide +kernel
theorem dX10_cuts_21 : decode cX10_cuts 21 = .ok (.istore_n 3, 1) := by decide +kernel
theorem dX10_cuts_22 : decode cX10_cuts 22 = .ok (.iinc 4 1, 3) := by decide +kernel
theorem dX10_cuts_25 : decode cX10_cuts 25 = .ok (.goto (-20), 3) := by decide +kernel
theorem dX10_cuts_28 : decode cX10_cuts 28 = .ok (.iload_n 3, 1) := by decide +kernel
theorem dX10_cuts_29 : decode cX10_cuts 29 = .ok (.aload_n 1, 1) := by decide +kernel
theorem dX10_cuts_30 : decode cX10_cuts 30 = .ok (.iconst 4, 1) := by decide +kernel
theorem dX10_cuts_31 : decode cX10_cuts 31 = .ok (.iaload, 1) := by decide +kernel
theorem dX10_cuts_32 : decode cX10_cuts 32 = .ok (.if_icmp .ge 7, 3) := by decide +kernel
theorem dX10_cuts_35 : decode cX10_cuts 35 = .ok (.iload_n 3, 1) := by decide +kernel
theorem dX10_cuts_36 : decode cX10_cuts 36 = .ok (.goto 6, 3) := by decide +kernel
theorem dX10_cuts_39 : decode cX10_cuts 39 = .ok (.aload_n 1, 1) := by decide +kernel
theorem dX10_cuts_40 : decode cX10_cuts 40 = .ok (.iconst 4, 1) := by decide +kernel
theorem dX10_cuts_41 : decode cX10_cuts 41 = .ok (.iaload, 1) := by decide +kernel
theorem dX10_cuts_42 : decode cX10_cuts 42 = .ok (.istore 4, 2) := by decide +kernel
theorem dX10_cuts_44 : decode cX10_cuts 44 = .ok (.aload_n 1, 1) := by decide +kernel
theorem dX10_cuts_45 : decode cX10_cuts 45 = .ok (.sipush 128, 3) := by decide +kernel
theorem dX10_cuts_48 : decode cX10_cuts 48 = .ok (.iload_n 2, 1) := by decide +kernel
theorem dX10_cuts_49 : decode cX10_cuts 49 = .ok (.iadd, 1) := by decide +kernel
theorem dX10_cuts_50 : decode cX10_cuts 50 = .ok (.iload 4, 2) := by decide +kernel
theorem dX10_cuts_52 : decode cX10_cuts 52 = .ok (.iastore, 1) := by decide +kernel
theorem dX10_cuts_53 : decode cX10_cuts 53 = .ok (.iconst 0, 1) := by decide +kernel
theorem dX10_cuts_54 : decode cX10_cuts 54 = .ok (.istore 5, 2) := by decide +kernel
theorem dX10_cuts_56 : decode cX10_cuts 56 = .ok (.iconst 0, 1) := by decide +kernel
theorem dX10_cuts_57 : decode cX10_cuts 57 = .ok (.istore 6, 2) := by decide +kernel
theorem dX10_cuts_59 : decode cX10_cuts 59 = .ok (.iload 6, 2) := by decide +kernel
theorem dX10_cuts_61 : decode cX10_cuts 61 = .ok (.iload 4, 2) := by decide +kernel
theorem dX10_cuts_63 : decode cX10_cuts 63 = .ok (.if_icmp .ge 184, 3) := by decide +kernel
theorem dX10_cuts_66 : decode cX10_cuts 66 = .ok (.sipush 130, 3) := by decide +kernel
theorem dX10_cuts_69 : decode cX10_cuts 69 = .ok (.bipush 40, 2) := by decide +kernel
theorem dX10_cuts_71 : decode cX10_cuts 71 = .ok (.iload_n 2, 1) := by decide +kernel
theorem dX10_cuts_72 : decode cX10_cuts 72 = .ok (.imul, 1) := by decide +kernel
theorem dX10_cuts_73 : decode cX10_cuts 73 = .ok (.iadd, 1) := by decide +kernel
theorem dX10_cuts_74 : decode cX10_cuts 74 = .ok (.iconst 4, 1) := by decide +kernel
theorem dX10_cuts_75 : decode cX10_cuts 75 = .ok (.iload 6, 2) := by decide +kernel
theorem dX10_cuts_77 : decode cX10_cuts 77 = .ok (.imul, 1) := by decide +kernel
theorem dX10_cuts_78 : decode cX10_cuts 78 = .ok (.iadd, 1) := by decide +kernel
theorem dX10_cuts_79 : decode cX10_cuts 79 = .ok (.istore 7, 2) := by decide +kernel
theorem dX10_cuts_81 : decode cX10_cuts 81 = .ok (.iload_n 3, 1) := by decide +kernel
theorem dX10_cuts_82 : decode cX10_cuts 82 = .ok (.iload 4, 2) := by decide +kernel
theorem dX10_cuts_84 : decode cX10_cuts 84 = .ok (.idiv, 1) := by decide +kernel
theorem dX10_cuts_85 : decode cX10_cuts 85 = .ok (.iload 6, 2) := by decide +kernel
theorem dX10_cuts_87 : decode cX10_cuts 87 = .ok (.iload_n 3, 1) := by decide +kernel
theorem dX10_cuts_88 : decode cX10_cuts 88 = .ok (.iload 4, 2) := by decide +kernel
theorem dX10_cuts_90 : decode cX10_cuts 90 = .ok (.irem, 1) := by decide +kernel
theorem dX10_cuts_91 : decode cX10_cuts 91 = .ok (.if_icmp .ge 7, 3) := by decide +kernel
theorem dX10_cuts_94 : decode cX10_cuts 94 = .ok (.iconst 1, 1) := by decide +kernel
theorem dX10_cuts_95 : decode cX10_cuts 95 = .ok (.goto 4, 3) := by decide +kernel
theorem dX10_cuts_98 : decode cX10_cuts 98 = .ok (.iconst 0, 1) := by decide +kernel
theorem dX10_cuts_99 : decode cX10_cuts 99 = .ok (.iadd, 1) := by decide +kernel
theorem dX10_cuts_100 : decode cX10_cuts 100 = .ok (.istore 8, 2) := by decide +kernel
theorem dX10_cuts_102 : decode cX10_cuts 102 = .ok (.aload_n 1, 1) := by decide +kernel
theorem dX10_cuts_103 : decode cX10_cuts 103 = .ok (.iload 7, 2) := by decide +kernel
theorem dX10_cuts_105 : decode cX10_cuts 105 = .ok (.bipush (-6), 2) := by decide +kernel
theorem dX10_cuts_107 : decode cX10_cuts 107 = .ok (.iastore, 1) := by decide +kernel
theorem dX10_cuts_108 : decode cX10_cuts 108 = .ok (.aload_n 1, 1) := by decide +kernel
theorem dX10_cuts_109 : decode cX10_cuts 109 = .ok (.iload 7, 2) := by decide +kernel
theorem dX10_cuts_111 : decode cX10_cuts 111 = .ok (.iconst 2, 1) := by decide +kernel
theorem dX10_cuts_112 : decode cX10_cuts 112 = .ok (.iadd, 1) := by decide +kernel
theorem dX10_cuts_113 : decode cX10_cuts 113 = .ok (.iload 8, 2) := by decide +kernel
theorem dX10_cuts_115 : decode cX10_cuts 115 = .ok (.iastore, 1) := by decide +kernel
theorem dX10_cuts_116 : decode cX10_cuts 116 = .ok (.aload_n 1, 1) := by decide +kernel
theorem dX10_cuts_117 : decode cX10_cuts 117 = .ok (.iload 7, 2) := by decide +kernel
theorem dX10_cuts_119 : decode cX10_cuts 119 = .ok (.iconst 3, 1) := by decide +kernel
theorem dX10_cuts_120 : decode cX10_cuts 120 = .ok (.iadd, 1) := by decide +kernel
theorem dX10_cuts_121 : decode cX10_cuts 121 = .ok (.iconst 0, 1) := by decide +kernel
theorem dX10_cuts_122 : decode cX10_cuts 122 = .ok (.iastore, 1) := by decide +kernel
theorem dX10_cuts_123 : decode cX10_cuts 123 = .ok (.iload 8, 2) := by decide +kernel
theorem dX10_cuts_125 : decode cX10_cuts 125 = .ok (.ifCond .le 116, 3) := by decide +kernel
theorem dX10_cuts_128 : decode cX10_cuts 128 = .ok (.aload_n 0, 1) := by decide +kernel
theorem dX10_cuts_129 : decode cX10_cuts 129 = .ok (.getfield 32, 3) := by decide +kernel
theorem dX10_cuts_132 : decode cX10_cuts 132 = .ok (.iload 5, 2) := by decide +kernel
theorem dX10_cuts_134 : decode cX10_cuts 134 = .ok (.iaload, 1) := by decide +kernel
theorem dX10_cuts_135 : decode cX10_cuts 135 = .ok (.iload 8, 2) := by decide +kernel
theorem dX10_cuts_137 : decode cX10_cuts 137 = .ok (.if_icmp .ge 13, 3) := by decide +kernel
theorem dX10_cuts_140 : decode cX10_cuts 140 = .ok (.aload_n 0, 1) := by decide +kernel
theorem dX10_cuts_141 : decode cX10_cuts 141 = .ok (.getfield 32, 3) := by decide +kernel
theorem dX10_cuts_144 : decode cX10_cuts 144 = .ok (.iload 5, 2) := by decide +kernel
theorem dX10_cuts_146 : decode cX10_cuts 146 = .ok (.iaload, 1) := by decide +kernel
theorem dX10_cuts_147 : decode cX10_cuts 147 = .ok (.goto 5, 3) := by decide +kernel
theorem dX10_cuts_150 : decode cX10_cuts 150 = .ok (.iload 8, 2) := by decide +kernel
theorem dX10_cuts_152 : decode cX10_cuts 152 = .ok (.istore 9, 2) := by decide +kernel
theorem dX10_cuts_154 : decode cX10_cuts 154 = .ok (.iload 9, 2) := by decide +kernel
theorem dX10_cuts_156 : decode cX10_cuts 156 = .ok (.ifCond .le 62, 3) := by decide +kernel
theorem dX10_cuts_159 : decode cX10_cuts 159 = .ok (.aload_n 1, 1) := by decide +kernel
theorem dX10_cuts_160 : decode cX10_cuts 160 = .ok (.iload 7, 2) := by decide +kernel
theorem dX10_cuts_162 : decode cX10_cuts 162 = .ok (.aload_n 1, 1) := by decide +kernel
theorem dX10_cuts_163 : decode cX10_cuts 163 = .ok (.iload 7, 2) := by decide +kernel
theorem dX10_cuts_165 : decode cX10_cuts 165 = .ok (.iaload, 1) := by decide +kernel
theorem dX10_cuts_166 : decode cX10_cuts 166 = .ok (.bipush (-6), 2) := by decide +kernel
theorem dX10_cuts_168 : decode cX10_cuts 168 = .ok (.if_icmp .ne 8, 3) := by decide +kernel
theorem dX10_cuts_171 : decode cX10_cuts 171 = .ok (.iload 5, 2) := by decide +kernel
theorem dX10_cuts_173 : decode cX10_cuts 173 = .ok (.goto 7, 3) := by decide +kernel
theorem dX10_cuts_176 : decode cX10_cuts 176 = .ok (.aload_n 1, 1) := by decide +kernel
theorem dX10_cuts_177 : decode cX10_cuts 177 = .ok (.iload 7, 2) := by decide +kernel
theorem dX10_cuts_179 : decode cX10_cuts 179 = .ok (.iaload, 1) := by decide +kernel
theorem dX10_cuts_180 : decode cX10_cuts 180 = .ok (.iastore, 1) := by decide +kernel
theorem dX10_cuts_181 : decode cX10_cuts 181 = .ok (.aload_n 1, 1) := by decide +kernel
theorem dX10_cuts_182 : decode cX10_cuts 182 = .ok (.iload 7, 2) := by decide +kernel
theorem dX10_cuts_184 : decode cX10_cuts 184 = .ok (.iconst 1, 1) := by decide +kernel
theorem dX10_cuts_185 : decode cX10_cuts 185 = .ok (.iadd, 1) := by decide +kernel
theorem dX10_cuts_186 : decode cX10_cuts 186 = .ok (.iload 5, 2) := by decide +kernel
theorem dX10_cuts_188 : decode cX10_cuts 188 = .ok (.iastore, 1) := by decide +kernel
theorem dX10_cuts_189 : decode cX10_cuts 189 = .ok (.aload_n 1, 1) := by decide +kernel
theorem dX10_cuts_190 : decode cX10_cuts 190 = .ok (.iload 7, 2) := by decide +kernel
theorem dX10_cuts_192 : decode cX10_cuts 192 = .ok (.iconst 3, 1) := by decide +kernel
theorem dX10_cuts_193 : decode cX10_cuts 193 = .ok (.iadd, 1) := by decide +kernel
theorem dX10_cuts_194 : decode cX10_cuts 194 = .ok (.dup2, 1) := by decide +kernel
theorem dX10_cuts_195 : decode cX10_cuts 195 = .ok (.iaload, 1) := by decide +kernel
theorem dX10_cuts_196 : decode cX10_cuts 196 = .ok (.iconst 1, 1) := by decide +kernel
theorem dX10_cuts_197 : decode cX10_cuts 197 = .ok (.iadd, 1) := by decide +kernel
theorem dX10_cuts_198 : decode cX10_cuts 198 = .ok (.iastore, 1) := by decide +kernel
theorem dX10_cuts_199 : decode cX10_cuts 199 = .ok (.aload_n 0, 1) := by decide +kernel
theorem dX10_cuts_200 : decode cX10_cuts 200 = .ok (.getfield 32, 3) := by decide +kernel
theorem dX10_cuts_203 : decode cX10_cuts 203 = .ok (.iload 5, 2) := by decide +kernel
theorem dX10_cuts_205 : decode cX10_cuts 205 = .ok (.dup2, 1) := by decide +kernel
theorem dX10_cuts_206 : decode cX10_cuts 206 = .ok (.iaload, 1) := by decide +kernel
theorem dX10_cuts_207 : decode cX10_cuts 207 = .ok (.iload 9, 2) := by decide +kernel
theorem dX10_cuts_209 : decode cX10_cuts 209 = .ok (.isub, 1) := by decide +kernel
theorem dX10_cuts_210 : decode cX10_cuts 210 = .ok (.iastore, 1) := by decide +kernel
theorem dX10_cuts_211 : decode cX10_cuts 211 = .ok (.iload 8, 2) := by decide +kernel
theorem dX10_cuts_213 : decode cX10_cuts 213 = .ok (.iload 9, 2) := by decide +kernel
theorem dX10_cuts_215 : decode cX10_cuts 215 = .ok (.isub, 1) := by decide +kernel
theorem dX10_cuts_216 : decode cX10_cuts 216 = .ok (.istore 8, 2) := by decide +kernel
theorem dX10_cuts_218 : decode cX10_cuts 218 = .ok (.iload 5, 2) := by decide +kernel
theorem dX10_cuts_220 : decode cX10_cuts 220 = .ok (.aload_n 0, 1) := by decide +kernel
theorem dX10_cuts_221 : decode cX10_cuts 221 = .ok (.getfield 32, 3) := by decide +kernel
theorem dX10_cuts_224 : decode cX10_cuts 224 = .ok (.iload 5, 2) := by decide +kernel
theorem dX10_cuts_226 : decode cX10_cuts 226 = .ok (.iaload, 1) := by decide +kernel
theorem dX10_cuts_227 : decode cX10_cuts 227 = .ok (.ifCond .ne 7, 3) := by decide +kernel
theorem dX10_cuts_230 : decode cX10_cuts 230 = .ok (.iconst 1, 1) := by decide +kernel
theorem dX10_cuts_231 : decode cX10_cuts 231 = .ok (.goto 4, 3) := by decide +kernel
theorem dX10_cuts_234 : decode cX10_cuts 234 = .ok (.iconst 0, 1) := by decide +kernel
theorem dX10_cuts_235 : decode cX10_cuts 235 = .ok (.iadd, 1) := by decide +kernel
theorem dX10_cuts_236 : decode cX10_cuts 236 = .ok (.istore 5, 2) := by decide +kernel
theorem dX10_cuts_238 : decode cX10_cuts 238 = .ok (.goto (-115), 3) := by decide +kernel
theorem dX10_cuts_241 : decode cX10_cuts 241 = .ok (.iinc 6 1, 3) := by decide +kernel
theorem dX10_cuts_244 : decode cX10_cuts 244 = .ok (.goto (-185), 3) := by decide +kernel
theorem dX10_cuts_247 : decode cX10_cuts 247 = .ok (.return_, 1) := by decide +kernel
theorem dX10_rowsWith_0 : decode cX10_rowsWith 0 = .ok (.iconst 0, 1) := by decide +kernel
theorem dX10_rowsWith_1 : decode cX10_rowsWith 1 = .ok (.istore_n 3, 1) := by decide +kernel
theorem dX10_rowsWith_2 : decode cX10_rowsWith 2 = .ok (.iconst 0, 1) := by decide +kernel
theorem dX10_rowsWith_3 : decode cX10_rowsWith 3 = .ok (.istore 4, 2) := by decide +kernel
theorem dX10_rowsWith_5 : decode cX10_rowsWith 5 = .ok (.iload 4, 2) := by decide +kernel
theorem dX10_rowsWith_7 : decode cX10_rowsWith 7 = .ok (.aload_n 0, 1) := by decide +kernel
theorem dX10_rowsWith_8 : decode cX10_rowsWith 8 = .ok (.iconst 0, 1) := by decide +kernel
theorem dX10_rowsWith_9 : decode cX10_rowsWith 9 = .ok (.iaload, 1) := by decide +kernel
theorem dX10_rowsWith_10 : decode cX10_rowsWith 10 = .ok (.if_icmp .ge 39, 3) := by decide +kernel
theorem dX10_rowsWith_13 : decode cX10_rowsWith 13 = .ok (.iload_n 3, 1) := by decide +kernel
theorem dX10_rowsWith_14 : decode cX10_rowsWith 14 = .ok (.aload_n 0, 1) := by decide +kernel
theorem dX10_rowsWith_15 : decode cX10_rowsWith 15 = .ok (.iload 4, 2) := by decide +kernel
theorem dX10_rowsWith_17 : decode cX10_rowsWith 17 = .ok (.iconst 0, 1) := by decide +kernel
theorem dX10_rowsWith_18 : decode cX10_rowsWith 18 = .ok (.invokestatic 54, 3) := by decide +kernel
theorem dX10_rowsWith_21 : decode cX10_rowsWith 21 = .ok (.iload_n 1, 1) := by decide +kernel
theorem dX10_rowsWith_22 : decode cX10_rowsWith 22 = .ok (.if_icmp .ne 18, 3) := by decide +kernel
theorem dX10_rowsWith_25 : decode cX10_rowsWith 25 = .ok (.aload_n 0, 1) := by decide +kernel
theorem dX10_rowsWith_26 : decode cX10_rowsWith 26 = .ok (.iload 4, 2) := by decide +kernel
theorem dX10_rowsWith_28 : decode cX10_rowsWith 28 = .ok (.iconst 1, 1) := by decide +kernel
theorem dX10_rowsWith_29 : decode cX10_rowsWith 29 = .ok (.invokestatic 54, 3) := by decide +kernel
theorem dX10_rowsWith_32 : decode cX10_rowsWith 32 = .ok (.iload_n 2, 1) := by decide +kernel
theorem dX10_rowsWith_33 : decode cX10_rowsWith 33 = .ok (.if_icmp .ne 7, 3) := by decide +kernel
theorem dX10_rowsWith_36 : decode cX10_rowsWith 36 = .ok (.iconst 1, 1) := by decide +kernel
theorem dX10_rowsWith_37 : decode cX10_rowsWith 37 = .ok (.goto 4, 3) := by decide +kernel
theorem dX10_rowsWith_40 : decode cX10_rowsWith 40 = .ok (.iconst 0, 1) := by decide +kernel
theorem dX10_rowsWith_41 : decode cX10_rowsWith 41 = .ok (.iadd, 1) := by decide +kernel
theorem dX10_rowsWith_42 : decode cX10_rowsWith 42 = .ok (.istore_n 3, 1) := by decide +kernel
theorem dX10_rowsWith_43 : decode cX10_rowsWith 43 = .ok (.iinc 4 1, 3) := by decide +kernel
theorem dX10_rowsWith_46 : decode cX10_rowsWith 46 = .ok (.goto (-41), 3) := by decide +kernel
theorem dX10_rowsWith_49 : decode cX10_rowsWith 49 = .ok (.iload_n 3, 1) := by decide +kernel
theorem dX10_rowsWith_50 : decode cX10_rowsWith 50 = .ok (.ireturn, 1) := by decide +kernel
theorem dX10_isPaired_0 : decode cX10_isPaired 0 = .ok (.iconst 0, 1) := by decide +kernel
theorem dX10_isPaired_1 : decode cX10_isPaired 1 = .ok (.istore_n 3, 1) := by decide +kernel
theorem dX10_isPaired_2 : decode cX10_isPaired 2 = .ok (.iload_n 3, 1) := by decide +kernel
theorem dX10_isPaired_3 : decode cX10_isPaired 3 = .ok (.aload_n 0, 1) := by decide +kernel
theorem dX10_isPaired_4 : decode cX10_isPaired 4 = .ok (.sipush 236, 3) := by decide +kernel
theorem dX10_isPaired_7 : decode cX10_isPaired 7 = .ok (.iaload, 1) := by decide +kernel
theorem dX10_isPaired_8 : decode cX10_isPaired 8 = .ok (.if_icmp .ge 39, 3) := by decide +kernel
theorem dX10_isPaired_11 : decode cX10_isPaired 11 = .ok (.aload_n 0, 1) := by decide +kernel
theorem dX10_isPaired_12 : decode cX10_isPaired 12 = .ok (.sipush 237, 3) := by decide +kernel
theorem dX10_isPaired_15 : decode cX10_isPaired 15 = .ok (.iconst 3, 1) := by decide +kernel
theorem dX10_isPaired_16 : decode cX10_isPaired 16 = .ok (.iload_n 3, 1) := by decide +kernel
theorem dX10_isPaired_17 : decode cX10_isPaired 17 = .ok (.imul, 1) := by decide +kernel
theorem dX10_isPaired_18 : decode cX10_isPaired 18 = .ok (.iadd, 1) := by decide +kernel
theorem dX10_isPaired_19 : decode cX10_isPaired 19 = .ok (.iaload, 1) := by decide +kernel
theorem dX10_isPaired_20 : decode cX10_isPaired 20 = .ok (.iload_n 1, 1) := by decide +kernel
theorem dX10_isPaired_21 : decode cX10_isPaired 21 = .ok (.if_icmp .ne 20, 3) := by decide +kernel
theorem dX10_isPaired_24 : decode cX10_isPaired 24 = .ok (.aload_n 0, 1) := by decide +kernel
theorem dX10_isPaired_25 : decode cX10_isPaired 25 = .ok (.sipush 237, 3) := by decide +kernel
theorem dX10_isPaired_28 : decode cX10_isPaired 28 = .ok (.iconst 3, 1) := by decide +kernel
theorem dX10_isPaired_29 : decode cX10_isPaired 29 = .ok (.iload_n 3, 1) := by decide +kernel
theorem dX10_isPaired_30 : decode cX10_isPaired 30 = .ok (.imul, 1) := by decide +kernel
theorem dX10_isPaired_31 : decode cX10_isPaired 31 = .ok (.iadd, 1) := by decide +kernel
theorem dX10_isPaired_32 : decode cX10_isPaired 32 = .ok (.iconst 1, 1) := by decide +kernel
theorem dX10_isPaired_33 : decode cX10_isPaired 33 = .ok (.iadd, 1) := by decide +kernel
theorem dX10_isPaired_34 : decode cX10_isPaired 34 = .ok (.iaload, 1) := by decide +kernel
theorem dX10_isPaired_35 : decode cX10_isPaired 35 = .ok (.iload_n 2, 1) := by decide +kernel
theorem dX10_isPaired_36 : decode cX10_isPaired 36 = .ok (.if_icmp .ne 5, 3) := by decide +kernel
theorem dX10_isPaired_39 : decode cX10_isPaired 39 = .ok (.iconst 1, 1) := by decide +kernel
theorem dX10_isPaired_40 : decode cX10_isPaired 40 = .ok (.ireturn, 1) := by decide +kernel
theorem dX10_isPaired_41 : decode cX10_isPaired 41 = .ok (.iinc 3 1, 3) := by decide +kernel
theorem dX10_isPaired_44 : decode cX10_isPaired 44 = .ok (.goto (-42), 3) := by decide +kernel
theorem dX10_isPaired_47 : decode cX10_isPaired 47 = .ok (.iconst 0, 1) := by decide +kernel
theorem dX10_isPaired_48 : decode cX10_isPaired 48 = .ok (.ireturn, 1) := by decide +kernel
theorem dX10_pairs_0 : decode cX10_pairs 0 = .ok (.aload_n 0, 1) := by decide +kernel
theorem dX10_pairs_1 : decode cX10_pairs 1 = .ok (.sipush 236, 3) := by decide +kernel
theorem dX10_pairs_4 : decode cX10_pairs 4 = .ok (.iconst 0, 1) := by decide +kernel
theorem dX10_pairs_5 : decode cX10_pairs 5 = .ok (.iastore, 1) := by decide +kernel
theorem dX10_pairs_6 : decode cX10_pairs 6 = .ok (.iconst 1, 1) := by decide +kernel
theorem dX10_pairs_7 : decode cX10_pairs 7 = .ok (.istore_n 1, 1) := by decide +kernel
theorem dX10_pairs_8 : decode cX10_pairs 8 = .ok (.iload_n 1, 1) := by decide +kernel
theorem dX10_pairs_9 : decode cX10_pairs 9 = .ok (.ifCond .eq 217, 3) := by decide +kernel
theorem dX10_pairs_12 : decode cX10_pairs 12 = .ok (.aload_n 0, 1) := by decide +kernel
theorem dX10_pairs_13 : decode cX10_pairs 13 = .ok (.sipush 236, 3) := by decide +kernel
theorem dX10_pairs_16 : decode cX10_pairs 16 = .ok (.iaload, 1) := by decide +kernel
theorem dX10_pairs_17 : decode cX10_pairs 17 = .ok (.aload_n 0, 1) := by decide +kernel
theorem dX10_pairs_18 : decode cX10_pairs 18 = .ok (.bipush 6, 2) := by decide +kernel
theorem dX10_pairs_20 : decode cX10_pairs 20 = .ok (.iaload, 1) := by decide +kernel
theorem dX10_pairs_21 : decode cX10_pairs 21 = .ok (.if_icmp .ge 205, 3) := by decide +kernel
theorem dX10_pairs_24 : decode cX10_pairs 24 = .ok (.iconst 1, 1) := by decide +kernel
theorem dX10_pairs_25 : decode cX10_pairs 25 = .ok (.istore_n 2, 1) := by decide +kernel
theorem dX10_pairs_26 : decode cX10_pairs 26 = .ok (.iconst 0, 1) := by decide +kernel
theorem dX10_pairs_27 : decode cX10_pairs 27 = .ok (.istore_n 3, 1) := by decide +kernel
theorem dX10_pairs_28 : decode cX10_pairs 28 = .ok (.iconst 0, 1) := by decide +kernel
theorem dX10_pairs_29 : decode cX10_pairs 29 = .ok (.istore 4, 2) := by decide +kernel
theorem dX10_pairs_31 : decode cX10_pairs 31 = .ok (.iload 4, 2) := by decide +kernel
theorem dX10_pairs_33 : decode cX10_pairs 33 = .ok (.aload_n 0, 1) := by decide +kernel
theorem dX10_pairs_34 : decode cX10_pairs 34 = .ok (.iconst 0, 1) := by decide +kernel
theorem dX10_pairs_35 : decode cX10_pairs 35 = .ok (.iaload, 1) := by decide +kernel
theorem dX10_pairs_36 : decode cX10_pairs 36 = .ok (.if_icmp .ge 125, 3) := by decide +kernel
theorem dX10_pairs_39 : decode cX10_pairs 39 = .ok (.aload_n 0, 1) := by decide +kernel
theorem dX10_pairs_40 : decode cX10_pairs 40 = .ok (.aload_n 0, 1) := by decide +kernel
theorem dX10_pairs_41 : decode cX10_pairs 41 = .ok (.iload 4, 2) := by decide +kernel
theorem dX10_pairs_43 : decode cX10_pairs 43 = .ok (.iconst 0, 1) := by decide +kernel
theorem dX10_pairs_44 : decode cX10_pairs 44 = .ok (.invokestatic 54, 3) := by decide +kernel
theorem dX10_pairs_47 : decode cX10_pairs 47 = .ok (.aload_n 0, 1) := by decide +kernel
theorem dX10_pairs_48 : decode cX10_pairs 48 = .ok (.iload 4, 2) := by decide +kernel
theorem dX10_pairs_50 : decode cX10_pairs 50 = .ok (.iconst 1, 1) := by decide +kernel
theorem dX10_pairs_51 : decode cX10_pairs 51 = .ok (.invokestatic 54, 3) := by decide +kernel
theorem dX10_pairs_54 : decode cX10_pairs 54 = .ok (.invokestatic 57, 3) := by decide +kernel
theorem dX10_pairs_57 : decode cX10_pairs 57 = .ok (.istore 5, 2) := by decide +kernel
theorem dX10_pairs_59 : decode cX10_pairs 59 = .ok (.bipush 100, 2) := by decide +kernel
theorem dX10_pairs_61 : decode cX10_pairs 61 = .ok (.aload_n 0, 1) := by decide +kernel
theorem dX10_pairs_62 : decode cX10_pairs 62 = .ok (.iload 4, 2) := by decide +kernel
theorem dX10_pairs_64 : decode cX10_pairs 64 = .ok (.iconst 0, 1) := by decide +kernel
theorem dX10_pairs_65 : decode cX10_pairs 65 = .ok (.invokestatic 54, 3) := by decide +kernel
theorem dX10_pairs_68 : decode cX10_pairs 68 = .ok (.imul, 1) := by decide +kernel
theorem dX10_pairs_69 : decode cX10_pairs 69 = .ok (.aload_n 0, 1) := by decide +kernel
theorem dX10_pairs_70 : decode cX10_pairs 70 = .ok (.iload 4, 2) := by decide +kernel
theorem dX10_pairs_72 : decode cX10_pairs 72 = .ok (.iconst 1, 1) := by decide +kernel
theorem dX10_pairs_73 : decode cX10_pairs 73 = .ok (.invokestatic 54, 3) := by decide +kernel
theorem dX10_pairs_76 : decode cX10_pairs 76 = .ok (.iadd, 1) := by decide +kernel
theorem dX10_pairs_77 : decode cX10_pairs 77 = .ok (.istore 6, 2) := by decide +kernel
theorem dX10_pairs_79 : decode cX10_pairs 79 = .ok (.aload_n 0, 1) := by decide +kernel
theorem dX10_pairs_80 : decode cX10_pairs 80 = .ok (.aload_n 0, 1) := by decide +kernel
theorem dX10_pairs_81 : decode cX10_pairs 81 = .ok (.iload 4, 2) := by decide +kernel
theorem dX10_pairs_83 : decode cX10_pairs 83 = .ok (.iconst 0, 1) := by decide +kernel
theorem dX10_pairs_84 : decode cX10_pairs 84 = .ok (.invokestatic 54, 3) := by decide +kernel
theorem dX10_pairs_87 : decode cX10_pairs 87 = .ok (.aload_n 0, 1) := by decide +kernel
theorem dX10_pairs_88 : decode cX10_pairs 88 = .ok (.iload 4, 2) := by decide +kernel
theorem dX10_pairs_90 : decode cX10_pairs 90 = .ok (.iconst 1, 1) := by decide +kernel
theorem dX10_pairs_91 : decode cX10_pairs 91 = .ok (.invokestatic 54, 3) := by decide +kernel
theorem dX10_pairs_94 : decode cX10_pairs 94 = .ok (.invokestatic 60, 3) := by decide +kernel
theorem dX10_pairs_97 : decode cX10_pairs 97 = .ok (.ifCond .ne 31, 3) := by decide +kernel
theorem dX10_pairs_100 : decode cX10_pairs 100 = .ok (.iload 5, 2) := by decide +kernel
theorem dX10_pairs_102 : decode cX10_pairs 102 = .ok (.iload_n 2, 1) := by decide +kernel
theorem dX10_pairs_103 : decode cX10_pairs 103 = .ok (.if_icmp .gt 21, 3) := by decide +kernel
theorem dX10_pairs_106 : decode cX10_pairs 106 = .ok (.iload 5, 2) := by decide +kernel
theorem dX10_pairs_108 : decode cX10_pairs 108 = .ok (.iload_n 2, 1) := by decide +kernel
theorem dX10_pairs_109 : decode cX10_pairs 109 = .ok (.if_icmp .ne 19, 3) := by decide +kernel
theorem dX10_pairs_112 : decode cX10_pairs 112 = .ok (.iload 5, 2) := by decide +kernel
theorem dX10_pairs_114 : decode cX10_pairs 114 = .ok (.iconst 1, 1) := by decide +kernel
theorem dX10_pairs_115 : decode cX10_pairs 115 = .ok (.if_icmp .le 13, 3) := by decide +kernel
theorem dX10_pairs_118 : decode cX10_pairs 118 = .ok (.iload 6, 2) := by decide +kernel
theorem dX10_pairs_120 : decode cX10_pairs 120 = .ok (.iload_n 3, 1) := by decide +kernel
theorem dX10_pairs_121 : decode cX10_pairs 121 = .ok (.if_icmp .ge 7, 3) := by decide +kernel
theorem dX10_pairs_124 : decode cX10_pairs 124 = .ok (.iconst 1, 1) := by decide +kernel
theorem dX10_pairs_125 : decode cX10_pairs 125 = .ok (.goto 4, 3) := by decide +kernel
theorem dX10_pairs_128 : decode cX10_pairs 128 = .ok (.iconst 0, 1) := by decide +kernel
theorem dX10_pairs_129 : decode cX10_pairs 129 = .ok (.istore 7, 2) := by decide +kernel
theorem dX10_pairs_131 : decode cX10_pairs 131 = .ok (.iload 7, 2) := by decide +kernel
theorem dX10_pairs_133 : decode cX10_pairs 133 = .ok (.ifCond .eq 8, 3) := by decide +kernel
theorem dX10_pairs_136 : decode cX10_pairs 136 = .ok (.iload 6, 2) := by decide +kernel
theorem dX10_pairs_138 : decode cX10_pairs 138 = .ok (.goto 4, 3) := by decide +kernel
theorem dX10_pairs_141 : decode cX10_pairs 141 = .ok (.iload_n 3, 1) := by decide +kernel
theorem dX10_pairs_142 : decode cX10_pairs 142 = .ok (.istore_n 3, 1) := by decide +kernel
theorem dX10_pairs_143 : decode cX10_pairs 143 = .ok (.iload 7, 2) := by decide +kernel
theorem dX10_pairs_145 : decode cX10_pairs 145 = .ok (.ifCond .eq 8, 3) := by decide +kernel
theorem dX10_pairs_148 : decode cX10_pairs 148 = .ok (.iload 5, 2) := by decide +kernel
theorem dX10_pairs_150 : decode cX10_pairs 150 = .ok (.goto 4, 3) := by decide +kernel
theorem dX10_pairs_153 : decode cX10_pairs 153 = .ok (.iload_n 2, 1) := by decide +kernel
theorem dX10_pairs_154 : decode cX10_pairs 154 = .ok (.istore_n 2, 1) := by decide +kernel
theorem dX10_pairs_155 : decode cX10_pairs 155 = .ok (.iinc 4 1, 3) := by decide +kernel
theorem dX10_pairs_158 : decode cX10_pairs 158 = .ok (.goto (-127), 3) := by decide +kernel
theorem dX10_pairs_161 : decode cX10_pairs 161 = .ok (.iload_n 2, 1) := by decide +kernel
theorem dX10_pairs_162 : decode cX10_pairs 162 = .ok (.iconst 1, 1) := by decide +kernel
theorem dX10_pairs_163 : decode cX10_pairs 163 = .ok (.if_icmp .le 7, 3) := by decide +kernel
theorem dX10_pairs_166 : decode cX10_pairs 166 = .ok (.iconst 1, 1) := by decide +kernel
theorem dX10_pairs_167 : decode cX10_pairs 167 = .ok (.goto 4, 3) := by decide +kernel
theorem dX10_pairs_170 : decode cX10_pairs 170 = .ok (.iconst 0, 1) := by decide +kernel
theorem dX10_pairs_171 : decode cX10_pairs 171 = .ok (.istore_n 1, 1) := by decide +kernel
theorem dX10_pairs_172 : decode cX10_pairs 172 = .ok (.iload_n 1, 1) := by decide +kernel
theorem dX10_pairs_173 : decode cX10_pairs 173 = .ok (.ifCond .eq 50, 3) := by decide +kernel
theorem dX10_pairs_176 : decode cX10_pairs 176 = .ok (.sipush 237, 3) := by decide +kernel
theorem dX10_pairs_179 : decode cX10_pairs 179 = .ok (.iconst 3, 1) := by decide +kernel
theorem dX10_pairs_180 : decode cX10_pairs 180 = .ok (.aload_n 0, 1) := by decide +kernel
theorem dX10_pairs_181 : decode cX10_pairs 181 = .ok (.sipush 236, 3) := by decide +kernel
theorem dX10_pairs_184 : decode cX10_pairs 184 = .ok (.iaload, 1) := by decide +kernel
theorem dX10_pairs_185 : decode cX10_pairs 185 = .ok (.imul, 1) := by decide +kernel
theorem dX10_pairs_186 : decode cX10_pairs 186 = .ok (.iadd, 1) := by decide +kernel
theorem dX10_pairs_187 : decode cX10_pairs 187 = .ok (.istore 4, 2) := by decide +kernel
theorem dX10_pairs_189 : decode cX10_pairs 189 = .ok (.aload_n 0, 1) := by decide +kernel
theorem dX10_pairs_190 : decode cX10_pairs 190 = .ok (.iload 4, 2) := by decide +kernel
theorem dX10_pairs_192 : decode cX10_pairs 192 = .ok (.iload_n 3, 1) := by decide +kernel
theorem dX10_pairs_193 : decode cX10_pairs 193 = .ok (.bipush 100, 2) := by decide +kernel
theorem dX10_pairs_195 : decode cX10_pairs 195 = .ok (.idiv, 1) := by decide +kernel
theorem dX10_pairs_196 : decode cX10_pairs 196 = .ok (.iastore, 1) := by decide +kernel
theorem dX10_pairs_197 : decode cX10_pairs 197 = .ok (.aload_n 0, 1) := by decide +kernel
theorem dX10_pairs_198 : decode cX10_pairs 198 = .ok (.iload 4, 2) := by decide +kernel
theorem dX10_pairs_200 : decode cX10_pairs 200 = .ok (.iconst 1, 1) := by decide +kernel
theorem dX10_pairs_201 : decode cX10_pairs 201 = .ok (.iadd, 1) := by decide +kernel
theorem dX10_pairs_202 : decode cX10_pairs 202 = .ok (.iload_n 3, 1) := by decide +kernel
theorem dX10_pairs_203 : decode cX10_pairs 203 = .ok (.bipush 100, 2) := by decide +kernel
theorem dX10_pairs_205 : decode cX10_pairs 205 = .ok (.irem, 1) := by decide +kernel
theorem dX10_pairs_206 : decode cX10_pairs 206 = .ok (.iastore, 1) := by decide +kernel
theorem dX10_pairs_207 : decode cX10_pairs 207 = .ok (.aload_n 0, 1) := by decide +kernel
theorem dX10_pairs_208 : decode cX10_pairs 208 = .ok (.iload 4, 2) := by decide +kernel
theorem dX10_pairs_210 : decode cX10_pairs 210 = .ok (.iconst 2, 1) := by decide +kernel
theorem dX10_pairs_211 : decode cX10_pairs 211 = .ok (.iadd, 1) := by decide +kernel
theorem dX10_pairs_212 : decode cX10_pairs 212 = .ok (.iload_n 2, 1) := by decide +kernel
theorem dX10_pairs_213 : decode cX10_pairs 213 = .ok (.iastore, 1) := by decide +kernel
theorem dX10_pairs_214 : decode cX10_pairs 214 = .ok (.aload_n 0, 1) := by decide +kernel
theorem dX10_pairs_215 : decode cX10_pairs 215 = .ok (.sipush 236, 3) := by decide +kernel
theorem dX10_pairs_218 : decode cX10_pairs 218 = .ok (.dup2, 1) := by decide +kernel
theorem dX10_pairs_219 : decode cX10_pairs 219 = .ok (.iaload, 1) := by decide +kernel
theorem dX10_pairs_220 : decode cX10_pairs 220 = .ok (.iconst 1, 1) := by decide +kernel
theorem dX10_pairs_221 : decode cX10_pairs 221 = .ok (.iadd, 1) := by decide +kernel
theorem dX10_pairs_222 : decode cX10_pairs 222 = .ok (.iastore, 1) := by decide +kernel
theorem dX10_pairs_223 : decode cX10_pairs 223 = .ok (.goto (-215), 3) := by decide +kernel
theorem dX10_pairs_226 : decode cX10_pairs 226 = .ok (.return_, 1) := by decide +kernel
theorem dX10_analyses_0 : decode cX10_analyses 0 = .ok (.iconst 0, 1) := by decide +kernel
theorem dX10_analyses_1 : decode cX10_analyses 1 = .ok (.istore_n 2, 1) := by decide +kernel
theorem dX10_analyses_2 : decode cX10_analyses 2 = .ok (.iload_n 2, 1) := by decide +kernel
theorem dX10_analyses_3 : decode cX10_analyses 3 = .ok (.sipush 200, 3) := by decide +kernel
theorem dX10_analyses_6 : decode cX10_analyses 6 = .ok (.if_icmp .ge 17, 3) := by decide +kernel
theorem dX10_analyses_9 : decode cX10_analyses 9 = .ok (.aload_n 1, 1) := by decide +kernel
theorem dX10_analyses_10 : decode cX10_analyses 10 = .ok (.sipush 255, 3) := by decide +kernel
theorem dX10_analyses_13 : decode cX10_analyses 13 = .ok (.iload_n 2, 1) := by decide +kernel
theorem dX10_analyses_14 : decode cX10_analyses 14 = .ok (.iadd, 1) := by decide +kernel
theorem dX10_analyses_15 : decode cX10_analyses 15 = .ok (.iconst 0, 1) := by decide +kernel
theorem dX10_analyses_16 : decode cX10_analyses 16 = .ok (.iastore, 1) := by decide +kernel
theorem dX10_analyses_17 : decode cX10_analyses 17 = .ok (.iinc 2 1, 3) := by decide +kernel
theorem dX10_analyses_20 : decode cX10_analyses 20 = .ok (.goto (-18), 3) := by decide +kernel
theorem dX10_analyses_23 : decode cX10_analyses 23 = .ok (.iconst 0, 1) := by decide +kernel
theorem dX10_analyses_24 : decode cX10_analyses 24 = .ok (.istore_n 2, 1) := by decide +kernel
theorem dX10_analyses_25 : decode cX10_analyses 25 = .ok (.iload_n 2, 1) := by decide +kernel
theorem dX10_analyses_26 : decode cX10_analyses 26 = .ok (.aload_n 1, 1) := by decide +kernel
theorem dX10_analyses_27 : decode cX10_analyses 27 = .ok (.iconst 0, 1) := by decide +kernel
theorem dX10_analyses_28 : decode cX10_analyses 28 = .ok (.iaload, 1) := by decide +kernel
theorem dX10_analyses_29 : decode cX10_analyses 29 = .ok (.if_icmp .ge 41, 3) := by decide +kernel
theorem dX10_analyses_32 : decode cX10_analyses 32 = .ok (.aload_n 1, 1) := by decide +kernel
theorem dX10_analyses_33 : decode cX10_analyses 33 = .ok (.sipush 255, 3) := by decide +kernel
theorem dX10_analyses_36 : decode cX10_analyses 36 = .ok (.aload_n 1, 1) := by decide +kernel
theorem dX10_analyses_37 : decode cX10_analyses 37 = .ok (.iload_n 2, 1) := by decide +kernel
theorem dX10_analyses_38 : decode cX10_analyses 38 = .ok (.iconst 0, 1) := by decide +kernel
theorem dX10_analyses_39 : decode cX10_analyses 39 = .ok (.invokestatic 54, 3) := by decide +kernel
theorem dX10_analyses_42 : decode cX10_analyses 42 = .ok (.iadd, 1) := by decide +kernel
theorem dX10_analyses_43 : decode cX10_analyses 43 = .ok (.dup2, 1) := by decide +kernel
theorem dX10_analyses_44 : decode cX10_analyses 44 = .ok (.iaload, 1) := by decide +kernel
theorem dX10_analyses_45 : decode cX10_analyses 45 = .ok (.iconst 1, 1) := by decide +kernel
theorem dX10_analyses_46 : decode cX10_analyses 46 = .ok (.iadd, 1) := by decide +kernel
theorem dX10_analyses_47 : decode cX10_analyses 47 = .ok (.iastore, 1) := by decide +kernel
theorem dX10_analyses_48 : decode cX10_analyses 48 = .ok (.aload_n 1, 1) := by decide +kernel
theorem dX10_analyses_49 : decode cX10_analyses 49 = .ok (.sipush 355, 3) := by decide +kernel
theorem dX10_analyses_52 : decode cX10_analyses 52 = .ok (.aload_n 1, 1) := by decide +kernel
theorem dX10_analyses_53 : decode cX10_analyses 53 = .ok (.iload_n 2, 1) := by decide +kernel
theorem dX10_analyses_54 : decode cX10_analyses 54 = .ok (.iconst 1, 1) := by decide +kernel
theorem dX10_analyses_55 : decode cX10_analyses 55 = .ok (.invokestatic 54, 3) := by decide +kernel
theorem dX10_analyses_58 : decode cX10_analyses 58 = .ok (.iadd, 1) := by decide +kernel
theorem dX10_analyses_59 : decode cX10_analyses 59 = .ok (.dup2, 1) := by decide +kernel
theorem dX10_analyses_60 : decode cX10_analyses 60 = .ok (.iaload, 1) := by decide +kernel
theorem dX10_analyses_61 : decode cX10_analyses 61 = .ok (.iconst 1, 1) := by decide +kernel
theorem dX10_analyses_62 : decode cX10_analyses 62 = .ok (.iadd, 1) := by decide +kernel
theorem dX10_analyses_63 : decode cX10_analyses 63 = .ok (.iastore, 1) := by decide +kernel
theorem dX10_analyses_64 : decode cX10_analyses 64 = .ok (.iinc 2 1, 3) := by decide +kernel
theorem dX10_analyses_67 : decode cX10_analyses 67 = .ok (.goto (-42), 3) := by decide +kernel
theorem dX10_analyses_70 : decode cX10_analyses 70 = .ok (.iconst 0, 1) := by decide +kernel
theorem dX10_analyses_71 : decode cX10_analyses 71 = .ok (.istore_n 2, 1) := by decide +kernel
theorem dX10_analyses_72 : decode cX10_analyses 72 = .ok (.iload_n 2, 1) := by decide +kernel
theorem dX10_analyses_73 : decode cX10_analyses 73 = .ok (.iconst 2, 1) := by decide +kernel
theorem dX10_analyses_74 : decode cX10_analyses 74 = .ok (.if_icmp .ge 21, 3) := by decide +kernel
theorem dX10_analyses_77 : decode cX10_analyses 77 = .ok (.aload_n 0, 1) := by decide +kernel
theorem dX10_analyses_78 : decode cX10_analyses 78 = .ok (.aload_n 1, 1) := by decide +kernel
theorem dX10_analyses_79 : decode cX10_analyses 79 = .ok (.iload_n 2, 1) := by decide +kernel
theorem dX10_analyses_80 : decode cX10_analyses 80 = .ok (.invokevirtual 64, 3) := by decide +kernel
theorem dX10_analyses_83 : decode cX10_analyses 83 = .ok (.aload_n 0, 1) := by decide +kernel
theorem dX10_analyses_84 : decode cX10_analyses 84 = .ok (.aload_n 1, 1) := by decide +kernel
theorem dX10_analyses_85 : decode cX10_analyses 85 = .ok (.iload_n 2, 1) := by decide +kernel
theorem dX10_analyses_86 : decode cX10_analyses 86 = .ok (.invokevirtual 68, 3) := by decide +kernel
theorem dX10_analyses_89 : decode cX10_analyses 89 = .ok (.iinc 2 1, 3) := by decide +kernel
theorem dX10_analyses_92 : decode cX10_analyses 92 = .ok (.goto (-20), 3) := by decide +kernel
theorem dX10_analyses_95 : decode cX10_analyses 95 = .ok (.aload_n 1, 1) := by decide +kernel
theorem dX10_analyses_96 : decode cX10_analyses 96 = .ok (.invokestatic 71, 3) := by decide +kernel
theorem dX10_analyses_99 : decode cX10_analyses 99 = .ok (.aload_n 1, 1) := by decide +kernel
theorem dX10_analyses_100 : decode cX10_analyses 100 = .ok (.iconst 1, 1) := by decide +kernel
theorem dX10_analyses_101 : decode cX10_analyses 101 = .ok (.iconst 1, 1) := by decide +kernel
theorem dX10_analyses_102 : decode cX10_analyses 102 = .ok (.iastore, 1) := by decide +kernel
theorem dX10_analyses_103 : decode cX10_analyses 103 = .ok (.aload_n 1, 1) := by decide +kernel
theorem dX10_analyses_104 : decode cX10_analyses 104 = .ok (.iconst 2, 1) := by decide +kernel
theorem dX10_analyses_105 : decode cX10_analyses 105 = .ok (.aload_n 1, 1) := by decide +kernel
theorem dX10_analyses_106 : decode cX10_analyses 106 = .ok (.iconst 0, 1) := by decide +kernel
theorem dX10_analyses_107 : decode cX10_analyses 107 = .ok (.iaload, 1) := by decide +kernel
theorem dX10_analyses_108 : decode cX10_analyses 108 = .ok (.iastore, 1) := by decide +kernel
theorem dX10_analyses_109 : decode cX10_analyses 109 = .ok (.aload_n 1, 1) := by decide +kernel
theorem dX10_analyses_110 : decode cX10_analyses 110 = .ok (.iconst 3, 1) := by decide +kernel
theorem dX10_analyses_111 : decode cX10_analyses 111 = .ok (.iconst 0, 1) := by decide +kernel
theorem dX10_analyses_112 : decode cX10_analyses 112 = .ok (.iastore, 1) := by decide +kernel
theorem dX10_analyses_113 : decode cX10_analyses 113 = .ok (.return_, 1) := by decide +kernel
theorem dX10_estimated_0 : decode cX10_estimated 0 = .ok (.iconst 0, 1) := by decide +kernel
theorem dX10_estimated_1 : decode cX10_estimated 1 = .ok (.istore 5, 2) := by decide +kernel
theorem dX10_estimated_3 : decode cX10_estimated 3 = .ok (.iconst 0, 1) := by decide +kernel
theorem dX10_estimated_4 : decode cX10_estimated 4 = .ok (.istore 6, 2) := by decide +kernel
theorem dX10_estimated_6 : decode cX10_estimated 6 = .ok (.iload 6, 2) := by decide +kernel
theorem dX10_estimated_8 : decode cX10_estimated 8 = .ok (.aload_n 0, 1) := by decide +kernel
theorem dX10_estimated_9 : decode cX10_estimated 9 = .ok (.sipush 210, 3) := by decide +kernel
theorem dX10_estimated_12 : decode cX10_estimated 12 = .ok (.iload_n 1, 1) := by decide +kernel
theorem dX10_estimated_13 : decode cX10_estimated 13 = .ok (.iadd, 1) := by decide +kernel
theorem dX10_estimated_14 : decode cX10_estimated 14 = .ok (.iaload, 1) := by decide +kernel
theorem dX10_estimated_15 : decode cX10_estimated 15 = .ok (.if_icmp .ge 51, 3) := by decide +kernel
theorem dX10_estimated_18 : decode cX10_estimated 18 = .ok (.sipush 212, 3) := by decide +kernel
theorem dX10_estimated_21 : decode cX10_estimated 21 = .ok (.bipush 12, 2) := by decide +kernel
theorem dX10_estimated_23 : decode cX10_estimated 23 = .ok (.iload_n 1, 1) := by decide +kernel
theorem dX10_estimated_24 : decode cX10_estimated 24 = .ok (.imul, 1) := by decide +kernel
theorem dX10_estimated_25 : decode cX10_estimated 25 = .ok (.iadd, 1) := by decide +kernel
theorem dX10_estimated_26 : decode cX10_estimated 26 = .ok (.iconst 2, 1) := by decide +kernel
theorem dX10_estimated_27 : decode cX10_estimated 27 = .ok (.iload 6, 2) := by decide +kernel
theorem dX10_estimated_29 : decode cX10_estimated 29 = .ok (.imul, 1) := by decide +kernel
theorem dX10_estimated_30 : decode cX10_estimated 30 = .ok (.iadd, 1) := by decide +kernel
theorem dX10_estimated_31 : decode cX10_estimated 31 = .ok (.istore 7, 2) := by decide +kernel
theorem dX10_estimated_33 : decode cX10_estimated 33 = .ok (.iload 5, 2) := by decide +kernel
theorem dX10_estimated_35 : decode cX10_estimated 35 = .ok (.aload_n 0, 1) := by decide +kernel
theorem dX10_estimated_36 : decode cX10_estimated 36 = .ok (.iload 7, 2) := by decide +kernel
theorem dX10_estimated_38 : decode cX10_estimated 38 = .ok (.iaload, 1) := by decide +kernel
theorem dX10_estimated_39 : decode cX10_estimated 39 = .ok (.iload_n 2, 1) := by decide +kernel
theorem dX10_estimated_40 : decode cX10_estimated 40 = .ok (.iload_n 3, 1) := by decide +kernel
theorem dX10_estimated_41 : decode cX10_estimated 41 = .ok (.invokestatic 35, 3) := by decide +kernel
theorem dX10_estimated_44 : decode cX10_estimated 44 = .ok (.ifCond .eq 12, 3) := by decide +kernel
theorem dX10_estimated_47 : decode cX10_estimated 47 = .ok (.aload_n 0, 1) := by decide +kernel
theorem dX10_estimated_48 : decode cX10_estimated 48 = .ok (.iload 7, 2) := by decide +kernel
theorem dX10_estimated_50 : decode cX10_estimated 50 = .ok (.iconst 1, 1) := by decide +kernel
theorem dX10_estimated_51 : decode cX10_estimated 51 = .ok (.iadd, 1) := by decide +kernel
theorem dX10_estimated_52 : decode cX10_estimated 52 = .ok (.iaload, 1) := by decide +kernel
theorem dX10_estimated_53 : decode cX10_estimated 53 = .ok (.goto 4, 3) := by decide +kernel
theorem dX10_estimated_56 : decode cX10_estimated 56 = .ok (.iconst 0, 1) := by decide +kernel
theorem dX10_estimated_57 : decode cX10_estimated 57 = .ok (.iadd, 1) := by decide +kernel
theorem dX10_estimated_58 : decode cX10_estimated 58 = .ok (.istore 5, 2) := by decide +kernel
theorem dX10_estimated_60 : decode cX10_estimated 60 = .ok (.iinc 6 1, 3) := by decide +kernel
theorem dX10_estimated_63 : decode cX10_estimated 63 = .ok (.goto (-57), 3) := by decide +kernel
theorem dX10_estimated_66 : decode cX10_estimated 66 = .ok (.iconst 0, 1) := by decide +kernel
theorem dX10_estimated_67 : decode cX10_estimated 67 = .ok (.istore 6, 2) := by decide +kernel
theorem dX10_estimated_69 : decode cX10_estimated 69 = .ok (.iload 6, 2) := by decide +kernel
theorem dX10_estimated_71 : decode cX10_estimated 71 = .ok (.aload_n 0, 1) := by decide +kernel
theorem dX10_estimated_72 : decode cX10_estimated 72 = .ok (.sipush 128, 3) := by decide +kernel
theorem dX10_estimated_75 : decode cX10_estimated 75 = .ok (.iload_n 1, 1) := by decide +kernel
theorem dX10_estimated_76 : decode cX10_estimated 76 = .ok (.iadd, 1) := by decide +kernel
theorem dX10_estimated_77 : decode cX10_estimated 77 = .ok (.iaload, 1) := by decide +kernel
theorem dX10_estimated_78 : decode cX10_estimated 78 = .ok (.if_icmp .ge 172, 3) := by decide +kernel
theorem dX10_estimated_81 : decode cX10_estimated 81 = .ok (.sipush 130, 3) := by decide +kernel
theorem dX10_estimated_84 : decode cX10_estimated 84 = .ok (.bipush 40, 2) := by decide +kernel
theorem dX10_estimated_86 : decode cX10_estimated 86 = .ok (.iload_n 1, 1) := by decide +kernel
theorem dX10_estimated_87 : decode cX10_estimated 87 = .ok (.imul, 1) := by decide +kernel
theorem dX10_estimated_88 : decode cX10_estimated 88 = .ok (.iadd, 1) := by decide +kernel
theorem dX10_estimated_89 : decode cX10_estimated 89 = .ok (.iconst 4, 1) := by decide +kernel
theorem dX10_estimated_90 : decode cX10_estimated 90 = .ok (.iload 6, 2) := by decide +kernel
theorem dX10_estimated_92 : decode cX10_estimated 92 = .ok (.imul, 1) := by decide +kernel
theorem dX10_estimated_93 : decode cX10_estimated 93 = .ok (.iadd, 1) := by decide +kernel
theorem dX10_estimated_94 : decode cX10_estimated 94 = .ok (.istore 7, 2) := by decide +kernel
theorem dX10_estimated_96 : decode cX10_estimated 96 = .ok (.aload_n 0, 1) := by decide +kernel
theorem dX10_estimated_97 : decode cX10_estimated 97 = .ok (.iload 7, 2) := by decide +kernel
theorem dX10_estimated_99 : decode cX10_estimated 99 = .ok (.iaload, 1) := by decide +kernel
theorem dX10_estimated_100 : decode cX10_estimated 100 = .ok (.iload_n 2, 1) := by decide +kernel
theorem dX10_estimated_101 : decode cX10_estimated 101 = .ok (.if_icmp .le 10, 3) := by decide +kernel
theorem dX10_estimated_104 : decode cX10_estimated 104 = .ok (.aload_n 0, 1) := by decide +kernel
theorem dX10_estimated_105 : decode cX10_estimated 105 = .ok (.iload 7, 2) := by decide +kernel
theorem dX10_estimated_107 : decode cX10_estimated 107 = .ok (.iaload, 1) := by decide +kernel
theorem dX10_estimated_108 : decode cX10_estimated 108 = .ok (.goto 4, 3) := by decide +kernel
theorem dX10_estimated_111 : decode cX10_estimated 111 = .ok (.iload_n 2, 1) := by decide +kernel
theorem dX10_estimated_112 : decode cX10_estimated 112 = .ok (.istore 8, 2) := by decide +kernel
theorem dX10_estimated_114 : decode cX10_estimated 114 = .ok (.aload_n 0, 1) := by decide +kernel
theorem dX10_estimated_115 : decode cX10_estimated 115 = .ok (.iload 7, 2) := by decide +kernel
theorem dX10_estimated_117 : decode cX10_estimated 117 = .ok (.iconst 1, 1) := by decide +kernel
theorem dX10_estimated_118 : decode cX10_estimated 118 = .ok (.iadd, 1) := by decide +kernel
theorem dX10_estimated_119 : decode cX10_estimated 119 = .ok (.iaload, 1) := by decide +kernel
theorem dX10_estimated_120 : decode cX10_estimated 120 = .ok (.iload_n 3, 1) := by decide +kernel
theorem dX10_estimated_121 : decode cX10_estimated 121 = .ok (.if_icmp .ge 12, 3) := by decide +kernel
theorem dX10_estimated_124 : decode cX10_estimated 124 = .ok (.aload_n 0, 1) := by decide +kernel
theorem dX10_estimated_125 : decode cX10_estimated 125 = .ok (.iload 7, 2) := by decide +kernel
theorem dX10_estimated_127 : decode cX10_estimated 127 = .ok (.iconst 1, 1) := by decide +kernel
theorem dX10_estimated_128 : decode cX10_estimated 128 = .ok (.iadd, 1) := by decide +kernel
theorem dX10_estimated_129 : decode cX10_estimated 129 = .ok (.iaload, 1) := by decide +kernel
theorem dX10_estimated_130 : decode cX10_estimated 130 = .ok (.goto 4, 3) := by decide +kernel
theorem dX10_estimated_133 : decode cX10_estimated 133 = .ok (.iload_n 3, 1) := by decide +kernel
theorem dX10_estimated_134 : decode cX10_estimated 134 = .ok (.istore 9, 2) := by decide +kernel
theorem dX10_estimated_136 : decode cX10_estimated 136 = .ok (.iload 9, 2) := by decide +kernel
theorem dX10_estimated_138 : decode cX10_estimated 138 = .ok (.iload 8, 2) := by decide +kernel
theorem dX10_estimated_140 : decode cX10_estimated 140 = .ok (.if_icmp .lt 13, 3) := by decide +kernel
theorem dX10_estimated_143 : decode cX10_estimated 143 = .ok (.iload 9, 2) := by decide +kernel
theorem dX10_estimated_145 : decode cX10_estimated 145 = .ok (.iload 8, 2) := by decide +kernel
theorem dX10_estimated_147 : decode cX10_estimated 147 = .ok (.isub, 1) := by decide +kernel
theorem dX10_estimated_148 : decode cX10_estimated 148 = .ok (.iconst 1, 1) := by decide +kernel
theorem dX10_estimated_149 : decode cX10_estimated 149 = .ok (.iadd, 1) := by decide +kernel
theorem dX10_estimated_150 : decode cX10_estimated 150 = .ok (.goto 4, 3) := by decide +kernel
theorem dX10_estimated_153 : decode cX10_estimated 153 = .ok (.iconst 0, 1) := by decide +kernel
theorem dX10_estimated_154 : decode cX10_estimated 154 = .ok (.istore 10, 2) := by decide +kernel
theorem dX10_estimated_156 : decode cX10_estimated 156 = .ok (.aload_n 0, 1) := by decide +kernel
theorem dX10_estimated_157 : decode cX10_estimated 157 = .ok (.iload 7, 2) := by decide +kernel
theorem dX10_estimated_159 : decode cX10_estimated 159 = .ok (.iconst 1, 1) := by decide +kernel
theorem dX10_estimated_160 : decode cX10_estimated 160 = .ok (.iadd, 1) := by decide +kernel
theorem dX10_estimated_161 : decode cX10_estimated 161 = .ok (.iaload, 1) := by decide +kernel
theorem dX10_estimated_162 : decode cX10_estimated 162 = .ok (.aload_n 0, 1) := by decide +kernel
theorem dX10_estimated_163 : decode cX10_estimated 163 = .ok (.iload 7, 2) := by decide +kernel
theorem dX10_estimated_165 : decode cX10_estimated 165 = .ok (.iaload, 1) := by decide +kernel
theorem dX10_estimated_166 : decode cX10_estimated 166 = .ok (.isub, 1) := by decide +kernel
theorem dX10_estimated_167 : decode cX10_estimated 167 = .ok (.iconst 1, 1) := by decide +kernel
theorem dX10_estimated_168 : decode cX10_estimated 168 = .ok (.iadd, 1) := by decide +kernel
theorem dX10_estimated_169 : decode cX10_estimated 169 = .ok (.istore 11, 2) := by decide +kernel
theorem dX10_estimated_171 : decode cX10_estimated 171 = .ok (.iload 4, 2) := by decide +kernel
theorem dX10_estimated_173 : decode cX10_estimated 173 = .ok (.iconst 1, 1) := by decide +kernel
theorem dX10_estimated_174 : decode cX10_estimated 174 = .ok (.if_icmp .ne 18, 3) := by decide +kernel
theorem dX10_estimated_177 : decode cX10_estimated 177 = .ok (.iload 10, 2) := by decide +kernel
theorem dX10_estimated_179 : decode cX10_estimated 179 = .ok (.iload 11, 2) := by decide +kernel
theorem dX10_estimated_181 : decode cX10_estimated 181 = .ok (.if_icmp .ne 7, 3) := by decide +kernel
theorem dX10_estimated_184 : decode cX10_estimated 184 = .ok (.iconst 1, 1) := by decide +kernel
theorem dX10_estimated_185 : decode cX10_estimated 185 = .ok (.goto 17, 3) := by decide +kernel
theorem dX10_estimated_188 : decode cX10_estimated 188 = .ok (.iconst 0, 1) := by decide +kernel
theorem dX10_estimated_189 : decode cX10_estimated 189 = .ok (.goto 13, 3) := by decide +kernel
theorem dX10_estimated_192 : decode cX10_estimated 192 = .ok (.iload 10, 2) := by decide +kernel
theorem dX10_estimated_194 : decode cX10_estimated 194 = .ok (.ifCond .le 7, 3) := by decide +kernel
theorem dX10_estimated_197 : decode cX10_estimated 197 = .ok (.iconst 1, 1) := by decide +kernel
theorem dX10_estimated_198 : decode cX10_estimated 198 = .ok (.goto 4, 3) := by decide +kernel
theorem dX10_estimated_201 : decode cX10_estimated 201 = .ok (.iconst 0, 1) := by decide +kernel
theorem dX10_estimated_202 : decode cX10_estimated 202 = .ok (.istore 12, 2) := by decide +kernel
theorem dX10_estimated_204 : decode cX10_estimated 204 = .ok (.iload 5, 2) := by decide +kernel
theorem dX10_estimated_206 : decode cX10_estimated 206 = .ok (.iload 4, 2) := by decide +kernel
theorem dX10_estimated_208 : decode cX10_estimated 208 = .ok (.ifCond .ne 18, 3) := by decide +kernel
theorem dX10_estimated_211 : decode cX10_estimated 211 = .ok (.aload_n 0, 1) := by decide +kernel
theorem dX10_estimated_212 : decode cX10_estimated 212 = .ok (.iload 7, 2) := by decide +kernel
theorem dX10_estimated_214 : decode cX10_estimated 214 = .ok (.iconst 2, 1) := by decide +kernel
theorem dX10_estimated_215 : decode cX10_estimated 215 = .ok (.iadd, 1) := by decide +kernel
theorem dX10_estimated_216 : decode cX10_estimated 216 = .ok (.iaload, 1) := by decide +kernel
theorem dX10_estimated_217 : decode cX10_estimated 217 = .ok (.iload 10, 2) := by decide +kernel
theorem dX10_estimated_219 : decode cX10_estimated 219 = .ok (.imul, 1) := by decide +kernel
theorem dX10_estimated_220 : decode cX10_estimated 220 = .ok (.iload 11, 2) := by decide +kernel
theorem dX10_estimated_222 : decode cX10_estimated 222 = .ok (.idiv, 1) := by decide +kernel
theorem dX10_estimated_223 : decode cX10_estimated 223 = .ok (.goto 18, 3) := by decide +kernel
theorem dX10_estimated_226 : decode cX10_estimated 226 = .ok (.iload 12, 2) := by decide +kernel
theorem dX10_estimated_228 : decode cX10_estimated 228 = .ok (.ifCond .eq 12, 3) := by decide +kernel
theorem dX10_estimated_231 : decode cX10_estimated 231 = .ok (.aload_n 0, 1) := by decide +kernel
theorem dX10_estimated_232 : decode cX10_estimated 232 = .ok (.iload 7, 2) := by decide +kernel
theorem dX10_estimated_234 : decode cX10_estimated 234 = .ok (.iconst 2, 1) := by decide +kernel
theorem dX10_estimated_235 : decode cX10_estimated 235 = .ok (.iadd, 1) := by decide +kernel
theorem dX10_estimated_236 : decode cX10_estimated 236 = .ok (.iaload, 1) := by decide +kernel
theorem dX10_estimated_237 : decode cX10_estimated 237 = .ok (.goto 4, 3) := by decide +kernel
theorem dX10_estimated_240 : decode cX10_estimated 240 = .ok (.iconst 0, 1) := by decide +kernel
theorem dX10_estimated_241 : decode cX10_estimated 241 = .ok (.iadd, 1) := by decide +kernel
theorem dX10_estimated_242 : decode cX10_estimated 242 = .ok (.istore 5, 2) := by decide +kernel
theorem dX10_estimated_244 : decode cX10_estimated 244 = .ok (.iinc 6 1, 3) := by decide +kernel
theorem dX10_estimated_247 : decode cX10_estimated 247 = .ok (.goto (-178), 3) := by decide +kernel
theorem dX10_estimated_250 : decode cX10_estimated 250 = .ok (.iload 5, 2) := by decide +kernel
theorem dX10_estimated_252 : decode cX10_estimated 252 = .ok (.ireturn, 1) := by decide +kernel
theorem dX10_truly_0 : decode cX10_truly 0 = .ok (.iconst 0, 1) := by decide +kernel
theorem dX10_truly_1 : decode cX10_truly 1 = .ok (.istore 4, 2) := by decide +kernel
theorem dX10_truly_3 : decode cX10_truly 3 = .ok (.iconst 0, 1) := by decide +kernel
theorem dX10_truly_4 : decode cX10_truly 4 = .ok (.istore 5, 2) := by decide +kernel
theorem dX10_truly_6 : decode cX10_truly 6 = .ok (.iload 5, 2) := by decide +kernel
theorem dX10_truly_8 : decode cX10_truly 8 = .ok (.aload_n 0, 1) := by decide +kernel
theorem dX10_truly_9 : decode cX10_truly 9 = .ok (.getfield 7, 3) := by decide +kernel
theorem dX10_truly_12 : decode cX10_truly 12 = .ok (.iconst 0, 1) := by decide +kernel
theorem dX10_truly_13 : decode cX10_truly 13 = .ok (.iaload, 1) := by decide +kernel
theorem dX10_truly_14 : decode cX10_truly 14 = .ok (.if_icmp .ge 37, 3) := by decide +kernel
theorem dX10_truly_17 : decode cX10_truly 17 = .ok (.iload 4, 2) := by decide +kernel
theorem dX10_truly_19 : decode cX10_truly 19 = .ok (.aload_n 0, 1) := by decide +kernel
theorem dX10_truly_20 : decode cX10_truly 20 = .ok (.getfield 7, 3) := by decide +kernel
theorem dX10_truly_23 : decode cX10_truly 23 = .ok (.iload 5, 2) := by decide +kernel
theorem dX10_truly_25 : decode cX10_truly 25 = .ok (.iload_n 1, 1) := by decide +kernel
theorem dX10_truly_26 : decode cX10_truly 26 = .ok (.invokestatic 54, 3) := by decide +kernel
theorem dX10_truly_29 : decode cX10_truly 29 = .ok (.iload_n 2, 1) := by decide +kernel
theorem dX10_truly_30 : decode cX10_truly 30 = .ok (.iload_n 3, 1) := by decide +kernel
theorem dX10_truly_31 : decode cX10_truly 31 = .ok (.invokestatic 35, 3) := by decide +kernel
theorem dX10_truly_34 : decode cX10_truly 34 = .ok (.ifCond .eq 7, 3) := by decide +kernel
theorem dX10_truly_37 : decode cX10_truly 37 = .ok (.iconst 1, 1) := by decide +kernel
theorem dX10_truly_38 : decode cX10_truly 38 = .ok (.goto 4, 3) := by decide +kernel
theorem dX10_truly_41 : decode cX10_truly 41 = .ok (.iconst 0, 1) := by decide +kernel
theorem dX10_truly_42 : decode cX10_truly 42 = .ok (.iadd, 1) := by decide +kernel
theorem dX10_truly_43 : decode cX10_truly 43 = .ok (.istore 4, 2) := by decide +kernel
theorem dX10_truly_45 : decode cX10_truly 45 = .ok (.iinc 5 1, 3) := by decide +kernel
theorem dX10_truly_48 : decode cX10_truly 48 = .ok (.goto (-42), 3) := by decide +kernel
theorem dX10_truly_51 : decode cX10_truly 51 = .ok (.iload 4, 2) := by decide +kernel
theorem dX10_truly_53 : decode cX10_truly 53 = .ok (.ireturn, 1) := by decide +kernel
theorem dX10_scaled_0 : decode cX10_scaled 0 = .ok (.iload_n 1, 1) := by decide +kernel
theorem dX10_scaled_1 : decode cX10_scaled 1 = .ok (.aload_n 0, 1) := by decide +kernel
theorem dX10_scaled_2 : decode cX10_scaled 2 = .ok (.getfield 7, 3) := by decide +kernel
theorem dX10_scaled_5 : decode cX10_scaled 5 = .ok (.iconst 0, 1) := by decide +kernel
theorem dX10_scaled_6 : decode cX10_scaled 6 = .ok (.iaload, 1) := by decide +kernel
theorem dX10_scaled_7 : decode cX10_scaled 7 = .ok (.imul, 1) := by decide +kernel
theorem dX10_scaled_8 : decode cX10_scaled 8 = .ok (.aload_n 0, 1) := by decide +kernel
theorem dX10_scaled_9 : decode cX10_scaled 9 = .ok (.getfield 7, 3) := by decide +kernel
theorem dX10_scaled_12 : decode cX10_scaled 12 = .ok (.iconst 2, 1) := by decide +kernel
theorem dX10_scaled_13 : decode cX10_scaled 13 = .ok (.iaload, 1) := by decide +kernel
theorem dX10_scaled_14 : decode cX10_scaled 14 = .ok (.idiv, 1) := by decide +kernel
theorem dX10_scaled_15 : decode cX10_scaled 15 = .ok (.ireturn, 1) := by decide +kernel
theorem dX10_areBounds_0 : decode cX10_areBounds 0 = .ok (.iload_n 0, 1) := by decide +kernel
theorem dX10_areBounds_1 : decode cX10_areBounds 1 = .ok (.invokestatic 75, 3) := by decide +kernel
theorem dX10_areBounds_4 : decode cX10_areBounds 4 = .ok (.ifCond .eq 17, 3) := by decide +kernel
theorem dX10_areBounds_7 : decode cX10_areBounds 7 = .ok (.iload_n 1, 1) := by decide +kernel
theorem dX10_areBounds_8 : decode cX10_areBounds 8 = .ok (.iload_n 0, 1) := by decide +kernel
theorem dX10_areBounds_9 : decode cX10_areBounds 9 = .ok (.bipush 99, 2) := by decide +kernel
theorem dX10_areBounds_11 : decode cX10_areBounds 11 = .ok (.invokestatic 35, 3) := by decide +kernel
theorem dX10_areBounds_14 : decode cX10_areBounds 14 = .ok (.ifCond .eq 7, 3) := by decide +kernel
theorem dX10_areBounds_17 : decode cX10_areBounds 17 = .ok (.iconst 1, 1) := by decide +kernel
theorem dX10_areBounds_18 : decode cX10_areBounds 18 = .ok (.goto 4, 3) := by decide +kernel
theorem dX10_areBounds_21 : decode cX10_areBounds 21 = .ok (.iconst 0, 1) := by decide +kernel
theorem dX10_areBounds_22 : decode cX10_areBounds 22 = .ok (.ireturn, 1) := by decide +kernel
theorem dX10_estimate_0 : decode cX10_estimate 0 = .ok (.iload_n 1, 1) := by decide +kernel
theorem dX10_estimate_1 : decode cX10_estimate 1 = .ok (.invokestatic 79, 3) := by decide +kernel
theorem dX10_estimate_4 : decode cX10_estimate 4 = .ok (.ifCond .eq 21, 3) := by decide +kernel
theorem dX10_estimate_7 : decode cX10_estimate 7 = .ok (.iload_n 2, 1) := by decide +kernel
theorem dX10_estimate_8 : decode cX10_estimate 8 = .ok (.iload_n 3, 1) := by decide +kernel
theorem dX10_estimate_9 : decode cX10_estimate 9 = .ok (.invokestatic 82, 3) := by decide +kernel
theorem dX10_estimate_12 : decode cX10_estimate 12 = .ok (.ifCond .eq 13, 3) := by decide +kernel
theorem dX10_estimate_15 : decode cX10_estimate 15 = .ok (.iload 4, 2) := by decide +kernel
theorem dX10_estimate_17 : decode cX10_estimate 17 = .ok (.iconst 0, 1) := by decide +kernel
theorem dX10_estimate_18 : decode cX10_estimate 18 = .ok (.iconst 4, 1) := by decide +kernel
theorem dX10_estimate_19 : decode cX10_estimate 19 = .ok (.invokestatic 35, 3) := by decide +kernel
theorem dX10_estimate_22 : decode cX10_estimate 22 = .ok (.ifCond .ne 6, 3) := by decide +kernel
theorem dX10_estimate_25 : decode cX10_estimate 25 = .ok (.bipush (-2), 2) := by decide +kernel
theorem dX10_estimate_27 : decode cX10_estimate 27 = .ok (.ireturn, 1) := by decide +kernel
theorem dX10_estimate_28 : decode cX10_estimate 28 = .ok (.iload 4, 2) := by decide +kernel
theorem dX10_estimate_30 : decode cX10_estimate 30 = .ok (.iconst 4, 1) := by decide +kernel
theorem dX10_estimate_31 : decode cX10_estimate 31 = .ok (.if_icmp .ne 11, 3) := by decide +kernel
theorem dX10_estimate_34 : decode cX10_estimate 34 = .ok (.aload_n 0, 1) := by decide +kernel
theorem dX10_estimate_35 : decode cX10_estimate 35 = .ok (.iload_n 1, 1) := by decide +kernel
theorem dX10_estimate_36 : decode cX10_estimate 36 = .ok (.iload_n 2, 1) := by decide +kernel
theorem dX10_estimate_37 : decode cX10_estimate 37 = .ok (.iload_n 3, 1) := by decide +kernel
theorem dX10_estimate_38 : decode cX10_estimate 38 = .ok (.invokevirtual 86, 3) := by decide +kernel
theorem dX10_estimate_41 : decode cX10_estimate 41 = .ok (.ireturn, 1) := by decide +kernel
theorem dX10_estimate_42 : decode cX10_estimate 42 = .ok (.aload_n 0, 1) := by decide +kernel
theorem dX10_estimate_43 : decode cX10_estimate 43 = .ok (.getfield 7, 3) := by decide +kernel
theorem dX10_estimate_46 : decode cX10_estimate 46 = .ok (.iconst 1, 1) := by decide +kernel
theorem dX10_estimate_47 : decode cX10_estimate 47 = .ok (.iaload, 1) := by decide +kernel
theorem dX10_estimate_48 : decode cX10_estimate 48 = .ok (.ifCond .ne 6, 3) := by decide +kernel
theorem dX10_estimate_51 : decode cX10_estimate 51 = .ok (.bipush (-6), 2) := by decide +kernel
theorem dX10_estimate_53 : decode cX10_estimate 53 = .ok (.ireturn, 1) := by decide +kernel
theorem dX10_estimate_54 : decode cX10_estimate 54 = .ok (.iload 4, 2) := by decide +kernel
theorem dX10_estimate_56 : decode cX10_estimate 56 = .ok (.iconst 3, 1) := by decide +kernel
theorem dX10_estimate_57 : decode cX10_estimate 57 = .ok (.if_icmp .ge 18, 3) := by decide +kernel
theorem dX10_estimate_60 : decode cX10_estimate 60 = .ok (.aload_n 0, 1) := by decide +kernel
theorem dX10_estimate_61 : decode cX10_estimate 61 = .ok (.getfield 7, 3) := by decide +kernel
theorem dX10_estimate_64 : decode cX10_estimate 64 = .ok (.iload_n 1, 1) := by decide +kernel
theorem dX10_estimate_65 : decode cX10_estimate 65 = .ok (.iload_n 2, 1) := by decide +kernel
theorem dX10_estimate_66 : decode cX10_estimate 66 = .ok (.iload_n 3, 1) := by decide +kernel
theorem dX10_estimate_67 : decode cX10_estimate 67 = .ok (.iload 4, 2) := by decide +kernel
theorem dX10_estimate_69 : decode cX10_estimate 69 = .ok (.invokestatic 90, 3) := by decide +kernel
theorem dX10_estimate_72 : decode cX10_estimate 72 = .ok (.goto 18, 3) := by decide +kernel
theorem dX10_estimate_75 : decode cX10_estimate 75 = .ok (.aload_n 0, 1) := by decide +kernel
theorem dX10_estimate_76 : decode cX10_estimate 76 = .ok (.aload_n 0, 1) := by decide +kernel
theorem dX10_estimate_77 : decode cX10_estimate 77 = .ok (.getfield 7, 3) := by decide +kernel
theorem dX10_estimate_80 : decode cX10_estimate 80 = .ok (.iload_n 1, 1) := by decide +kernel
theorem dX10_estimate_81 : decode cX10_estimate 81 = .ok (.iload_n 2, 1) := by decide +kernel
theorem dX10_estimate_82 : decode cX10_estimate 82 = .ok (.iload_n 3, 1) := by decide +kernel
theorem dX10_estimate_83 : decode cX10_estimate 83 = .ok (.iconst 0, 1) := by decide +kernel
theorem dX10_estimate_84 : decode cX10_estimate 84 = .ok (.invokestatic 90, 3) := by decide +kernel
theorem dX10_estimate_87 : decode cX10_estimate 87 = .ok (.invokevirtual 94, 3) := by decide +kernel
theorem dX10_estimate_90 : decode cX10_estimate 90 = .ok (.ireturn, 1) := by decide +kernel
theorem dX10_paired_0 : decode cX10_paired 0 = .ok (.iconst 0, 1) := by decide +kernel
theorem dX10_paired_1 : decode cX10_paired 1 = .ok (.istore 5, 2) := by decide +kernel
theorem dX10_paired_3 : decode cX10_paired 3 = .ok (.iconst 0, 1) := by decide +kernel
theorem dX10_paired_4 : decode cX10_paired 4 = .ok (.istore 6, 2) := by decide +kernel
theorem dX10_paired_6 : decode cX10_paired 6 = .ok (.iload 6, 2) := by decide +kernel
theorem dX10_paired_8 : decode cX10_paired 8 = .ok (.aload_n 0, 1) := by decide +kernel
theorem dX10_paired_9 : decode cX10_paired 9 = .ok (.getfield 7, 3) := by decide +kernel
theorem dX10_paired_12 : decode cX10_paired 12 = .ok (.sipush 236, 3) := by decide +kernel
theorem dX10_paired_15 : decode cX10_paired 15 = .ok (.iaload, 1) := by decide +kernel
theorem dX10_paired_16 : decode cX10_paired 16 = .ok (.if_icmp .ge 70, 3) := by decide +kernel
theorem dX10_paired_19 : decode cX10_paired 19 = .ok (.sipush 237, 3) := by decide +kernel
theorem dX10_paired_22 : decode cX10_paired 22 = .ok (.iconst 3, 1) := by decide +kernel
theorem dX10_paired_23 : decode cX10_paired 23 = .ok (.iload 6, 2) := by decide +kernel
theorem dX10_paired_25 : decode cX10_paired 25 = .ok (.imul, 1) := by decide +kernel
theorem dX10_paired_26 : decode cX10_paired 26 = .ok (.iadd, 1) := by decide +kernel
theorem dX10_paired_27 : decode cX10_paired 27 = .ok (.istore 7, 2) := by decide +kernel
theorem dX10_paired_29 : decode cX10_paired 29 = .ok (.iload 5, 2) := by decide +kernel
theorem dX10_paired_31 : decode cX10_paired 31 = .ok (.aload_n 0, 1) := by decide +kernel
theorem dX10_paired_32 : decode cX10_paired 32 = .ok (.getfield 7, 3) := by decide +kernel
theorem dX10_paired_35 : decode cX10_paired 35 = .ok (.iload 7, 2) := by decide +kernel
theorem dX10_paired_37 : decode cX10_paired 37 = .ok (.iaload, 1) := by decide +kernel
theorem dX10_paired_38 : decode cX10_paired 38 = .ok (.iload_n 1, 1) := by decide +kernel
theorem dX10_paired_39 : decode cX10_paired 39 = .ok (.iload_n 2, 1) := by decide +kernel
theorem dX10_paired_40 : decode cX10_paired 40 = .ok (.invokestatic 35, 3) := by decide +kernel
theorem dX10_paired_43 : decode cX10_paired 43 = .ok (.ifCond .eq 33, 3) := by decide +kernel
theorem dX10_paired_46 : decode cX10_paired 46 = .ok (.aload_n 0, 1) := by decide +kernel
theorem dX10_paired_47 : decode cX10_paired 47 = .ok (.getfield 7, 3) := by decide +kernel
theorem dX10_paired_50 : decode cX10_paired 50 = .ok (.iload 7, 2) := by decide +kernel
theorem dX10_paired_52 : decode cX10_paired 52 = .ok (.iconst 1, 1) := by decide +kernel
theorem dX10_paired_53 : decode cX10_paired 53 = .ok (.iadd, 1) := by decide +kernel
theorem dX10_paired_54 : decode cX10_paired 54 = .ok (.iaload, 1) := by decide +kernel
theorem dX10_paired_55 : decode cX10_paired 55 = .ok (.iload_n 3, 1) := by decide +kernel
theorem dX10_paired_56 : decode cX10_paired 56 = .ok (.iload 4, 2) := by decide +kernel
theorem dX10_paired_58 : decode cX10_paired 58 = .ok (.invokestatic 35, 3) := by decide +kernel
theorem dX10_paired_61 : decode cX10_paired 61 = .ok (.ifCond .eq 15, 3) := by decide +kernel
theorem dX10_paired_64 : decode cX10_paired 64 = .ok (.aload_n 0, 1) := by decide +kernel
theorem dX10_paired_65 : decode cX10_paired 65 = .ok (.getfield 7, 3) := by decide +kernel
theorem dX10_paired_68 : decode cX10_paired 68 = .ok (.iload 7, 2) := by decide +kernel
theorem dX10_paired_70 : decode cX10_paired 70 = .ok (.iconst 2, 1) := by decide +kernel
theorem dX10_paired_71 : decode cX10_paired 71 = .ok (.iadd, 1) := by decide +kernel
theorem dX10_paired_72 : decode cX10_paired 72 = .ok (.iaload, 1) := by decide +kernel
theorem dX10_paired_73 : decode cX10_paired 73 = .ok (.goto 4, 3) := by decide +kernel
theorem dX10_paired_76 : decode cX10_paired 76 = .ok (.iconst 0, 1) := by decide +kernel
theorem dX10_paired_77 : decode cX10_paired 77 = .ok (.iadd, 1) := by decide +kernel
theorem dX10_paired_78 : decode cX10_paired 78 = .ok (.istore 5, 2) := by decide +kernel
theorem dX10_paired_80 : decode cX10_paired 80 = .ok (.iinc 6 1, 3) := by decide +kernel
theorem dX10_paired_83 : decode cX10_paired 83 = .ok (.goto (-77), 3) := by decide +kernel
theorem dX10_paired_86 : decode cX10_paired 86 = .ok (.iload 5, 2) := by decide +kernel
theorem dX10_paired_88 : decode cX10_paired 88 = .ok (.ireturn, 1) := by decide +kernel
theorem dX10_bothOf_0 : decode cX10_bothOf 0 = .ok (.aload_n 0, 1) := by decide +kernel
theorem dX10_bothOf_1 : decode cX10_bothOf 1 = .ok (.getfield 7, 3) := by decide +kernel
theorem dX10_bothOf_4 : decode cX10_bothOf 4 = .ok (.iconst 0, 1) := by decide +kernel
theorem dX10_bothOf_5 : decode cX10_bothOf 5 = .ok (.iload_n 1, 1) := by decide +kernel
theorem dX10_bothOf_6 : decode cX10_bothOf 6 = .ok (.iload_n 2, 1) := by decide +kernel
theorem dX10_bothOf_7 : decode cX10_bothOf 7 = .ok (.iconst 0, 1) := by decide +kernel
theorem dX10_bothOf_8 : decode cX10_bothOf 8 = .ok (.invokestatic 90, 3) := by decide +kernel
theorem dX10_bothOf_11 : decode cX10_bothOf 11 = .ok (.aload_n 0, 1) := by decide +kernel
theorem dX10_bothOf_12 : decode cX10_bothOf 12 = .ok (.iload_n 1, 1) := by decide +kernel
theorem dX10_bothOf_13 : decode cX10_bothOf 13 = .ok (.iload_n 2, 1) := by decide +kernel
theorem dX10_bothOf_14 : decode cX10_bothOf 14 = .ok (.iconst 0, 1) := by decide +kernel
theorem dX10_bothOf_15 : decode cX10_bothOf 15 = .ok (.bipush 99, 2) := by decide +kernel
theorem dX10_bothOf_17 : decode cX10_bothOf 17 = .ok (.invokevirtual 98, 3) := by decide +kernel
theorem dX10_bothOf_20 : decode cX10_bothOf 20 = .ok (.isub, 1) := by decide +kernel
theorem dX10_bothOf_21 : decode cX10_bothOf 21 = .ok (.istore 5, 2) := by decide +kernel
theorem dX10_bothOf_23 : decode cX10_bothOf 23 = .ok (.aload_n 0, 1) := by decide +kernel
theorem dX10_bothOf_24 : decode cX10_bothOf 24 = .ok (.getfield 7, 3) := by decide +kernel
theorem dX10_bothOf_27 : decode cX10_bothOf 27 = .ok (.iconst 1, 1) := by decide +kernel
theorem dX10_bothOf_28 : decode cX10_bothOf 28 = .ok (.iload_n 3, 1) := by decide +kernel
theorem dX10_bothOf_29 : decode cX10_bothOf 29 = .ok (.iload 4, 2) := by decide +kernel
theorem dX10_bothOf_31 : decode cX10_bothOf 31 = .ok (.iconst 0, 1) := by decide +kernel
theorem dX10_bothOf_32 : decode cX10_bothOf 32 = .ok (.invokestatic 90, 3) := by decide +kernel
theorem dX10_bothOf_35 : decode cX10_bothOf 35 = .ok (.aload_n 0, 1) := by decide +kernel
theorem dX10_bothOf_36 : decode cX10_bothOf 36 = .ok (.iconst 0, 1) := by decide +kernel
theorem dX10_bothOf_37 : decode cX10_bothOf 37 = .ok (.bipush 99, 2) := by decide +kernel
theorem dX10_bothOf_39 : decode cX10_bothOf 39 = .ok (.iload_n 3, 1) := by decide +kernel
theorem dX10_bothOf_40 : decode cX10_bothOf 40 = .ok (.iload 4, 2) := by decide +kernel
theorem dX10_bothOf_42 : decode cX10_bothOf 42 = .ok (.invokevirtual 98, 3) := by decide +kernel
theorem dX10_bothOf_45 : decode cX10_bothOf 45 = .ok (.isub, 1) := by decide +kernel
theorem dX10_bothOf_46 : decode cX10_bothOf 46 = .ok (.istore 6, 2) := by decide +kernel
theorem dX10_bothOf_48 : decode cX10_bothOf 48 = .ok (.aload_n 0, 1) := by decide +kernel
theorem dX10_bothOf_49 : decode cX10_bothOf 49 = .ok (.getfield 7, 3) := by decide +kernel
theorem dX10_bothOf_52 : decode cX10_bothOf 52 = .ok (.iconst 2, 1) := by decide +kernel
theorem dX10_bothOf_53 : decode cX10_bothOf 53 = .ok (.iaload, 1) := by decide +kernel
theorem dX10_bothOf_54 : decode cX10_bothOf 54 = .ok (.aload_n 0, 1) := by decide +kernel
theorem dX10_bothOf_55 : decode cX10_bothOf 55 = .ok (.iconst 0, 1) := by decide +kernel
theorem dX10_bothOf_56 : decode cX10_bothOf 56 = .ok (.bipush 99, 2) := by decide +kernel
theorem dX10_bothOf_58 : decode cX10_bothOf 58 = .ok (.iconst 0, 1) := by decide +kernel
theorem dX10_bothOf_59 : decode cX10_bothOf 59 = .ok (.bipush 99, 2) := by decide +kernel
theorem dX10_bothOf_61 : decode cX10_bothOf 61 = .ok (.invokevirtual 98, 3) := by decide +kernel
theorem dX10_bothOf_64 : decode cX10_bothOf 64 = .ok (.isub, 1) := by decide +kernel
theorem dX10_bothOf_65 : decode cX10_bothOf 65 = .ok (.istore 7, 2) := by decide +kernel
theorem dX10_bothOf_67 : decode cX10_bothOf 67 = .ok (.iload 7, 2) := by decide +kernel
theorem dX10_bothOf_69 : decode cX10_bothOf 69 = .ok (.ifCond .eq 13, 3) := by decide +kernel
theorem dX10_bothOf_72 : decode cX10_bothOf 72 = .ok (.iload 5, 2) := by decide +kernel
theorem dX10_bothOf_74 : decode cX10_bothOf 74 = .ok (.ifCond .lt 8, 3) := by decide +kernel
theorem dX10_bothOf_77 : decode cX10_bothOf 77 = .ok (.iload 6, 2) := by decide +kernel
theorem dX10_bothOf_79 : decode cX10_bothOf 79 = .ok (.ifCond .ge 7, 3) := by decide +kernel
theorem dX10_bothOf_82 : decode cX10_bothOf 82 = .ok (.iconst 0, 1) := by decide +kernel
theorem dX10_bothOf_83 : decode cX10_bothOf 83 = .ok (.goto 11, 3) := by decide +kernel
theorem dX10_bothOf_86 : decode cX10_bothOf 86 = .ok (.iload 5, 2) := by decide +kernel
theorem dX10_bothOf_88 : decode cX10_bothOf 88 = .ok (.iload 6, 2) := by decide +kernel
theorem dX10_bothOf_90 : decode cX10_bothOf 90 = .ok (.imul, 1) := by decide +kernel
theorem dX10_bothOf_91 : decode cX10_bothOf 91 = .ok (.iload 7, 2) := by decide +kernel
theorem dX10_bothOf_93 : decode cX10_bothOf 93 = .ok (.idiv, 1) := by decide +kernel
theorem dX10_bothOf_94 : decode cX10_bothOf 94 = .ok (.istore 8, 2) := by decide +kernel
theorem dX10_bothOf_96 : decode cX10_bothOf 96 = .ok (.aload_n 0, 1) := by decide +kernel
theorem dX10_bothOf_97 : decode cX10_bothOf 97 = .ok (.iload_n 1, 1) := by decide +kernel
theorem dX10_bothOf_98 : decode cX10_bothOf 98 = .ok (.iload_n 2, 1) := by decide +kernel
theorem dX10_bothOf_99 : decode cX10_bothOf 99 = .ok (.iload_n 3, 1) := by decide +kernel
theorem dX10_bothOf_100 : decode cX10_bothOf 100 = .ok (.iload 4, 2) := by decide +kernel
theorem dX10_bothOf_102 : decode cX10_bothOf 102 = .ok (.invokevirtual 98, 3) := by decide +kernel
theorem dX10_bothOf_105 : decode cX10_bothOf 105 = .ok (.iload 8, 2) := by decide +kernel
theorem dX10_bothOf_107 : decode cX10_bothOf 107 = .ok (.iadd, 1) := by decide +kernel
theorem dX10_bothOf_108 : decode cX10_bothOf 108 = .ok (.ireturn, 1) := by decide +kernel
theorem dX10_both_0 : decode cX10_both 0 = .ok (.iload_n 1, 1) := by decide +kernel
theorem dX10_both_1 : decode cX10_both 1 = .ok (.iload_n 2, 1) := by decide +kernel
theorem dX10_both_2 : decode cX10_both 2 = .ok (.invokestatic 82, 3) := by decide +kernel
theorem dX10_both_5 : decode cX10_both 5 = .ok (.ifCond .eq 22, 3) := by decide +kernel
theorem dX10_both_8 : decode cX10_both 8 = .ok (.iload_n 3, 1) := by decide +kernel
theorem dX10_both_9 : decode cX10_both 9 = .ok (.iload 4, 2) := by decide +kernel
theorem dX10_both_11 : decode cX10_both 11 = .ok (.invokestatic 82, 3) := by decide +kernel
theorem dX10_both_14 : decode cX10_both 14 = .ok (.ifCond .eq 13, 3) := by decide +kernel
theorem dX10_both_17 : decode cX10_both 17 = .ok (.iload 5, 2) := by decide +kernel
theorem dX10_both_19 : decode cX10_both 19 = .ok (.iconst 0, 1) := by decide +kernel
theorem dX10_both_20 : decode cX10_both 20 = .ok (.iconst 2, 1) := by decide +kernel
theorem dX10_both_21 : decode cX10_both 21 = .ok (.invokestatic 35, 3) := by decide +kernel
theorem dX10_both_24 : decode cX10_both 24 = .ok (.ifCond .ne 6, 3) := by decide +kernel
theorem dX10_both_27 : decode cX10_both 27 = .ok (.bipush (-2), 2) := by decide +kernel
theorem dX10_both_29 : decode cX10_both 29 = .ok (.ireturn, 1) := by decide +kernel
theorem dX10_both_30 : decode cX10_both 30 = .ok (.iload 5, 2) := by decide +kernel
theorem dX10_both_32 : decode cX10_both 32 = .ok (.iconst 2, 1) := by decide +kernel
theorem dX10_both_33 : decode cX10_both 33 = .ok (.if_icmp .ne 76, 3) := by decide +kernel
theorem dX10_both_36 : decode cX10_both 36 = .ok (.iconst 0, 1) := by decide +kernel
theorem dX10_both_37 : decode cX10_both 37 = .ok (.istore 6, 2) := by decide +kernel
theorem dX10_both_39 : decode cX10_both 39 = .ok (.iconst 0, 1) := by decide +kernel
theorem dX10_both_40 : decode cX10_both 40 = .ok (.istore 7, 2) := by decide +kernel
theorem dX10_both_42 : decode cX10_both 42 = .ok (.iload 7, 2) := by decide +kernel
theorem dX10_both_44 : decode cX10_both 44 = .ok (.aload_n 0, 1) := by decide +kernel
theorem dX10_both_45 : decode cX10_both 45 = .ok (.getfield 7, 3) := by decide +kernel
theorem dX10_both_48 : decode cX10_both 48 = .ok (.iconst 0, 1) := by decide +kernel
theorem dX10_both_49 : decode cX10_both 49 = .ok (.iaload, 1) := by decide +kernel
theorem dX10_both_50 : decode cX10_both 50 = .ok (.if_icmp .ge 56, 3) := by decide +kernel
theorem dX10_both_53 : decode cX10_both 53 = .ok (.iload 6, 2) := by decide +kernel
theorem dX10_both_55 : decode cX10_both 55 = .ok (.aload_n 0, 1) := by decide +kernel
theorem dX10_both_56 : decode cX10_both 56 = .ok (.getfield 7, 3) := by decide +kernel
theorem dX10_both_59 : decode cX10_both 59 = .ok (.iload 7, 2) := by decide +kernel
theorem dX10_both_61 : decode cX10_both 61 = .ok (.iconst 0, 1) := by decide +kernel
theorem dX10_both_62 : decode cX10_both 62 = .ok (.invokestatic 54, 3) := by decide +kernel
theorem dX10_both_65 : decode cX10_both 65 = .ok (.iload_n 1, 1) := by decide +kernel
theorem dX10_both_66 : decode cX10_both 66 = .ok (.iload_n 2, 1) := by decide +kernel
theorem dX10_both_67 : decode cX10_both 67 = .ok (.invokestatic 35, 3) := by decide +kernel
theorem dX10_both_70 : decode cX10_both 70 = .ok (.ifCond .eq 26, 3) := by decide +kernel
theorem dX10_both_73 : decode cX10_both 73 = .ok (.aload_n 0, 1) := by decide +kernel
theorem dX10_both_74 : decode cX10_both 74 = .ok (.getfield 7, 3) := by decide +kernel
theorem dX10_both_77 : decode cX10_both 77 = .ok (.iload 7, 2) := by decide +kernel
theorem dX10_both_79 : decode cX10_both 79 = .ok (.iconst 1, 1) := by decide +kernel
theorem dX10_both_80 : decode cX10_both 80 = .ok (.invokestatic 54, 3) := by decide +kernel
theorem dX10_both_83 : decode cX10_both 83 = .ok (.iload_n 3, 1) := by decide +kernel
theorem dX10_both_84 : decode cX10_both 84 = .ok (.iload 4, 2) := by decide +kernel
theorem dX10_both_86 : decode cX10_both 86 = .ok (.invokestatic 35, 3) := by decide +kernel
theorem dX10_both_89 : decode cX10_both 89 = .ok (.ifCond .eq 7, 3) := by decide +kernel
theorem dX10_both_92 : decode cX10_both 92 = .ok (.iconst 1, 1) := by decide +kernel
theorem dX10_both_93 : decode cX10_both 93 = .ok (.goto 4, 3) := by decide +kernel
theorem dX10_both_96 : decode cX10_both 96 = .ok (.iconst 0, 1) := by decide +kernel
theorem dX10_both_97 : decode cX10_both 97 = .ok (.iadd, 1) := by decide +kernel
theorem dX10_both_98 : decode cX10_both 98 = .ok (.istore 6, 2) := by decide +kernel
theorem dX10_both_100 : decode cX10_both 100 = .ok (.iinc 7 1, 3) := by decide +kernel
theorem dX10_both_103 : decode cX10_both 103 = .ok (.goto (-61), 3) := by decide +kernel
theorem dX10_both_106 : decode cX10_both 106 = .ok (.iload 6, 2) := by decide +kernel
theorem dX10_both_108 : decode cX10_both 108 = .ok (.ireturn, 1) := by decide +kernel
theorem dX10_both_109 : decode cX10_both 109 = .ok (.aload_n 0, 1) := by decide +kernel
theorem dX10_both_110 : decode cX10_both 110 = .ok (.getfield 7, 3) := by decide +kernel
theorem dX10_both_113 : decode cX10_both 113 = .ok (.iconst 1, 1) := by decide +kernel
theorem dX10_both_114 : decode cX10_both 114 = .ok (.iaload, 1) := by decide +kernel
theorem dX10_both_115 : decode cX10_both 115 = .ok (.ifCond .ne 6, 3) := by decide +kernel
theorem dX10_both_118 : decode cX10_both 118 = .ok (.bipush (-6), 2) := by decide +kernel
theorem dX10_both_120 : decode cX10_both 120 = .ok (.ireturn, 1) := by decide +kernel
theorem dX10_both_121 : decode cX10_both 121 = .ok (.aload_n 0, 1) := by decide +kernel
theorem dX10_both_122 : decode cX10_both 122 = .ok (.iload_n 1, 1) := by decide +kernel
theorem dX10_both_123 : decode cX10_both 123 = .ok (.iload_n 2, 1) := by decide +kernel
theorem dX10_both_124 : decode cX10_both 124 = .ok (.iload_n 3, 1) := by decide +kernel
theorem dX10_both_125 : decode cX10_both 125 = .ok (.iload 4, 2) := by decide +kernel
theorem dX10_both_127 : decode cX10_both 127 = .ok (.invokevirtual 102, 3) := by decide +kernel
theorem dX10_both_130 : decode cX10_both 130 = .ok (.istore 6, 2) := by decide +kernel
theorem dX10_both_132 : decode cX10_both 132 = .ok (.iload 5, 2) := by decide +kernel
theorem dX10_both_134 : decode cX10_both 134 = .ok (.ifCond .ne 8, 3) := by decide +kernel
theorem dX10_both_137 : decode cX10_both 137 = .ok (.iload 6, 2) := by decide +kernel
theorem dX10_both_139 : decode cX10_both 139 = .ok (.goto 9, 3) := by decide +kernel
theorem dX10_both_142 : decode cX10_both 142 = .ok (.aload_n 0, 1) := by decide +kernel
theorem dX10_both_143 : decode cX10_both 143 = .ok (.iload 6, 2) := by decide +kernel
theorem dX10_both_145 : decode cX10_both 145 = .ok (.invokevirtual 94, 3) := by decide +kernel
theorem dX10_both_148 : decode cX10_both 148 = .ok (.ireturn, 1) := by decide +kernel
theorem dX10_share_0 : decode cX10_share 0 = .ok (.iload_n 1, 1) := by decide +kernel
theorem dX10_share_1 : decode cX10_share 1 = .ok (.invokestatic 79, 3) := by decide +kernel
theorem dX10_share_4 : decode cX10_share 4 = .ok (.ifCond .eq 11, 3) := by decide +kernel
theorem dX10_share_7 : decode cX10_share 7 = .ok (.iload_n 2, 1) := by decide +kernel
theorem dX10_share_8 : decode cX10_share 8 = .ok (.iload_n 3, 1) := by decide +kernel
theorem dX10_share_9 : decode cX10_share 9 = .ok (.invokestatic 82, 3) := by decide +kernel
theorem dX10_share_12 : decode cX10_share 12 = .ok (.ifCond .ne 6, 3) := by decide +kernel
theorem dX10_share_15 : decode cX10_share 15 = .ok (.bipush (-2), 2) := by decide +kernel
theorem dX10_share_17 : decode cX10_share 17 = .ok (.ireturn, 1) := by decide +kernel
theorem dX10_share_18 : decode cX10_share 18 = .ok (.aload_n 0, 1) := by decide +kernel
theorem dX10_share_19 : decode cX10_share 19 = .ok (.getfield 7, 3) := by decide +kernel
theorem dX10_share_22 : decode cX10_share 22 = .ok (.iconst 1, 1) := by decide +kernel
theorem dX10_share_23 : decode cX10_share 23 = .ok (.iaload, 1) := by decide +kernel
theorem dX10_share_24 : decode cX10_share 24 = .ok (.ifCond .ne 8, 3) := by decide +kernel
theorem dX10_share_27 : decode cX10_share 27 = .ok (.bipush (-6), 2) := by decide +kernel
theorem dX10_share_29 : decode cX10_share 29 = .ok (.goto 27, 3) := by decide +kernel
theorem dX10_share_32 : decode cX10_share 32 = .ok (.aload_n 0, 1) := by decide +kernel
theorem dX10_share_33 : decode cX10_share 33 = .ok (.getfield 7, 3) := by decide +kernel
theorem dX10_share_36 : decode cX10_share 36 = .ok (.iload_n 1, 1) := by decide +kernel
theorem dX10_share_37 : decode cX10_share 37 = .ok (.iload_n 2, 1) := by decide +kernel
theorem dX10_share_38 : decode cX10_share 38 = .ok (.iload_n 3, 1) := by decide +kernel
theorem dX10_share_39 : decode cX10_share 39 = .ok (.iconst 0, 1) := by decide +kernel
theorem dX10_share_40 : decode cX10_share 40 = .ok (.invokestatic 90, 3) := by decide +kernel
theorem dX10_share_43 : decode cX10_share 43 = .ok (.i2d, 1) := by decide +kernel
theorem dX10_share_44 : decode cX10_share 44 = .ok (.aload_n 0, 1) := by decide +kernel
theorem dX10_share_45 : decode cX10_share 45 = .ok (.getfield 7, 3) := by decide +kernel
theorem dX10_share_48 : decode cX10_share 48 = .ok (.iconst 2, 1) := by decide +kernel
theorem dX10_share_49 : decode cX10_share 49 = .ok (.iaload, 1) := by decide +kernel
theorem dX10_share_50 : decode cX10_share 50 = .ok (.i2d, 1) := by decide +kernel
theorem dX10_share_51 : decode cX10_share 51 = .ok (.ddiv, 1) := by decide +kernel
theorem dX10_share_52 : decode cX10_share 52 = .ok (.d2f, 1) := by decide +kernel
theorem dX10_share_53 : decode cX10_share 53 = .ok (.invokestatic 105, 3) := by decide +kernel
theorem dX10_share_56 : decode cX10_share 56 = .ok (.ireturn, 1) := by decide +kernel
theorem dX10_height_0 : decode cX10_height 0 = .ok (.iload_n 1, 1) := by decide +kernel
theorem dX10_height_1 : decode cX10_height 1 = .ok (.invokestatic 79, 3) := by decide +kernel
theorem dX10_height_4 : decode cX10_height 4 = .ok (.ifCond .ne 7, 3) := by decide +kernel
theorem dX10_height_7 : decode cX10_height 7 = .ok (.ldc2_w 111, 3) := by decide +kernel
theorem dX10_height_10 : decode cX10_height 10 = .ok (.lreturn, 1) := by decide +kernel
theorem dX10_height_11 : decode cX10_height 11 = .ok (.iconst 0, 1) := by decide +kernel
theorem dX10_height_12 : decode cX10_height 12 = .ok (.istore_n 2, 1) := by decide +kernel
theorem dX10_height_13 : decode cX10_height 13 = .ok (.iconst 0, 1) := by decide +kernel
theorem dX10_height_14 : decode cX10_height 14 = .ok (.istore_n 3, 1) := by decide +kernel
theorem dX10_height_15 : decode cX10_height 15 = .ok (.iload_n 3, 1) := by decide +kernel
theorem dX10_height_16 : decode cX10_height 16 = .ok (.aload_n 0, 1) := by decide +kernel
theorem dX10_height_17 : decode cX10_height 17 = .ok (.getfield 7, 3) := by decide +kernel
theorem dX10_height_20 : decode cX10_height 20 = .ok (.sipush 128, 3) := by decide +kernel
theorem dX10_height_23 : decode cX10_height 23 = .ok (.iload_n 1, 1) := by decide +kernel
theorem dX10_height_24 : decode cX10_height 24 = .ok (.iadd, 1) := by decide +kernel
theorem dX10_height_25 : decode cX10_height 25 = .ok (.iaload, 1) := by decide +kernel
theorem dX10_height_26 : decode cX10_height 26 = .ok (.if_icmp .ge 31, 3) := by decide +kernel
theorem dX10_height_29 : decode cX10_height 29 = .ok (.iload_n 2, 1) := by decide +kernel
theorem dX10_height_30 : decode cX10_height 30 = .ok (.aload_n 0, 1) := by decide +kernel
theorem dX10_height_31 : decode cX10_height 31 = .ok (.getfield 7, 3) := by decide +kernel
theorem dX10_height_34 : decode cX10_height 34 = .ok (.sipush 130, 3) := by decide +kernel
theorem dX10_height_37 : decode cX10_height 37 = .ok (.bipush 40, 2) := by decide +kernel
theorem dX10_height_39 : decode cX10_height 39 = .ok (.iload_n 1, 1) := by decide +kernel
theorem dX10_height_40 : decode cX10_height 40 = .ok (.imul, 1) := by decide +kernel
theorem dX10_height_41 : decode cX10_height 41 = .ok (.iadd, 1) := by decide +kernel
theorem dX10_height_42 : decode cX10_height 42 = .ok (.iconst 4, 1) := by decide +kernel
theorem dX10_height_43 : decode cX10_height 43 = .ok (.iload_n 3, 1) := by decide +kernel
theorem dX10_height_44 : decode cX10_height 44 = .ok (.imul, 1) := by decide +kernel
theorem dX10_height_45 : decode cX10_height 45 = .ok (.iadd, 1) := by decide +kernel
theorem dX10_height_46 : decode cX10_height 46 = .ok (.iconst 2, 1) := by decide +kernel
theorem dX10_height_47 : decode cX10_height 47 = .ok (.iadd, 1) := by decide +kernel
theorem dX10_height_48 : decode cX10_height 48 = .ok (.iaload, 1) := by decide +kernel
theorem dX10_height_49 : decode cX10_height 49 = .ok (.iadd, 1) := by decide +kernel
theorem dX10_height_50 : decode cX10_height 50 = .ok (.istore_n 2, 1) := by decide +kernel
theorem dX10_height_51 : decode cX10_height 51 = .ok (.iinc 3 1, 3) := by decide +kernel
theorem dX10_height_54 : decode cX10_height 54 = .ok (.goto (-39), 3) := by decide +kernel
theorem dX10_height_57 : decode cX10_height 57 = .ok (.aload_n 0, 1) := by decide +kernel
theorem dX10_height_58 : decode cX10_height 58 = .ok (.getfield 7, 3) := by decide +kernel
theorem dX10_height_61 : decode cX10_height 61 = .ok (.sipush 128, 3) := by decide +kernel
theorem dX10_height_64 : decode cX10_height 64 = .ok (.iload_n 1, 1) := by decide +kernel
theorem dX10_height_65 : decode cX10_height 65 = .ok (.iadd, 1) := by decide +kernel
theorem dX10_height_66 : decode cX10_height 66 = .ok (.iaload, 1) := by decide +kernel
theorem dX10_height_67 : decode cX10_height 67 = .ok (.ifCond .ne 7, 3) := by decide +kernel
theorem dX10_height_70 : decode cX10_height 70 = .ok (.lconst 0, 1) := by decide +kernel
theorem dX10_height_71 : decode cX10_height 71 = .ok (.goto 20, 3) := by decide +kernel
theorem dX10_height_74 : decode cX10_height 74 = .ok (.iload_n 2, 1) := by decide +kernel
theorem dX10_height_75 : decode cX10_height 75 = .ok (.i2d, 1) := by decide +kernel
theorem dX10_height_76 : decode cX10_height 76 = .ok (.aload_n 0, 1) := by decide +kernel
theorem dX10_height_77 : decode cX10_height 77 = .ok (.getfield 7, 3) := by decide +kernel
theorem dX10_height_80 : decode cX10_height 80 = .ok (.sipush 128, 3) := by decide +kernel
theorem dX10_height_83 : decode cX10_height 83 = .ok (.iload_n 1, 1) := by decide +kernel
theorem dX10_height_84 : decode cX10_height 84 = .ok (.iadd, 1) := by decide +kernel
theorem dX10_height_85 : decode cX10_height 85 = .ok (.iaload, 1) := by decide +kernel
theorem dX10_height_86 : decode cX10_height 86 = .ok (.i2d, 1) := by decide +kernel
theorem dX10_height_87 : decode cX10_height 87 = .ok (.ddiv, 1) := by decide +kernel
theorem dX10_height_88 : decode cX10_height 88 = .ok (.invokestatic 113, 3) := by decide +kernel
theorem dX10_height_91 : decode cX10_height 91 = .ok (.lreturn, 1) := by decide +kernel
theorem dX10_off_0 : decode cX10_off 0 = .ok (.aload_n 0, 1) := by decide +kernel
theorem dX10_off_1 : decode cX10_off 1 = .ok (.iload_n 1, 1) := by decide +kernel
theorem dX10_off_2 : decode cX10_off 2 = .ok (.iload_n 2, 1) := by decide +kernel
theorem dX10_off_3 : decode cX10_off 3 = .ok (.iload_n 2, 1) := by decide +kernel
theorem dX10_off_4 : decode cX10_off 4 = .ok (.iconst 0, 1) := by decide +kernel
theorem dX10_off_5 : decode cX10_off 5 = .ok (.invokestatic 90, 3) := by decide +kernel
theorem dX10_off_8 : decode cX10_off 8 = .ok (.aload_n 0, 1) := by decide +kernel
theorem dX10_off_9 : decode cX10_off 9 = .ok (.iload_n 1, 1) := by decide +kernel
theorem dX10_off_10 : decode cX10_off 10 = .ok (.iload_n 2, 1) := by decide +kernel
theorem dX10_off_11 : decode cX10_off 11 = .ok (.invokestatic 50, 3) := by decide +kernel
theorem dX10_off_14 : decode cX10_off 14 = .ok (.isub, 1) := by decide +kernel
theorem dX10_off_15 : decode cX10_off 15 = .ok (.istore_n 3, 1) := by decide +kernel
theorem dX10_off_16 : decode cX10_off 16 = .ok (.iload_n 3, 1) := by decide +kernel
theorem dX10_off_17 : decode cX10_off 17 = .ok (.ifCond .ge 8, 3) := by decide +kernel
theorem dX10_off_20 : decode cX10_off 20 = .ok (.iload_n 3, 1) := by decide +kernel
theorem dX10_off_21 : decode cX10_off 21 = .ok (.ineg, 1) := by decide +kernel
theorem dX10_off_22 : decode cX10_off 22 = .ok (.goto 4, 3) := by decide +kernel
theorem dX10_off_25 : decode cX10_off 25 = .ok (.iload_n 3, 1) := by decide +kernel
theorem dX10_off_26 : decode cX10_off 26 = .ok (.ireturn, 1) := by decide +kernel
theorem dX10_worstOf_0 : decode cX10_worstOf 0 = .ok (.iconst 0, 1) := by decide +kernel
theorem dX10_worstOf_1 : decode cX10_worstOf 1 = .ok (.istore_n 2, 1) := by decide +kernel
theorem dX10_worstOf_2 : decode cX10_worstOf 2 = .ok (.iconst 1, 1) := by decide +kernel
theorem dX10_worstOf_3 : decode cX10_worstOf 3 = .ok (.istore_n 3, 1) := by decide +kernel
theorem dX10_worstOf_4 : decode cX10_worstOf 4 = .ok (.iload_n 3, 1) := by decide +kernel
theorem dX10_worstOf_5 : decode cX10_worstOf 5 = .ok (.bipush 100, 2) := by decide +kernel
theorem dX10_worstOf_7 : decode cX10_worstOf 7 = .ok (.if_icmp .ge 30, 3) := by decide +kernel
theorem dX10_worstOf_10 : decode cX10_worstOf 10 = .ok (.aload_n 0, 1) := by decide +kernel
theorem dX10_worstOf_11 : decode cX10_worstOf 11 = .ok (.iload_n 1, 1) := by decide +kernel
theorem dX10_worstOf_12 : decode cX10_worstOf 12 = .ok (.iload_n 3, 1) := by decide +kernel
theorem dX10_worstOf_13 : decode cX10_worstOf 13 = .ok (.invokestatic 119, 3) := by decide +kernel
theorem dX10_worstOf_16 : decode cX10_worstOf 16 = .ok (.aload_n 0, 1) := by decide +kernel
theorem dX10_worstOf_17 : decode cX10_worstOf 17 = .ok (.iload_n 1, 1) := by decide +kernel
theorem dX10_worstOf_18 : decode cX10_worstOf 18 = .ok (.iload_n 2, 1) := by decide +kernel
theorem dX10_worstOf_19 : decode cX10_worstOf 19 = .ok (.invokestatic 119, 3) := by decide +kernel
theorem dX10_worstOf_22 : decode cX10_worstOf 22 = .ok (.if_icmp .le 7, 3) := by decide +kernel
theorem dX10_worstOf_25 : decode cX10_worstOf 25 = .ok (.iload_n 3, 1) := by decide +kernel
theorem dX10_worstOf_26 : decode cX10_worstOf 26 = .ok (.goto 4, 3) := by decide +kernel
theorem dX10_worstOf_29 : decode cX10_worstOf 29 = .ok (.iload_n 2, 1) := by decide +kernel
theorem dX10_worstOf_30 : decode cX10_worstOf 30 = .ok (.istore_n 2, 1) := by decide +kernel
theorem dX10_worstOf_31 : decode cX10_worstOf 31 = .ok (.iinc 3 1, 3) := by decide +kernel
theorem dX10_worstOf_34 : decode cX10_worstOf 34 = .ok (.goto (-30), 3) := by decide +kernel
theorem dX10_worstOf_37 : decode cX10_worstOf 37 = .ok (.iload_n 2, 1) := by decide +kernel
theorem dX10_worstOf_38 : decode cX10_worstOf 38 = .ok (.ireturn, 1) := by decide +kernel
theorem dX10_worst_0 : decode cX10_worst 0 = .ok (.iload_n 1, 1) := by decide +kernel
theorem dX10_worst_1 : decode cX10_worst 1 = .ok (.invokestatic 79, 3) := by decide +kernel
theorem dX10_worst_4 : decode cX10_worst 4 = .ok (.ifCond .eq 12, 3) := by decide +kernel
theorem dX10_worst_7 : decode cX10_worst 7 = .ok (.iload_n 2, 1) := by decide +kernel
theorem dX10_worst_8 : decode cX10_worst 8 = .ok (.iconst 0, 1) := by decide +kernel
theorem dX10_worst_9 : decode cX10_worst 9 = .ok (.iconst 1, 1) := by decide +kernel
theorem dX10_worst_10 : decode cX10_worst 10 = .ok (.invokestatic 35, 3) := by decide +kernel
theorem dX10_worst_13 : decode cX10_worst 13 = .ok (.ifCond .ne 6, 3) := by decide +kernel
theorem dX10_worst_16 : decode cX10_worst 16 = .ok (.bipush (-2), 2) := by decide +kernel
theorem dX10_worst_18 : decode cX10_worst 18 = .ok (.ireturn, 1) := by decide +kernel
theorem dX10_worst_19 : decode cX10_worst 19 = .ok (.aload_n 0, 1) := by decide +kernel
theorem dX10_worst_20 : decode cX10_worst 20 = .ok (.getfield 7, 3) := by decide +kernel
theorem dX10_worst_23 : decode cX10_worst 23 = .ok (.iconst 1, 1) := by decide +kernel
theorem dX10_worst_24 : decode cX10_worst 24 = .ok (.iaload, 1) := by decide +kernel
theorem dX10_worst_25 : decode cX10_worst 25 = .ok (.ifCond .ne 6, 3) := by decide +kernel
theorem dX10_worst_28 : decode cX10_worst 28 = .ok (.bipush (-6), 2) := by decide +kernel
theorem dX10_worst_30 : decode cX10_worst 30 = .ok (.ireturn, 1) := by decide +kernel
theorem dX10_worst_31 : decode cX10_worst 31 = .ok (.aload_n 0, 1) := by decide +kernel
theorem dX10_worst_32 : decode cX10_worst 32 = .ok (.getfield 7, 3) := by decide +kernel
theorem dX10_worst_35 : decode cX10_worst 35 = .ok (.iload_n 1, 1) := by decide +kernel
theorem dX10_worst_36 : decode cX10_worst 36 = .ok (.invokestatic 122, 3) := by decide +kernel
theorem dX10_worst_39 : decode cX10_worst 39 = .ok (.istore_n 3, 1) := by decide +kernel
theorem dX10_worst_40 : decode cX10_worst 40 = .ok (.iload_n 2, 1) := by decide +kernel
theorem dX10_worst_41 : decode cX10_worst 41 = .ok (.ifCond .ne 7, 3) := by decide +kernel
theorem dX10_worst_44 : decode cX10_worst 44 = .ok (.iload_n 3, 1) := by decide +kernel
theorem dX10_worst_45 : decode cX10_worst 45 = .ok (.goto 12, 3) := by decide +kernel
theorem dX10_worst_48 : decode cX10_worst 48 = .ok (.aload_n 0, 1) := by decide +kernel
theorem dX10_worst_49 : decode cX10_worst 49 = .ok (.getfield 7, 3) := by decide +kernel
theorem dX10_worst_52 : decode cX10_worst 52 = .ok (.iload_n 1, 1) := by decide +kernel
theorem dX10_worst_53 : decode cX10_worst 53 = .ok (.iload_n 3, 1) := by decide +kernel
theorem dX10_worst_54 : decode cX10_worst 54 = .ok (.invokestatic 119, 3) := by decide +kernel
theorem dX10_worst_57 : decode cX10_worst 57 = .ok (.ireturn, 1) := by decide +kernel
theorem dX10_fewest_0 : decode cX10_fewest 0 = .ok (.iload_n 1, 1) := by decide +kernel
theorem dX10_fewest_1 : decode cX10_fewest 1 = .ok (.invokestatic 79, 3) := by decide +kernel
theorem dX10_fewest_4 : decode cX10_fewest 4 = .ok (.ifCond .eq 13, 3) := by decide +kernel
theorem dX10_fewest_7 : decode cX10_fewest 7 = .ok (.iload_n 2, 1) := by decide +kernel
theorem dX10_fewest_8 : decode cX10_fewest 8 = .ok (.iconst 0, 1) := by decide +kernel
theorem dX10_fewest_9 : decode cX10_fewest 9 = .ok (.bipush 60, 2) := by decide +kernel
theorem dX10_fewest_11 : decode cX10_fewest 11 = .ok (.invokestatic 35, 3) := by decide +kernel
theorem dX10_fewest_14 : decode cX10_fewest 14 = .ok (.ifCond .ne 6, 3) := by decide +kernel
theorem dX10_fewest_17 : decode cX10_fewest 17 = .ok (.bipush (-2), 2) := by decide +kernel
theorem dX10_fewest_19 : decode cX10_fewest 19 = .ok (.ireturn, 1) := by decide +kernel
theorem dX10_fewest_20 : decode cX10_fewest 20 = .ok (.aload_n 0, 1) := by decide +kernel
theorem dX10_fewest_21 : decode cX10_fewest 21 = .ok (.getfield 7, 3) := by decide +kernel
theorem dX10_fewest_24 : decode cX10_fewest 24 = .ok (.iconst 0, 1) := by decide +kernel
theorem dX10_fewest_25 : decode cX10_fewest 25 = .ok (.iaload, 1) := by decide +kernel
theorem dX10_fewest_26 : decode cX10_fewest 26 = .ok (.ifCond .ne 6, 3) := by decide +kernel
theorem dX10_fewest_29 : decode cX10_fewest 29 = .ok (.bipush (-5), 2) := by decide +kernel
theorem dX10_fewest_31 : decode cX10_fewest 31 = .ok (.ireturn, 1) := by decide +kernel
theorem dX10_fewest_32 : decode cX10_fewest 32 = .ok (.iconst 1, 1) := by decide +kernel
theorem dX10_fewest_33 : decode cX10_fewest 33 = .ok (.istore_n 3, 1) := by decide +kernel
theorem dX10_fewest_34 : decode cX10_fewest 34 = .ok (.iload_n 3, 1) := by decide +kernel
theorem dX10_fewest_35 : decode cX10_fewest 35 = .ok (.bipush 10, 2) := by decide +kernel
theorem dX10_fewest_37 : decode cX10_fewest 37 = .ok (.if_icmp .gt 59, 3) := by decide +kernel
theorem dX10_fewest_40 : decode cX10_fewest 40 = .ok (.aload_n 0, 1) := by decide +kernel
theorem dX10_fewest_41 : decode cX10_fewest 41 = .ok (.getfield 7, 3) := by decide +kernel
theorem dX10_fewest_44 : decode cX10_fewest 44 = .ok (.iconst 0, 1) := by decide +kernel
theorem dX10_fewest_45 : decode cX10_fewest 45 = .ok (.aload_n 0, 1) := by decide +kernel
theorem dX10_fewest_46 : decode cX10_fewest 46 = .ok (.getfield 13, 3) := by decide +kernel
theorem dX10_fewest_49 : decode cX10_fewest 49 = .ok (.iconst 0, 1) := by decide +kernel
theorem dX10_fewest_50 : decode cX10_fewest 50 = .ok (.invokestatic 43, 3) := by decide +kernel
theorem dX10_fewest_53 : decode cX10_fewest 53 = .ok (.aload_n 0, 1) := by decide +kernel
theorem dX10_fewest_54 : decode cX10_fewest 54 = .ok (.getfield 13, 3) := by decide +kernel
theorem dX10_fewest_57 : decode cX10_fewest 57 = .ok (.iconst 4, 1) := by decide +kernel
theorem dX10_fewest_58 : decode cX10_fewest 58 = .ok (.iload_n 3, 1) := by decide +kernel
theorem dX10_fewest_59 : decode cX10_fewest 59 = .ok (.iastore, 1) := by decide +kernel
theorem dX10_fewest_60 : decode cX10_fewest 60 = .ok (.aload_n 0, 1) := by decide +kernel
theorem dX10_fewest_61 : decode cX10_fewest 61 = .ok (.aload_n 0, 1) := by decide +kernel
theorem dX10_fewest_62 : decode cX10_fewest 62 = .ok (.getfield 13, 3) := by decide +kernel
theorem dX10_fewest_65 : decode cX10_fewest 65 = .ok (.invokevirtual 126, 3) := by decide +kernel
theorem dX10_fewest_68 : decode cX10_fewest 68 = .ok (.aload_n 0, 1) := by decide +kernel
theorem dX10_fewest_69 : decode cX10_fewest 69 = .ok (.getfield 13, 3) := by decide +kernel
theorem dX10_fewest_72 : decode cX10_fewest 72 = .ok (.iload_n 1, 1) := by decide +kernel
theorem dX10_fewest_73 : decode cX10_fewest 73 = .ok (.aload_n 0, 1) := by decide +kernel
theorem dX10_fewest_74 : decode cX10_fewest 74 = .ok (.getfield 13, 3) := by decide +kernel
theorem dX10_fewest_77 : decode cX10_fewest 77 = .ok (.iload_n 1, 1) := by decide +kernel
theorem dX10_fewest_78 : decode cX10_fewest 78 = .ok (.invokestatic 122, 3) := by decide +kernel
theorem dX10_fewest_81 : decode cX10_fewest 81 = .ok (.invokestatic 119, 3) := by decide +kernel
theorem dX10_fewest_84 : decode cX10_fewest 84 = .ok (.iload_n 2, 1) := by decide +kernel
theorem dX10_fewest_85 : decode cX10_fewest 85 = .ok (.if_icmp .gt 5, 3) := by decide +kernel
theorem dX10_fewest_88 : decode cX10_fewest 88 = .ok (.iload_n 3, 1) := by decide +kernel
theorem dX10_fewest_89 : decode cX10_fewest 89 = .ok (.ireturn, 1) := by decide +kernel
theorem dX10_fewest_90 : decode cX10_fewest 90 = .ok (.iinc 3 1, 3) := by decide +kernel
theorem dX10_fewest_93 : decode cX10_fewest 93 = .ok (.goto (-59), 3) := by decide +kernel
theorem dX10_fewest_96 : decode cX10_fewest 96 = .ok (.bipush (-6), 2) := by decide +kernel
theorem dX10_fewest_98 : decode cX10_fewest 98 = .ok (.ireturn, 1) := by decide +kernel
theorem dX10_isFor_0 : decode cX10_isFor 0 = .ok (.iload_n 0, 1) := by decide +kernel
theorem dX10_isFor_1 : decode cX10_isFor 1 = .ok (.ifCond .ne 13, 3) := by decide +kernel
theorem dX10_isFor_4 : decode cX10_isFor 4 = .ok (.iload_n 1, 1) := by decide +kernel
theorem dX10_isFor_5 : decode cX10_isFor 5 = .ok (.iconst 1, 1) := by decide +kernel
theorem dX10_isFor_6 : decode cX10_isFor 6 = .ok (.bipush 10, 2) := by decide +kernel
theorem dX10_isFor_8 : decode cX10_isFor 8 = .ok (.invokestatic 35, 3) := by decide +kernel
theorem dX10_isFor_11 : decode cX10_isFor 11 = .ok (.goto 25, 3) := by decide +kernel
theorem dX10_isFor_14 : decode cX10_isFor 14 = .ok (.iload_n 0, 1) := by decide +kernel
theorem dX10_isFor_15 : decode cX10_isFor 15 = .ok (.iconst 3, 1) := by decide +kernel
theorem dX10_isFor_16 : decode cX10_isFor 16 = .ok (.if_icmp .ne 13, 3) := by decide +kernel
theorem dX10_isFor_19 : decode cX10_isFor 19 = .ok (.iload_n 1, 1) := by decide +kernel
theorem dX10_isFor_20 : decode cX10_isFor 20 = .ok (.iconst 0, 1) := by decide +kernel
theorem dX10_isFor_21 : decode cX10_isFor 21 = .ok (.bipush 100, 2) := by decide +kernel
theorem dX10_isFor_23 : decode cX10_isFor 23 = .ok (.invokestatic 35, 3) := by decide +kernel
theorem dX10_isFor_26 : decode cX10_isFor 26 = .ok (.goto 10, 3) := by decide +kernel
theorem dX10_isFor_29 : decode cX10_isFor 29 = .ok (.iload_n 1, 1) := by decide +kernel
theorem dX10_isFor_30 : decode cX10_isFor 30 = .ok (.iconst 0, 1) := by decide +kernel
theorem dX10_isFor_31 : decode cX10_isFor 31 = .ok (.bipush 6, 2) := by decide +kernel
theorem dX10_isFor_33 : decode cX10_isFor 33 = .ok (.invokestatic 35, 3) := by decide +kernel
theorem dX10_isFor_36 : decode cX10_isFor 36 = .ok (.ireturn, 1) := by decide +kernel
theorem dX10_sets_0 : decode cX10_sets 0 = .ok (.aload_n 0, 1) := by decide +kernel
theorem dX10_sets_1 : decode cX10_sets 1 = .ok (.getfield 7, 3) := by decide +kernel
theorem dX10_sets_4 : decode cX10_sets 4 = .ok (.iconst 4, 1) := by decide +kernel
theorem dX10_sets_5 : decode cX10_sets 5 = .ok (.iload_n 1, 1) := by decide +kernel
theorem dX10_sets_6 : decode cX10_sets 6 = .ok (.iadd, 1) := by decide +kernel
theorem dX10_sets_7 : decode cX10_sets 7 = .ok (.iaload, 1) := by decide +kernel
theorem dX10_sets_8 : decode cX10_sets 8 = .ok (.istore_n 3, 1) := by decide +kernel
theorem dX10_sets_9 : decode cX10_sets 9 = .ok (.aload_n 0, 1) := by decide +kernel
theorem dX10_sets_10 : decode cX10_sets 10 = .ok (.getfield 7, 3) := by decide +kernel
theorem dX10_sets_13 : decode cX10_sets 13 = .ok (.iconst 4, 1) := by decide +kernel
theorem dX10_sets_14 : decode cX10_sets 14 = .ok (.iload_n 1, 1) := by decide +kernel
theorem dX10_sets_15 : decode cX10_sets 15 = .ok (.iadd, 1) := by decide +kernel
theorem dX10_sets_16 : decode cX10_sets 16 = .ok (.iload_n 2, 1) := by decide +kernel
theorem dX10_sets_17 : decode cX10_sets 17 = .ok (.iastore, 1) := by decide +kernel
theorem dX10_sets_18 : decode cX10_sets 18 = .ok (.iload_n 3, 1) := by decide +kernel
theorem dX10_sets_19 : decode cX10_sets 19 = .ok (.ireturn, 1) := by decide +kernel
theorem dX10_set_0 : decode cX10_set 0 = .ok (.iload_n 1, 1) := by decide +kernel
theorem dX10_set_1 : decode cX10_set 1 = .ok (.iconst 0, 1) := by decide +kernel
theorem dX10_set_2 : decode cX10_set 2 = .ok (.iconst 3, 1) := by decide +kernel
theorem dX10_set_3 : decode cX10_set 3 = .ok (.invokestatic 35, 3) := by decide +kernel
theorem dX10_set_6 : decode cX10_set 6 = .ok (.ifCond .eq 11, 3) := by decide +kernel
theorem dX10_set_9 : decode cX10_set 9 = .ok (.iload_n 1, 1) := by decide +kernel
theorem dX10_set_10 : decode cX10_set 10 = .ok (.iload_n 2, 1) := by decide +kernel
theorem dX10_set_11 : decode cX10_set 11 = .ok (.invokestatic 129, 3) := by decide +kernel
theorem dX10_set_14 : decode cX10_set 14 = .ok (.ifCond .ne 6, 3) := by decide +kernel
theorem dX10_set_17 : decode cX10_set 17 = .ok (.bipush (-2), 2) := by decide +kernel
theorem dX10_set_19 : decode cX10_set 19 = .ok (.ireturn, 1) := by decide +kernel
theorem dX10_set_20 : decode cX10_set 20 = .ok (.aload_n 0, 1) := by decide +kernel
theorem dX10_set_21 : decode cX10_set 21 = .ok (.invokevirtual 47, 3) := by decide +kernel
theorem dX10_set_24 : decode cX10_set 24 = .ok (.aload_n 0, 1) := by decide +kernel
theorem dX10_set_25 : decode cX10_set 25 = .ok (.iload_n 1, 1) := by decide +kernel
theorem dX10_set_26 : decode cX10_set 26 = .ok (.iload_n 2, 1) := by decide +kernel
theorem dX10_set_27 : decode cX10_set 27 = .ok (.invokevirtual 132, 3) := by decide +kernel
theorem dX10_set_30 : decode cX10_set 30 = .ok (.ireturn, 1) := by decide +kernel
theorem dX10_mayCome_0 : decode cX10_mayCome 0 = .ok (.iload_n 1, 1) := by decide +kernel
theorem dX10_mayCome_1 : decode cX10_mayCome 1 = .ok (.invokestatic 75, 3) := by decide +kernel
theorem dX10_mayCome_4 : decode cX10_mayCome 4 = .ok (.ifCond .eq 10, 3) := by decide +kernel
theorem dX10_mayCome_7 : decode cX10_mayCome 7 = .ok (.iload_n 2, 1) := by decide +kernel
theorem dX10_mayCome_8 : decode cX10_mayCome 8 = .ok (.invokestatic 75, 3) := by decide +kernel
theorem dX10_mayCome_11 : decode cX10_mayCome 11 = .ok (.ifCond .ne 8, 3) := by decide +kernel
theorem dX10_mayCome_14 : decode cX10_mayCome 14 = .ok (.bipush (-2), 2) := by decide +kernel
theorem dX10_mayCome_16 : decode cX10_mayCome 16 = .ok (.goto 20, 3) := by decide +kernel
theorem dX10_mayCome_19 : decode cX10_mayCome 19 = .ok (.aload_n 0, 1) := by decide +kernel
theorem dX10_mayCome_20 : decode cX10_mayCome 20 = .ok (.getfield 7, 3) := by decide +kernel
theorem dX10_mayCome_23 : decode cX10_mayCome 23 = .ok (.iconst 0, 1) := by decide +kernel
theorem dX10_mayCome_24 : decode cX10_mayCome 24 = .ok (.iaload, 1) := by decide +kernel
theorem dX10_mayCome_25 : decode cX10_mayCome 25 = .ok (.bipush 60, 2) := by decide +kernel
theorem dX10_mayCome_27 : decode cX10_mayCome 27 = .ok (.if_icmp .ne 8, 3) := by decide +kernel
theorem dX10_mayCome_30 : decode cX10_mayCome 30 = .ok (.bipush (-4), 2) := by decide +kernel
theorem dX10_mayCome_32 : decode cX10_mayCome 32 = .ok (.goto 4, 3) := by decide +kernel
theorem dX10_mayCome_35 : decode cX10_mayCome 35 = .ok (.iconst 0, 1) := by decide +kernel
theorem dX10_mayCome_36 : decode cX10_mayCome 36 = .ok (.ireturn, 1) := by decide +kernel
theorem dX10_comes_0 : decode cX10_comes 0 = .ok (.aload_n 0, 1) := by decide +kernel
theorem dX10_comes_1 : decode cX10_comes 1 = .ok (.getfield 7, 3) := by decide +kernel
theorem dX10_comes_4 : decode cX10_comes 4 = .ok (.bipush 8, 2) := by decide +kernel
theorem dX10_comes_6 : decode cX10_comes 6 = .ok (.iconst 2, 1) := by decide +kernel
theorem dX10_comes_7 : decode cX10_comes 7 = .ok (.aload_n 0, 1) := by decide +kernel
theorem dX10_comes_8 : decode cX10_comes 8 = .ok (.getfield 7, 3) := by decide +kernel
theorem dX10_comes_11 : decode cX10_comes 11 = .ok (.iconst 0, 1) := by decide +kernel
theorem dX10_comes_12 : decode cX10_comes 12 = .ok (.iaload, 1) := by decide +kernel
theorem dX10_comes_13 : decode cX10_comes 13 = .ok (.imul, 1) := by decide +kernel
theorem dX10_comes_14 : decode cX10_comes 14 = .ok (.iadd, 1) := by decide +kernel
theorem dX10_comes_15 : decode cX10_comes 15 = .ok (.iload_n 1, 1) := by decide +kernel
theorem dX10_comes_16 : decode cX10_comes 16 = .ok (.iastore, 1) := by decide +kernel
theorem dX10_comes_17 : decode cX10_comes 17 = .ok (.aload_n 0, 1) := by decide +kernel
theorem dX10_comes_18 : decode cX10_comes 18 = .ok (.getfield 7, 3) := by decide +kernel
theorem dX10_comes_21 : decode cX10_comes 21 = .ok (.bipush 8, 2) := by decide +kernel
theorem dX10_comes_23 : decode cX10_comes 23 = .ok (.iconst 2, 1) := by decide +kernel
theorem dX10_comes_24 : decode cX10_comes 24 = .ok (.aload_n 0, 1) := by decide +kernel
theorem dX10_comes_25 : decode cX10_comes 25 = .ok (.getfield 7, 3) := by decide +kernel
theorem dX10_comes_28 : decode cX10_comes 28 = .ok (.iconst 0, 1) := by decide +kernel
theorem dX10_comes_29 : decode cX10_comes 29 = .ok (.iaload, 1) := by decide +kernel
theorem dX10_comes_30 : decode cX10_comes 30 = .ok (.imul, 1) := by decide +kernel
theorem dX10_comes_31 : decode cX10_comes 31 = .ok (.iadd, 1) := by decide +kernel
theorem dX10_comes_32 : decode cX10_comes 32 = .ok (.iconst 1, 1) := by decide +kernel
theorem dX10_comes_33 : decode cX10_comes 33 = .ok (.iadd, 1) := by decide +kernel
theorem dX10_comes_34 : decode cX10_comes 34 = .ok (.iload_n 2, 1) := by decide +kernel
theorem dX10_comes_35 : decode cX10_comes 35 = .ok (.iastore, 1) := by decide +kernel
theorem dX10_comes_36 : decode cX10_comes 36 = .ok (.aload_n 0, 1) := by decide +kernel
theorem dX10_comes_37 : decode cX10_comes 37 = .ok (.getfield 7, 3) := by decide +kernel
theorem dX10_comes_40 : decode cX10_comes 40 = .ok (.iconst 0, 1) := by decide +kernel
theorem dX10_comes_41 : decode cX10_comes 41 = .ok (.dup2, 1) := by decide +kernel
theorem dX10_comes_42 : decode cX10_comes 42 = .ok (.iaload, 1) := by decide +kernel
theorem dX10_comes_43 : decode cX10_comes 43 = .ok (.iconst 1, 1) := by decide +kernel
theorem dX10_comes_44 : decode cX10_comes 44 = .ok (.iadd, 1) := by decide +kernel
theorem dX10_comes_45 : decode cX10_comes 45 = .ok (.iastore, 1) := by decide +kernel
theorem dX10_comes_46 : decode cX10_comes 46 = .ok (.aload_n 0, 1) := by decide +kernel
theorem dX10_comes_47 : decode cX10_comes 47 = .ok (.getfield 7, 3) := by decide +kernel
theorem dX10_comes_50 : decode cX10_comes 50 = .ok (.iconst 3, 1) := by decide +kernel
theorem dX10_comes_51 : decode cX10_comes 51 = .ok (.dup2, 1) := by decide +kernel
theorem dX10_comes_52 : decode cX10_comes 52 = .ok (.iaload, 1) := by decide +kernel
theorem dX10_comes_53 : decode cX10_comes 53 = .ok (.aload_n 0, 1) := by decide +kernel
theorem dX10_comes_54 : decode cX10_comes 54 = .ok (.getfield 7, 3) := by decide +kernel
theorem dX10_comes_57 : decode cX10_comes 57 = .ok (.iconst 1, 1) := by decide +kernel
theorem dX10_comes_58 : decode cX10_comes 58 = .ok (.iaload, 1) := by decide +kernel
theorem dX10_comes_59 : decode cX10_comes 59 = .ok (.iadd, 1) := by decide +kernel
theorem dX10_comes_60 : decode cX10_comes 60 = .ok (.iastore, 1) := by decide +kernel
theorem dX10_comes_61 : decode cX10_comes 61 = .ok (.aload_n 0, 1) := by decide +kernel
theorem dX10_comes_62 : decode cX10_comes 62 = .ok (.getfield 7, 3) := by decide +kernel
theorem dX10_comes_65 : decode cX10_comes 65 = .ok (.iconst 0, 1) := by decide +kernel
theorem dX10_comes_66 : decode cX10_comes 66 = .ok (.iaload, 1) := by decide +kernel
theorem dX10_comes_67 : decode cX10_comes 67 = .ok (.iconst 1, 1) := by decide +kernel
theorem dX10_comes_68 : decode cX10_comes 68 = .ok (.isub, 1) := by decide +kernel
theorem dX10_comes_69 : decode cX10_comes 69 = .ok (.ireturn, 1) := by decide +kernel
theorem dX10_insert_0 : decode cX10_insert 0 = .ok (.aload_n 0, 1) := by decide +kernel
theorem dX10_insert_1 : decode cX10_insert 1 = .ok (.iload_n 1, 1) := by decide +kernel
theorem dX10_insert_2 : decode cX10_insert 2 = .ok (.iload_n 2, 1) := by decide +kernel
theorem dX10_insert_3 : decode cX10_insert 3 = .ok (.invokevirtual 136, 3) := by decide +kernel
theorem dX10_insert_6 : decode cX10_insert 6 = .ok (.istore_n 3, 1) := by decide +kernel
theorem dX10_insert_7 : decode cX10_insert 7 = .ok (.iload_n 3, 1) := by decide +kernel
theorem dX10_insert_8 : decode cX10_insert 8 = .ok (.ifCond .eq 5, 3) := by decide +kernel
theorem dX10_insert_11 : decode cX10_insert 11 = .ok (.iload_n 3, 1) := by decide +kernel
theorem dX10_insert_12 : decode cX10_insert 12 = .ok (.ireturn, 1) := by decide +kernel
theorem dX10_insert_13 : decode cX10_insert 13 = .ok (.aload_n 0, 1) := by decide +kernel
theorem dX10_insert_14 : decode cX10_insert 14 = .ok (.invokevirtual 47, 3) := by decide +kernel
theorem dX10_insert_17 : decode cX10_insert 17 = .ok (.aload_n 0, 1) := by decide +kernel
theorem dX10_insert_18 : decode cX10_insert 18 = .ok (.iload_n 1, 1) := by decide +kernel
theorem dX10_insert_19 : decode cX10_insert 19 = .ok (.iload_n 2, 1) := by decide +kernel
theorem dX10_insert_20 : decode cX10_insert 20 = .ok (.invokevirtual 139, 3) := by decide +kernel
theorem dX10_insert_23 : decode cX10_insert 23 = .ok (.ireturn, 1) := by decide +kernel
theorem dX10_isRow_0 : decode cX10_isRow 0 = .ok (.iload_n 1, 1) := by decide +kernel
theorem dX10_isRow_1 : decode cX10_isRow 1 = .ok (.iconst 0, 1) := by decide +kernel
end
section
theorem dX10_isRow_2 : decode cX10_isRow 2 = .ok (.aload_n 0, 1) := by decide +kernel
theorem dX10_isRow_3 : decode cX10_isRow 3 = .ok (.getfield 7, 3) := by decide +kernel
theorem dX10_isRow_6 : decode cX10_isRow 6 = .ok (.iconst 0, 1) := by decide +kernel
theorem dX10_isRow_7 : decode cX10_isRow 7 = .ok (.iaload, 1) := by decide +kernel
theorem dX10_isRow_8 : decode cX10_isRow 8 = .ok (.iconst 1, 1) := by decide +kernel
theorem dX10_isRow_9 : decode cX10_isRow 9 = .ok (.isub, 1) := by decide +kernel
theorem dX10_isRow_10 : decode cX10_isRow 10 = .ok (.invokestatic 35, 3) := by decide +kernel
theorem dX10_isRow_13 : decode cX10_isRow 13 = .ok (.ireturn, 1) := by decide +kernel
theorem dX10_goes_0 : decode cX10_goes 0 = .ok (.aload_n 0, 1) := by decide +kernel
theorem dX10_goes_1 : decode cX10_goes 1 = .ok (.getfield 7, 3) := by decide +kernel
theorem dX10_goes_4 : decode cX10_goes 4 = .ok (.iconst 0, 1) := by decide +kernel
theorem dX10_goes_5 : decode cX10_goes 5 = .ok (.dup2, 1) := by decide +kernel
theorem dX10_goes_6 : decode cX10_goes 6 = .ok (.iaload, 1) := by decide +kernel
theorem dX10_goes_7 : decode cX10_goes 7 = .ok (.iconst 1, 1) := by decide +kernel
theorem dX10_goes_8 : decode cX10_goes 8 = .ok (.isub, 1) := by decide +kernel
theorem dX10_goes_9 : decode cX10_goes 9 = .ok (.iastore, 1) := by decide +kernel
theorem dX10_goes_10 : decode cX10_goes 10 = .ok (.bipush 8, 2) := by decide +kernel
theorem dX10_goes_12 : decode cX10_goes 12 = .ok (.iconst 2, 1) := by decide +kernel
theorem dX10_goes_13 : decode cX10_goes 13 = .ok (.iload_n 1, 1) := by decide +kernel
theorem dX10_goes_14 : decode cX10_goes 14 = .ok (.imul, 1) := by decide +kernel
theorem dX10_goes_15 : decode cX10_goes 15 = .ok (.iadd, 1) := by decide +kernel
theorem dX10_goes_16 : decode cX10_goes 16 = .ok (.istore_n 2, 1) := by decide +kernel
theorem dX10_goes_17 : decode cX10_goes 17 = .ok (.iload_n 2, 1) := by decide +kernel
theorem dX10_goes_18 : decode cX10_goes 18 = .ok (.bipush 8, 2) := by decide +kernel
theorem dX10_goes_20 : decode cX10_goes 20 = .ok (.iconst 2, 1) := by decide +kernel
theorem dX10_goes_21 : decode cX10_goes 21 = .ok (.aload_n 0, 1) := by decide +kernel
theorem dX10_goes_22 : decode cX10_goes 22 = .ok (.getfield 7, 3) := by decide +kernel
theorem dX10_goes_25 : decode cX10_goes 25 = .ok (.iconst 0, 1) := by decide +kernel
theorem dX10_goes_26 : decode cX10_goes 26 = .ok (.iaload, 1) := by decide +kernel
theorem dX10_goes_27 : decode cX10_goes 27 = .ok (.imul, 1) := by decide +kernel
theorem dX10_goes_28 : decode cX10_goes 28 = .ok (.iadd, 1) := by decide +kernel
theorem dX10_goes_29 : decode cX10_goes 29 = .ok (.if_icmp .ge 23, 3) := by decide +kernel
theorem dX10_goes_32 : decode cX10_goes 32 = .ok (.aload_n 0, 1) := by decide +kernel
theorem dX10_goes_33 : decode cX10_goes 33 = .ok (.getfield 7, 3) := by decide +kernel
theorem dX10_goes_36 : decode cX10_goes 36 = .ok (.iload_n 2, 1) := by decide +kernel
theorem dX10_goes_37 : decode cX10_goes 37 = .ok (.aload_n 0, 1) := by decide +kernel
theorem dX10_goes_38 : decode cX10_goes 38 = .ok (.getfield 7, 3) := by decide +kernel
theorem dX10_goes_41 : decode cX10_goes 41 = .ok (.iload_n 2, 1) := by decide +kernel
theorem dX10_goes_42 : decode cX10_goes 42 = .ok (.iconst 2, 1) := by decide +kernel
theorem dX10_goes_43 : decode cX10_goes 43 = .ok (.iadd, 1) := by decide +kernel
theorem dX10_goes_44 : decode cX10_goes 44 = .ok (.iaload, 1) := by decide +kernel
theorem dX10_goes_45 : decode cX10_goes 45 = .ok (.iastore, 1) := by decide +kernel
theorem dX10_goes_46 : decode cX10_goes 46 = .ok (.iinc 2 1, 3) := by decide +kernel
theorem dX10_goes_49 : decode cX10_goes 49 = .ok (.goto (-32), 3) := by decide +kernel
theorem dX10_goes_52 : decode cX10_goes 52 = .ok (.aload_n 0, 1) := by decide +kernel
theorem dX10_goes_53 : decode cX10_goes 53 = .ok (.getfield 7, 3) := by decide +kernel
theorem dX10_goes_56 : decode cX10_goes 56 = .ok (.iconst 3, 1) := by decide +kernel
theorem dX10_goes_57 : decode cX10_goes 57 = .ok (.dup2, 1) := by decide +kernel
theorem dX10_goes_58 : decode cX10_goes 58 = .ok (.iaload, 1) := by decide +kernel
theorem dX10_goes_59 : decode cX10_goes 59 = .ok (.aload_n 0, 1) := by decide +kernel
theorem dX10_goes_60 : decode cX10_goes 60 = .ok (.getfield 7, 3) := by decide +kernel
theorem dX10_goes_63 : decode cX10_goes 63 = .ok (.iconst 1, 1) := by decide +kernel
theorem dX10_goes_64 : decode cX10_goes 64 = .ok (.iaload, 1) := by decide +kernel
theorem dX10_goes_65 : decode cX10_goes 65 = .ok (.iadd, 1) := by decide +kernel
theorem dX10_goes_66 : decode cX10_goes 66 = .ok (.iastore, 1) := by decide +kernel
theorem dX10_goes_67 : decode cX10_goes 67 = .ok (.aload_n 0, 1) := by decide +kernel
theorem dX10_goes_68 : decode cX10_goes 68 = .ok (.getfield 7, 3) := by decide +kernel
theorem dX10_goes_71 : decode cX10_goes 71 = .ok (.iconst 0, 1) := by decide +kernel
theorem dX10_goes_72 : decode cX10_goes 72 = .ok (.iaload, 1) := by decide +kernel
theorem dX10_goes_73 : decode cX10_goes 73 = .ok (.ireturn, 1) := by decide +kernel
theorem dX10_remove_0 : decode cX10_remove 0 = .ok (.aload_n 0, 1) := by decide +kernel
theorem dX10_remove_1 : decode cX10_remove 1 = .ok (.iload_n 1, 1) := by decide +kernel
theorem dX10_remove_2 : decode cX10_remove 2 = .ok (.invokevirtual 142, 3) := by decide +kernel
theorem dX10_remove_5 : decode cX10_remove 5 = .ok (.ifCond .ne 5, 3) := by decide +kernel
theorem dX10_remove_8 : decode cX10_remove 8 = .ok (.iconst (-1), 1) := by decide +kernel
theorem dX10_remove_9 : decode cX10_remove 9 = .ok (.ireturn, 1) := by decide +kernel
theorem dX10_remove_10 : decode cX10_remove 10 = .ok (.aload_n 0, 1) := by decide +kernel
theorem dX10_remove_11 : decode cX10_remove 11 = .ok (.invokevirtual 47, 3) := by decide +kernel
theorem dX10_remove_14 : decode cX10_remove 14 = .ok (.aload_n 0, 1) := by decide +kernel
theorem dX10_remove_15 : decode cX10_remove 15 = .ok (.iload_n 1, 1) := by decide +kernel
theorem dX10_remove_16 : decode cX10_remove 16 = .ok (.invokevirtual 145, 3) := by decide +kernel
theorem dX10_remove_19 : decode cX10_remove 19 = .ok (.ireturn, 1) := by decide +kernel
theorem dX10_analyse_0 : decode cX10_analyse 0 = .ok (.aload_n 0, 1) := by decide +kernel
theorem dX10_analyse_1 : decode cX10_analyse 1 = .ok (.getfield 7, 3) := by decide +kernel
theorem dX10_analyse_4 : decode cX10_analyse 4 = .ok (.iconst 0, 1) := by decide +kernel
theorem dX10_analyse_5 : decode cX10_analyse 5 = .ok (.iaload, 1) := by decide +kernel
theorem dX10_analyse_6 : decode cX10_analyse 6 = .ok (.ifCond .ne 6, 3) := by decide +kernel
theorem dX10_analyse_9 : decode cX10_analyse 9 = .ok (.bipush (-5), 2) := by decide +kernel
theorem dX10_analyse_11 : decode cX10_analyse 11 = .ok (.ireturn, 1) := by decide +kernel
theorem dX10_analyse_12 : decode cX10_analyse 12 = .ok (.aload_n 0, 1) := by decide +kernel
theorem dX10_analyse_13 : decode cX10_analyse 13 = .ok (.invokevirtual 47, 3) := by decide +kernel
theorem dX10_analyse_16 : decode cX10_analyse 16 = .ok (.aload_n 0, 1) := by decide +kernel
theorem dX10_analyse_17 : decode cX10_analyse 17 = .ok (.aload_n 0, 1) := by decide +kernel
theorem dX10_analyse_18 : decode cX10_analyse 18 = .ok (.getfield 7, 3) := by decide +kernel
theorem dX10_analyse_21 : decode cX10_analyse 21 = .ok (.invokevirtual 126, 3) := by decide +kernel
theorem dX10_analyse_24 : decode cX10_analyse 24 = .ok (.aload_n 0, 1) := by decide +kernel
theorem dX10_analyse_25 : decode cX10_analyse 25 = .ok (.getfield 7, 3) := by decide +kernel
theorem dX10_analyse_28 : decode cX10_analyse 28 = .ok (.iconst 2, 1) := by decide +kernel
theorem dX10_analyse_29 : decode cX10_analyse 29 = .ok (.iaload, 1) := by decide +kernel
theorem dX10_analyse_30 : decode cX10_analyse 30 = .ok (.ireturn, 1) := by decide +kernel
theorem dX10_row_0 : decode cX10_row 0 = .ok (.aload_n 0, 1) := by decide +kernel
theorem dX10_row_1 : decode cX10_row 1 = .ok (.iload_n 1, 1) := by decide +kernel
theorem dX10_row_2 : decode cX10_row 2 = .ok (.invokevirtual 142, 3) := by decide +kernel
theorem dX10_row_5 : decode cX10_row 5 = .ok (.ifCond .ne 5, 3) := by decide +kernel
theorem dX10_row_8 : decode cX10_row 8 = .ok (.iconst (-1), 1) := by decide +kernel
theorem dX10_row_9 : decode cX10_row 9 = .ok (.ireturn, 1) := by decide +kernel
theorem dX10_row_10 : decode cX10_row 10 = .ok (.iload_n 2, 1) := by decide +kernel
theorem dX10_row_11 : decode cX10_row 11 = .ok (.invokestatic 79, 3) := by decide +kernel
theorem dX10_row_14 : decode cX10_row 14 = .ok (.ifCond .eq 15, 3) := by decide +kernel
theorem dX10_row_17 : decode cX10_row 17 = .ok (.aload_n 0, 1) := by decide +kernel
theorem dX10_row_18 : decode cX10_row 18 = .ok (.getfield 7, 3) := by decide +kernel
theorem dX10_row_21 : decode cX10_row 21 = .ok (.iload_n 1, 1) := by decide +kernel
theorem dX10_row_22 : decode cX10_row 22 = .ok (.iload_n 2, 1) := by decide +kernel
theorem dX10_row_23 : decode cX10_row 23 = .ok (.invokestatic 54, 3) := by decide +kernel
theorem dX10_row_26 : decode cX10_row 26 = .ok (.goto 5, 3) := by decide +kernel
theorem dX10_row_29 : decode cX10_row 29 = .ok (.bipush (-2), 2) := by decide +kernel
theorem dX10_row_31 : decode cX10_row 31 = .ok (.ireturn, 1) := by decide +kernel
theorem dX10_bucket_0 : decode cX10_bucket 0 = .ok (.iload_n 1, 1) := by decide +kernel
theorem dX10_bucket_1 : decode cX10_bucket 1 = .ok (.invokestatic 79, 3) := by decide +kernel
theorem dX10_bucket_4 : decode cX10_bucket 4 = .ok (.ifCond .eq 12, 3) := by decide +kernel
theorem dX10_bucket_7 : decode cX10_bucket 7 = .ok (.iload_n 3, 1) := by decide +kernel
theorem dX10_bucket_8 : decode cX10_bucket 8 = .ok (.iconst 0, 1) := by decide +kernel
theorem dX10_bucket_9 : decode cX10_bucket 9 = .ok (.iconst 3, 1) := by decide +kernel
theorem dX10_bucket_10 : decode cX10_bucket 10 = .ok (.invokestatic 35, 3) := by decide +kernel
theorem dX10_bucket_13 : decode cX10_bucket 13 = .ok (.ifCond .ne 6, 3) := by decide +kernel
theorem dX10_bucket_16 : decode cX10_bucket 16 = .ok (.bipush (-2), 2) := by decide +kernel
theorem dX10_bucket_18 : decode cX10_bucket 18 = .ok (.ireturn, 1) := by decide +kernel
theorem dX10_bucket_19 : decode cX10_bucket 19 = .ok (.iload_n 2, 1) := by decide +kernel
theorem dX10_bucket_20 : decode cX10_bucket 20 = .ok (.iconst 0, 1) := by decide +kernel
theorem dX10_bucket_21 : decode cX10_bucket 21 = .ok (.aload_n 0, 1) := by decide +kernel
theorem dX10_bucket_22 : decode cX10_bucket 22 = .ok (.getfield 7, 3) := by decide +kernel
theorem dX10_bucket_25 : decode cX10_bucket 25 = .ok (.sipush 128, 3) := by decide +kernel
theorem dX10_bucket_28 : decode cX10_bucket 28 = .ok (.iload_n 1, 1) := by decide +kernel
theorem dX10_bucket_29 : decode cX10_bucket 29 = .ok (.iadd, 1) := by decide +kernel
theorem dX10_bucket_30 : decode cX10_bucket 30 = .ok (.iaload, 1) := by decide +kernel
theorem dX10_bucket_31 : decode cX10_bucket 31 = .ok (.iconst 1, 1) := by decide +kernel
theorem dX10_bucket_32 : decode cX10_bucket 32 = .ok (.isub, 1) := by decide +kernel
theorem dX10_bucket_33 : decode cX10_bucket 33 = .ok (.invokestatic 35, 3) := by decide +kernel
theorem dX10_bucket_36 : decode cX10_bucket 36 = .ok (.ifCond .eq 25, 3) := by decide +kernel
theorem dX10_bucket_39 : decode cX10_bucket 39 = .ok (.aload_n 0, 1) := by decide +kernel
theorem dX10_bucket_40 : decode cX10_bucket 40 = .ok (.getfield 7, 3) := by decide +kernel
theorem dX10_bucket_43 : decode cX10_bucket 43 = .ok (.sipush 130, 3) := by decide +kernel
theorem dX10_bucket_46 : decode cX10_bucket 46 = .ok (.bipush 40, 2) := by decide +kernel
theorem dX10_bucket_48 : decode cX10_bucket 48 = .ok (.iload_n 1, 1) := by decide +kernel
theorem dX10_bucket_49 : decode cX10_bucket 49 = .ok (.imul, 1) := by decide +kernel
theorem dX10_bucket_50 : decode cX10_bucket 50 = .ok (.iadd, 1) := by decide +kernel
theorem dX10_bucket_51 : decode cX10_bucket 51 = .ok (.iconst 4, 1) := by decide +kernel
theorem dX10_bucket_52 : decode cX10_bucket 52 = .ok (.iload_n 2, 1) := by decide +kernel
theorem dX10_bucket_53 : decode cX10_bucket 53 = .ok (.imul, 1) := by decide +kernel
theorem dX10_bucket_54 : decode cX10_bucket 54 = .ok (.iadd, 1) := by decide +kernel
theorem dX10_bucket_55 : decode cX10_bucket 55 = .ok (.iload_n 3, 1) := by decide +kernel
theorem dX10_bucket_56 : decode cX10_bucket 56 = .ok (.iadd, 1) := by decide +kernel
theorem dX10_bucket_57 : decode cX10_bucket 57 = .ok (.iaload, 1) := by decide +kernel
theorem dX10_bucket_58 : decode cX10_bucket 58 = .ok (.goto 4, 3) := by decide +kernel
theorem dX10_bucket_61 : decode cX10_bucket 61 = .ok (.iconst (-1), 1) := by decide +kernel
theorem dX10_bucket_62 : decode cX10_bucket 62 = .ok (.ireturn, 1) := by decide +kernel
theorem dX10_common_0 : decode cX10_common 0 = .ok (.iload_n 1, 1) := by decide +kernel
theorem dX10_common_1 : decode cX10_common 1 = .ok (.invokestatic 79, 3) := by decide +kernel
theorem dX10_common_4 : decode cX10_common 4 = .ok (.ifCond .eq 12, 3) := by decide +kernel
theorem dX10_common_7 : decode cX10_common 7 = .ok (.iload_n 3, 1) := by decide +kernel
theorem dX10_common_8 : decode cX10_common 8 = .ok (.iconst 0, 1) := by decide +kernel
theorem dX10_common_9 : decode cX10_common 9 = .ok (.iconst 1, 1) := by decide +kernel
theorem dX10_common_10 : decode cX10_common 10 = .ok (.invokestatic 35, 3) := by decide +kernel
theorem dX10_common_13 : decode cX10_common 13 = .ok (.ifCond .ne 6, 3) := by decide +kernel
theorem dX10_common_16 : decode cX10_common 16 = .ok (.bipush (-2), 2) := by decide +kernel
theorem dX10_common_18 : decode cX10_common 18 = .ok (.ireturn, 1) := by decide +kernel
theorem dX10_common_19 : decode cX10_common 19 = .ok (.iload_n 2, 1) := by decide +kernel
theorem dX10_common_20 : decode cX10_common 20 = .ok (.iconst 0, 1) := by decide +kernel
theorem dX10_common_21 : decode cX10_common 21 = .ok (.aload_n 0, 1) := by decide +kernel
theorem dX10_common_22 : decode cX10_common 22 = .ok (.getfield 7, 3) := by decide +kernel
theorem dX10_common_25 : decode cX10_common 25 = .ok (.sipush 210, 3) := by decide +kernel
theorem dX10_common_28 : decode cX10_common 28 = .ok (.iload_n 1, 1) := by decide +kernel
theorem dX10_common_29 : decode cX10_common 29 = .ok (.iadd, 1) := by decide +kernel
theorem dX10_common_30 : decode cX10_common 30 = .ok (.iaload, 1) := by decide +kernel
theorem dX10_common_31 : decode cX10_common 31 = .ok (.iconst 1, 1) := by decide +kernel
theorem dX10_common_32 : decode cX10_common 32 = .ok (.isub, 1) := by decide +kernel
theorem dX10_common_33 : decode cX10_common 33 = .ok (.invokestatic 35, 3) := by decide +kernel
theorem dX10_common_36 : decode cX10_common 36 = .ok (.ifCond .eq 25, 3) := by decide +kernel
theorem dX10_common_39 : decode cX10_common 39 = .ok (.aload_n 0, 1) := by decide +kernel
theorem dX10_common_40 : decode cX10_common 40 = .ok (.getfield 7, 3) := by decide +kernel
theorem dX10_common_43 : decode cX10_common 43 = .ok (.sipush 212, 3) := by decide +kernel
theorem dX10_common_46 : decode cX10_common 46 = .ok (.bipush 12, 2) := by decide +kernel
theorem dX10_common_48 : decode cX10_common 48 = .ok (.iload_n 1, 1) := by decide +kernel
theorem dX10_common_49 : decode cX10_common 49 = .ok (.imul, 1) := by decide +kernel
theorem dX10_common_50 : decode cX10_common 50 = .ok (.iadd, 1) := by decide +kernel
theorem dX10_common_51 : decode cX10_common 51 = .ok (.iconst 2, 1) := by decide +kernel
theorem dX10_common_52 : decode cX10_common 52 = .ok (.iload_n 2, 1) := by decide +kernel
theorem dX10_common_53 : decode cX10_common 53 = .ok (.imul, 1) := by decide +kernel
theorem dX10_common_54 : decode cX10_common 54 = .ok (.iadd, 1) := by decide +kernel
theorem dX10_common_55 : decode cX10_common 55 = .ok (.iload_n 3, 1) := by decide +kernel
theorem dX10_common_56 : decode cX10_common 56 = .ok (.iadd, 1) := by decide +kernel
theorem dX10_common_57 : decode cX10_common 57 = .ok (.iaload, 1) := by decide +kernel
theorem dX10_common_58 : decode cX10_common 58 = .ok (.goto 4, 3) := by decide +kernel
theorem dX10_common_61 : decode cX10_common 61 = .ok (.iconst (-1), 1) := by decide +kernel
theorem dX10_common_62 : decode cX10_common 62 = .ok (.ireturn, 1) := by decide +kernel
theorem dX10_pair_0 : decode cX10_pair 0 = .ok (.iload_n 2, 1) := by decide +kernel
theorem dX10_pair_1 : decode cX10_pair 1 = .ok (.iconst 0, 1) := by decide +kernel
theorem dX10_pair_2 : decode cX10_pair 2 = .ok (.iconst 2, 1) := by decide +kernel
theorem dX10_pair_3 : decode cX10_pair 3 = .ok (.invokestatic 35, 3) := by decide +kernel
theorem dX10_pair_6 : decode cX10_pair 6 = .ok (.ifCond .ne 6, 3) := by decide +kernel
theorem dX10_pair_9 : decode cX10_pair 9 = .ok (.bipush (-2), 2) := by decide +kernel
theorem dX10_pair_11 : decode cX10_pair 11 = .ok (.ireturn, 1) := by decide +kernel
theorem dX10_pair_12 : decode cX10_pair 12 = .ok (.iload_n 1, 1) := by decide +kernel
theorem dX10_pair_13 : decode cX10_pair 13 = .ok (.iconst 0, 1) := by decide +kernel
theorem dX10_pair_14 : decode cX10_pair 14 = .ok (.aload_n 0, 1) := by decide +kernel
theorem dX10_pair_15 : decode cX10_pair 15 = .ok (.getfield 7, 3) := by decide +kernel
theorem dX10_pair_18 : decode cX10_pair 18 = .ok (.sipush 236, 3) := by decide +kernel
theorem dX10_pair_21 : decode cX10_pair 21 = .ok (.iaload, 1) := by decide +kernel
theorem dX10_pair_22 : decode cX10_pair 22 = .ok (.iconst 1, 1) := by decide +kernel
theorem dX10_pair_23 : decode cX10_pair 23 = .ok (.isub, 1) := by decide +kernel
theorem dX10_pair_24 : decode cX10_pair 24 = .ok (.invokestatic 35, 3) := by decide +kernel
theorem dX10_pair_27 : decode cX10_pair 27 = .ok (.ifCond .eq 20, 3) := by decide +kernel
theorem dX10_pair_30 : decode cX10_pair 30 = .ok (.aload_n 0, 1) := by decide +kernel
theorem dX10_pair_31 : decode cX10_pair 31 = .ok (.getfield 7, 3) := by decide +kernel
theorem dX10_pair_34 : decode cX10_pair 34 = .ok (.sipush 237, 3) := by decide +kernel
theorem dX10_pair_37 : decode cX10_pair 37 = .ok (.iconst 3, 1) := by decide +kernel
theorem dX10_pair_38 : decode cX10_pair 38 = .ok (.iload_n 1, 1) := by decide +kernel
theorem dX10_pair_39 : decode cX10_pair 39 = .ok (.imul, 1) := by decide +kernel
theorem dX10_pair_40 : decode cX10_pair 40 = .ok (.iadd, 1) := by decide +kernel
theorem dX10_pair_41 : decode cX10_pair 41 = .ok (.iload_n 2, 1) := by decide +kernel
theorem dX10_pair_42 : decode cX10_pair 42 = .ok (.iadd, 1) := by decide +kernel
theorem dX10_pair_43 : decode cX10_pair 43 = .ok (.iaload, 1) := by decide +kernel
theorem dX10_pair_44 : decode cX10_pair 44 = .ok (.goto 4, 3) := by decide +kernel
theorem dX10_pair_47 : decode cX10_pair 47 = .ok (.iconst (-1), 1) := by decide +kernel
theorem dX10_pair_48 : decode cX10_pair 48 = .ok (.ireturn, 1) := by decide +kernel
theorem dX10_count_0 : decode cX10_count 0 = .ok (.iload_n 1, 1) := by decide +kernel
theorem dX10_count_1 : decode cX10_count 1 = .ok (.iconst 0, 1) := by decide +kernel
theorem dX10_count_2 : decode cX10_count 2 = .ok (.bipush 14, 2) := by decide +kernel
theorem dX10_count_4 : decode cX10_count 4 = .ok (.invokestatic 35, 3) := by decide +kernel
theorem dX10_count_7 : decode cX10_count 7 = .ok (.ifCond .ne 6, 3) := by decide +kernel
theorem dX10_count_10 : decode cX10_count 10 = .ok (.bipush (-2), 2) := by decide +kernel
theorem dX10_count_12 : decode cX10_count 12 = .ok (.ireturn, 1) := by decide +kernel
theorem dX10_count_13 : decode cX10_count 13 = .ok (.iload_n 1, 1) := by decide +kernel
theorem dX10_count_14 : decode cX10_count 14 = .ok (.iconst 3, 1) := by decide +kernel
theorem dX10_count_15 : decode cX10_count 15 = .ok (.if_icmp .ge 27, 3) := by decide +kernel
theorem dX10_count_18 : decode cX10_count 18 = .ok (.aload_n 0, 1) := by decide +kernel
theorem dX10_count_19 : decode cX10_count 19 = .ok (.getfield 7, 3) := by decide +kernel
theorem dX10_count_22 : decode cX10_count 22 = .ok (.iload_n 1, 1) := by decide +kernel
theorem dX10_count_23 : decode cX10_count 23 = .ok (.ifCond .ne 7, 3) := by decide +kernel
theorem dX10_count_26 : decode cX10_count 26 = .ok (.iconst 0, 1) := by decide +kernel
theorem dX10_count_27 : decode cX10_count 27 = .ok (.goto 13, 3) := by decide +kernel
theorem dX10_count_30 : decode cX10_count 30 = .ok (.iload_n 1, 1) := by decide +kernel
theorem dX10_count_31 : decode cX10_count 31 = .ok (.iconst 1, 1) := by decide +kernel
theorem dX10_count_32 : decode cX10_count 32 = .ok (.if_icmp .ne 7, 3) := by decide +kernel
theorem dX10_count_35 : decode cX10_count 35 = .ok (.iconst 2, 1) := by decide +kernel
theorem dX10_count_36 : decode cX10_count 36 = .ok (.goto 4, 3) := by decide +kernel
theorem dX10_count_39 : decode cX10_count 39 = .ok (.iconst 3, 1) := by decide +kernel
theorem dX10_count_40 : decode cX10_count 40 = .ok (.iaload, 1) := by decide +kernel
theorem dX10_count_41 : decode cX10_count 41 = .ok (.ireturn, 1) := by decide +kernel
theorem dX10_count_42 : decode cX10_count 42 = .ok (.iload_n 1, 1) := by decide +kernel
theorem dX10_count_43 : decode cX10_count 43 = .ok (.bipush 9, 2) := by decide +kernel
theorem dX10_count_45 : decode cX10_count 45 = .ok (.if_icmp .ge 110, 3) := by decide +kernel
theorem dX10_count_48 : decode cX10_count 48 = .ok (.aload_n 0, 1) := by decide +kernel
theorem dX10_count_49 : decode cX10_count 49 = .ok (.getfield 7, 3) := by decide +kernel
theorem dX10_count_52 : decode cX10_count 52 = .ok (.iconst 1, 1) := by decide +kernel
theorem dX10_count_53 : decode cX10_count 53 = .ok (.iaload, 1) := by decide +kernel
theorem dX10_count_54 : decode cX10_count 54 = .ok (.ifCond .ne 8, 3) := by decide +kernel
theorem dX10_count_57 : decode cX10_count 57 = .ok (.bipush (-6), 2) := by decide +kernel
theorem dX10_count_59 : decode cX10_count 59 = .ok (.goto 34, 3) := by decide +kernel
theorem dX10_count_62 : decode cX10_count 62 = .ok (.bipush 100, 2) := by decide +kernel
theorem dX10_count_64 : decode cX10_count 64 = .ok (.aload_n 0, 1) := by decide +kernel
theorem dX10_count_65 : decode cX10_count 65 = .ok (.getfield 7, 3) := by decide +kernel
theorem dX10_count_68 : decode cX10_count 68 = .ok (.iconst 3, 1) := by decide +kernel
theorem dX10_count_69 : decode cX10_count 69 = .ok (.iaload, 1) := by decide +kernel
theorem dX10_count_70 : decode cX10_count 70 = .ok (.imul, 1) := by decide +kernel
theorem dX10_count_71 : decode cX10_count 71 = .ok (.aload_n 0, 1) := by decide +kernel
theorem dX10_count_72 : decode cX10_count 72 = .ok (.getfield 7, 3) := by decide +kernel
theorem dX10_count_75 : decode cX10_count 75 = .ok (.bipush 7, 2) := by decide +kernel
theorem dX10_count_77 : decode cX10_count 77 = .ok (.iaload, 1) := by decide +kernel
theorem dX10_count_78 : decode cX10_count 78 = .ok (.aload_n 0, 1) := by decide +kernel
theorem dX10_count_79 : decode cX10_count 79 = .ok (.getfield 7, 3) := by decide +kernel
theorem dX10_count_82 : decode cX10_count 82 = .ok (.iconst 2, 1) := by decide +kernel
theorem dX10_count_83 : decode cX10_count 83 = .ok (.iaload, 1) := by decide +kernel
theorem dX10_count_84 : decode cX10_count 84 = .ok (.imul, 1) := by decide +kernel
theorem dX10_count_85 : decode cX10_count 85 = .ok (.if_icmp .le 7, 3) := by decide +kernel
theorem dX10_count_88 : decode cX10_count 88 = .ok (.iconst 1, 1) := by decide +kernel
theorem dX10_count_89 : decode cX10_count 89 = .ok (.goto 4, 3) := by decide +kernel
theorem dX10_count_92 : decode cX10_count 92 = .ok (.iconst 0, 1) := by decide +kernel
theorem dX10_count_93 : decode cX10_count 93 = .ok (.istore_n 2, 1) := by decide +kernel
theorem dX10_count_94 : decode cX10_count 94 = .ok (.iload_n 1, 1) := by decide +kernel
theorem dX10_count_95 : decode cX10_count 95 = .ok (.iconst 3, 1) := by decide +kernel
theorem dX10_count_96 : decode cX10_count 96 = .ok (.if_icmp .ne 7, 3) := by decide +kernel
theorem dX10_count_99 : decode cX10_count 99 = .ok (.iload_n 2, 1) := by decide +kernel
theorem dX10_count_100 : decode cX10_count 100 = .ok (.goto 54, 3) := by decide +kernel
theorem dX10_count_103 : decode cX10_count 103 = .ok (.iload_n 1, 1) := by decide +kernel
theorem dX10_count_104 : decode cX10_count 104 = .ok (.bipush 6, 2) := by decide +kernel
theorem dX10_count_106 : decode cX10_count 106 = .ok (.if_icmp .ge 18, 3) := by decide +kernel
theorem dX10_count_109 : decode cX10_count 109 = .ok (.aload_n 0, 1) := by decide +kernel
theorem dX10_count_110 : decode cX10_count 110 = .ok (.getfield 7, 3) := by decide +kernel
theorem dX10_count_113 : decode cX10_count 113 = .ok (.sipush 128, 3) := by decide +kernel
theorem dX10_count_116 : decode cX10_count 116 = .ok (.iload_n 1, 1) := by decide +kernel
theorem dX10_count_117 : decode cX10_count 117 = .ok (.iadd, 1) := by decide +kernel
theorem dX10_count_118 : decode cX10_count 118 = .ok (.iconst 4, 1) := by decide +kernel
theorem dX10_count_119 : decode cX10_count 119 = .ok (.isub, 1) := by decide +kernel
theorem dX10_count_120 : decode cX10_count 120 = .ok (.iaload, 1) := by decide +kernel
theorem dX10_count_121 : decode cX10_count 121 = .ok (.goto 33, 3) := by decide +kernel
theorem dX10_count_124 : decode cX10_count 124 = .ok (.iload_n 1, 1) := by decide +kernel
theorem dX10_count_125 : decode cX10_count 125 = .ok (.bipush 8, 2) := by decide +kernel
theorem dX10_count_127 : decode cX10_count 127 = .ok (.if_icmp .ge 19, 3) := by decide +kernel
theorem dX10_count_130 : decode cX10_count 130 = .ok (.aload_n 0, 1) := by decide +kernel
theorem dX10_count_131 : decode cX10_count 131 = .ok (.getfield 7, 3) := by decide +kernel
theorem dX10_count_134 : decode cX10_count 134 = .ok (.sipush 210, 3) := by decide +kernel
theorem dX10_count_137 : decode cX10_count 137 = .ok (.iload_n 1, 1) := by decide +kernel
theorem dX10_count_138 : decode cX10_count 138 = .ok (.iadd, 1) := by decide +kernel
theorem dX10_count_139 : decode cX10_count 139 = .ok (.bipush 6, 2) := by decide +kernel
theorem dX10_count_141 : decode cX10_count 141 = .ok (.isub, 1) := by decide +kernel
theorem dX10_count_142 : decode cX10_count 142 = .ok (.iaload, 1) := by decide +kernel
theorem dX10_count_143 : decode cX10_count 143 = .ok (.goto 11, 3) := by decide +kernel
theorem dX10_count_146 : decode cX10_count 146 = .ok (.aload_n 0, 1) := by decide +kernel
theorem dX10_count_147 : decode cX10_count 147 = .ok (.getfield 7, 3) := by decide +kernel
theorem dX10_count_150 : decode cX10_count 150 = .ok (.sipush 236, 3) := by decide +kernel
theorem dX10_count_153 : decode cX10_count 153 = .ok (.iaload, 1) := by decide +kernel
theorem dX10_count_154 : decode cX10_count 154 = .ok (.ireturn, 1) := by decide +kernel
theorem dX10_count_155 : decode cX10_count 155 = .ok (.iload_n 1, 1) := by decide +kernel
theorem dX10_count_156 : decode cX10_count 156 = .ok (.bipush 13, 2) := by decide +kernel
theorem dX10_count_158 : decode cX10_count 158 = .ok (.if_icmp .ge 17, 3) := by decide +kernel
theorem dX10_count_161 : decode cX10_count 161 = .ok (.aload_n 0, 1) := by decide +kernel
theorem dX10_count_162 : decode cX10_count 162 = .ok (.getfield 7, 3) := by decide +kernel
theorem dX10_count_165 : decode cX10_count 165 = .ok (.iconst 4, 1) := by decide +kernel
theorem dX10_count_166 : decode cX10_count 166 = .ok (.iload_n 1, 1) := by decide +kernel
theorem dX10_count_167 : decode cX10_count 167 = .ok (.iadd, 1) := by decide +kernel
theorem dX10_count_168 : decode cX10_count 168 = .ok (.bipush 9, 2) := by decide +kernel
theorem dX10_count_170 : decode cX10_count 170 = .ok (.isub, 1) := by decide +kernel
theorem dX10_count_171 : decode cX10_count 171 = .ok (.iaload, 1) := by decide +kernel
theorem dX10_count_172 : decode cX10_count 172 = .ok (.goto 20, 3) := by decide +kernel
theorem dX10_count_175 : decode cX10_count 175 = .ok (.iload_n 1, 1) := by decide +kernel
theorem dX10_count_176 : decode cX10_count 176 = .ok (.bipush 13, 2) := by decide +kernel
theorem dX10_count_178 : decode cX10_count 178 = .ok (.if_icmp .ne 10, 3) := by decide +kernel
theorem dX10_count_181 : decode cX10_count 181 = .ok (.aload_n 0, 1) := by decide +kernel
theorem dX10_count_182 : decode cX10_count 182 = .ok (.getfield 148, 3) := by decide +kernel
theorem dX10_count_185 : decode cX10_count 185 = .ok (.goto 7, 3) := by decide +kernel
theorem dX10_count_188 : decode cX10_count 188 = .ok (.aload_n 0, 1) := by decide +kernel
theorem dX10_count_189 : decode cX10_count 189 = .ok (.getfield 39, 3) := by decide +kernel
theorem dX10_count_192 : decode cX10_count 192 = .ok (.ireturn, 1) := by decide +kernel
theorem dX10_byteOf_0 : decode cX10_byteOf 0 = .ok (.lload_n 0, 1) := by decide +kernel
theorem dX10_byteOf_1 : decode cX10_byteOf 1 = .ok (.bipush 8, 2) := by decide +kernel
theorem dX10_byteOf_3 : decode cX10_byteOf 3 = .ok (.iload_n 2, 1) := by decide +kernel
theorem dX10_byteOf_4 : decode cX10_byteOf 4 = .ok (.imul, 1) := by decide +kernel
theorem dX10_byteOf_5 : decode cX10_byteOf 5 = .ok (.lshr, 1) := by decide +kernel
theorem dX10_byteOf_6 : decode cX10_byteOf 6 = .ok (.ldc2_w 151, 3) := by decide +kernel
theorem dX10_byteOf_9 : decode cX10_byteOf 9 = .ok (.land, 1) := by decide +kernel
theorem dX10_byteOf_10 : decode cX10_byteOf 10 = .ok (.l2i, 1) := by decide +kernel
theorem dX10_byteOf_11 : decode cX10_byteOf 11 = .ok (.ireturn, 1) := by decide +kernel
theorem dX10_toldBy_0 : decode cX10_toldBy 0 = .ok (.iconst 0, 1) := by decide +kernel
theorem dX10_toldBy_1 : decode cX10_toldBy 1 = .ok (.istore_n 2, 1) := by decide +kernel
theorem dX10_toldBy_2 : decode cX10_toldBy 2 = .ok (.iload_n 2, 1) := by decide +kernel
theorem dX10_toldBy_3 : decode cX10_toldBy 3 = .ok (.bipush 8, 2) := by decide +kernel
theorem dX10_toldBy_5 : decode cX10_toldBy 5 = .ok (.if_icmp .ge 35, 3) := by decide +kernel
theorem dX10_toldBy_8 : decode cX10_toldBy 8 = .ok (.lload_n 0, 1) := by decide +kernel
theorem dX10_toldBy_9 : decode cX10_toldBy 9 = .ok (.iload_n 2, 1) := by decide +kernel
theorem dX10_toldBy_10 : decode cX10_toldBy 10 = .ok (.invokestatic 153, 3) := by decide +kernel
theorem dX10_toldBy_13 : decode cX10_toldBy 13 = .ok (.ifCond .eq 27, 3) := by decide +kernel
theorem dX10_toldBy_16 : decode cX10_toldBy 16 = .ok (.lload_n 0, 1) := by decide +kernel
theorem dX10_toldBy_17 : decode cX10_toldBy 17 = .ok (.iload_n 2, 1) := by decide +kernel
theorem dX10_toldBy_18 : decode cX10_toldBy 18 = .ok (.invokestatic 153, 3) := by decide +kernel
theorem dX10_toldBy_21 : decode cX10_toldBy 21 = .ok (.bipush 33, 2) := by decide +kernel
theorem dX10_toldBy_23 : decode cX10_toldBy 23 = .ok (.bipush 126, 2) := by decide +kernel
theorem dX10_toldBy_25 : decode cX10_toldBy 25 = .ok (.invokestatic 35, 3) := by decide +kernel
theorem dX10_toldBy_28 : decode cX10_toldBy 28 = .ok (.ifCond .ne 6, 3) := by decide +kernel
theorem dX10_toldBy_31 : decode cX10_toldBy 31 = .ok (.bipush (-2), 2) := by decide +kernel
theorem dX10_toldBy_33 : decode cX10_toldBy 33 = .ok (.ireturn, 1) := by decide +kernel
theorem dX10_toldBy_34 : decode cX10_toldBy 34 = .ok (.iinc 2 1, 3) := by decide +kernel
theorem dX10_toldBy_37 : decode cX10_toldBy 37 = .ok (.goto (-35), 3) := by decide +kernel
theorem dX10_toldBy_40 : decode cX10_toldBy 40 = .ok (.iload_n 2, 1) := by decide +kernel
theorem dX10_toldBy_41 : decode cX10_toldBy 41 = .ok (.istore_n 3, 1) := by decide +kernel
theorem dX10_toldBy_42 : decode cX10_toldBy 42 = .ok (.iload_n 3, 1) := by decide +kernel
theorem dX10_toldBy_43 : decode cX10_toldBy 43 = .ok (.bipush 8, 2) := by decide +kernel
theorem dX10_toldBy_45 : decode cX10_toldBy 45 = .ok (.if_icmp .ge 20, 3) := by decide +kernel
theorem dX10_toldBy_48 : decode cX10_toldBy 48 = .ok (.lload_n 0, 1) := by decide +kernel
theorem dX10_toldBy_49 : decode cX10_toldBy 49 = .ok (.iload_n 3, 1) := by decide +kernel
theorem dX10_toldBy_50 : decode cX10_toldBy 50 = .ok (.invokestatic 153, 3) := by decide +kernel
theorem dX10_toldBy_53 : decode cX10_toldBy 53 = .ok (.ifCond .eq 6, 3) := by decide +kernel
theorem dX10_toldBy_56 : decode cX10_toldBy 56 = .ok (.bipush (-2), 2) := by decide +kernel
theorem dX10_toldBy_58 : decode cX10_toldBy 58 = .ok (.ireturn, 1) := by decide +kernel
theorem dX10_toldBy_59 : decode cX10_toldBy 59 = .ok (.iinc 3 1, 3) := by decide +kernel
theorem dX10_toldBy_62 : decode cX10_toldBy 62 = .ok (.goto (-20), 3) := by decide +kernel
theorem dX10_toldBy_65 : decode cX10_toldBy 65 = .ok (.iload_n 2, 1) := by decide +kernel
theorem dX10_toldBy_66 : decode cX10_toldBy 66 = .ok (.ifCond .ne 8, 3) := by decide +kernel
theorem dX10_toldBy_69 : decode cX10_toldBy 69 = .ok (.bipush (-2), 2) := by decide +kernel
theorem dX10_toldBy_71 : decode cX10_toldBy 71 = .ok (.goto 4, 3) := by decide +kernel
theorem dX10_toldBy_74 : decode cX10_toldBy 74 = .ok (.iload_n 2, 1) := by decide +kernel
theorem dX10_toldBy_75 : decode cX10_toldBy 75 = .ok (.ireturn, 1) := by decide +kernel
theorem dX10_put_0 : decode cX10_put 0 = .ok (.lload_n 1, 1) := by decide +kernel
theorem dX10_put_1 : decode cX10_put 1 = .ok (.invokestatic 157, 3) := by decide +kernel
theorem dX10_put_4 : decode cX10_put 4 = .ok (.istore_n 3, 1) := by decide +kernel
theorem dX10_put_5 : decode cX10_put 5 = .ok (.iload_n 3, 1) := by decide +kernel
theorem dX10_put_6 : decode cX10_put 6 = .ok (.ifCond .ge 5, 3) := by decide +kernel
theorem dX10_put_9 : decode cX10_put 9 = .ok (.iload_n 3, 1) := by decide +kernel
theorem dX10_put_10 : decode cX10_put 10 = .ok (.ireturn, 1) := by decide +kernel
theorem dX10_put_11 : decode cX10_put 11 = .ok (.aload_n 0, 1) := by decide +kernel
theorem dX10_put_12 : decode cX10_put 12 = .ok (.getfield 148, 3) := by decide +kernel
theorem dX10_put_15 : decode cX10_put 15 = .ok (.iload_n 3, 1) := by decide +kernel
theorem dX10_put_16 : decode cX10_put 16 = .ok (.iadd, 1) := by decide +kernel
theorem dX10_put_17 : decode cX10_put 17 = .ok (.bipush 80, 2) := by decide +kernel
theorem dX10_put_19 : decode cX10_put 19 = .ok (.if_icmp .le 6, 3) := by decide +kernel
theorem dX10_put_22 : decode cX10_put 22 = .ok (.bipush (-4), 2) := by decide +kernel
theorem dX10_put_24 : decode cX10_put 24 = .ok (.ireturn, 1) := by decide +kernel
theorem dX10_put_25 : decode cX10_put 25 = .ok (.iload_n 3, 1) := by decide +kernel
theorem dX10_put_26 : decode cX10_put 26 = .ok (.iconst 1, 1) := by decide +kernel
theorem dX10_put_27 : decode cX10_put 27 = .ok (.isub, 1) := by decide +kernel
theorem dX10_put_28 : decode cX10_put 28 = .ok (.istore 4, 2) := by decide +kernel
theorem dX10_put_30 : decode cX10_put 30 = .ok (.iload 4, 2) := by decide +kernel
theorem dX10_put_32 : decode cX10_put 32 = .ok (.ifCond .lt 34, 3) := by decide +kernel
theorem dX10_put_35 : decode cX10_put 35 = .ok (.aload_n 0, 1) := by decide +kernel
theorem dX10_put_36 : decode cX10_put 36 = .ok (.getfield 26, 3) := by decide +kernel
theorem dX10_put_39 : decode cX10_put 39 = .ok (.aload_n 0, 1) := by decide +kernel
theorem dX10_put_40 : decode cX10_put 40 = .ok (.getfield 148, 3) := by decide +kernel
theorem dX10_put_43 : decode cX10_put 43 = .ok (.lload_n 1, 1) := by decide +kernel
theorem dX10_put_44 : decode cX10_put 44 = .ok (.iload 4, 2) := by decide +kernel
theorem dX10_put_46 : decode cX10_put 46 = .ok (.invokestatic 153, 3) := by decide +kernel
theorem dX10_put_49 : decode cX10_put 49 = .ok (.iastore, 1) := by decide +kernel
theorem dX10_put_50 : decode cX10_put 50 = .ok (.aload_n 0, 1) := by decide +kernel
theorem dX10_put_51 : decode cX10_put 51 = .ok (.dup, 1) := by decide +kernel
theorem dX10_put_52 : decode cX10_put 52 = .ok (.getfield 148, 3) := by decide +kernel
theorem dX10_put_55 : decode cX10_put 55 = .ok (.iconst 1, 1) := by decide +kernel
theorem dX10_put_56 : decode cX10_put 56 = .ok (.iadd, 1) := by decide +kernel
theorem dX10_put_57 : decode cX10_put 57 = .ok (.putfield 148, 3) := by decide +kernel
theorem dX10_put_60 : decode cX10_put 60 = .ok (.iinc 4 (-1), 3) := by decide +kernel
theorem dX10_put_63 : decode cX10_put 63 = .ok (.goto (-33), 3) := by decide +kernel
theorem dX10_put_66 : decode cX10_put 66 = .ok (.aload_n 0, 1) := by decide +kernel
theorem dX10_put_67 : decode cX10_put 67 = .ok (.getfield 148, 3) := by decide +kernel
theorem dX10_put_70 : decode cX10_put 70 = .ok (.ireturn, 1) := by decide +kernel
theorem dX10_wipe_0 : decode cX10_wipe 0 = .ok (.aload_n 0, 1) := by decide +kernel
theorem dX10_wipe_1 : decode cX10_wipe 1 = .ok (.getfield 148, 3) := by decide +kernel
theorem dX10_wipe_4 : decode cX10_wipe 4 = .ok (.istore_n 1, 1) := by decide +kernel
theorem dX10_wipe_5 : decode cX10_wipe 5 = .ok (.aload_n 0, 1) := by decide +kernel
theorem dX10_wipe_6 : decode cX10_wipe 6 = .ok (.iconst 0, 1) := by decide +kernel
theorem dX10_wipe_7 : decode cX10_wipe 7 = .ok (.putfield 148, 3) := by decide +kernel
theorem dX10_wipe_10 : decode cX10_wipe 10 = .ok (.iload_n 1, 1) := by decide +kernel
theorem dX10_wipe_11 : decode cX10_wipe 11 = .ok (.ireturn, 1) := by decide +kernel
theorem dX10_isAt_0 : decode cX10_isAt 0 = .ok (.aload_n 0, 1) := by decide +kernel
theorem dX10_isAt_1 : decode cX10_isAt 1 = .ok (.getfield 161, 3) := by decide +kernel
theorem dX10_isAt_4 : decode cX10_isAt 4 = .ok (.aload_n 0, 1) := by decide +kernel
theorem dX10_isAt_5 : decode cX10_isAt 5 = .ok (.getfield 148, 3) := by decide +kernel
theorem dX10_isAt_8 : decode cX10_isAt 8 = .ok (.if_icmp .ge 24, 3) := by decide +kernel
theorem dX10_isAt_11 : decode cX10_isAt 11 = .ok (.aload_n 0, 1) := by decide +kernel
theorem dX10_isAt_12 : decode cX10_isAt 12 = .ok (.getfield 26, 3) := by decide +kernel
theorem dX10_isAt_15 : decode cX10_isAt 15 = .ok (.aload_n 0, 1) := by decide +kernel
theorem dX10_isAt_16 : decode cX10_isAt 16 = .ok (.getfield 161, 3) := by decide +kernel
theorem dX10_isAt_19 : decode cX10_isAt 19 = .ok (.iaload, 1) := by decide +kernel
theorem dX10_isAt_20 : decode cX10_isAt 20 = .ok (.iload_n 1, 1) := by decide +kernel
theorem dX10_isAt_21 : decode cX10_isAt 21 = .ok (.iload_n 2, 1) := by decide +kernel
theorem dX10_isAt_22 : decode cX10_isAt 22 = .ok (.invokestatic 35, 3) := by decide +kernel
theorem dX10_isAt_25 : decode cX10_isAt 25 = .ok (.ifCond .eq 7, 3) := by decide +kernel
theorem dX10_isAt_28 : decode cX10_isAt 28 = .ok (.iconst 1, 1) := by decide +kernel
theorem dX10_isAt_29 : decode cX10_isAt 29 = .ok (.goto 4, 3) := by decide +kernel
theorem dX10_isAt_32 : decode cX10_isAt 32 = .ok (.iconst 0, 1) := by decide +kernel
theorem dX10_isAt_33 : decode cX10_isAt 33 = .ok (.ireturn, 1) := by decide +kernel
theorem dX10_isSign_0 : decode cX10_isSign 0 = .ok (.aload_n 0, 1) := by decide +kernel
theorem dX10_isSign_1 : decode cX10_isSign 1 = .ok (.iload_n 1, 1) := by decide +kernel
theorem dX10_isSign_2 : decode cX10_isSign 2 = .ok (.iload_n 1, 1) := by decide +kernel
theorem dX10_isSign_3 : decode cX10_isSign 3 = .ok (.invokevirtual 164, 3) := by decide +kernel
theorem dX10_isSign_6 : decode cX10_isSign 6 = .ok (.istore_n 2, 1) := by decide +kernel
theorem dX10_isSign_7 : decode cX10_isSign 7 = .ok (.aload_n 0, 1) := by decide +kernel
theorem dX10_isSign_8 : decode cX10_isSign 8 = .ok (.dup, 1) := by decide +kernel
theorem dX10_isSign_9 : decode cX10_isSign 9 = .ok (.getfield 161, 3) := by decide +kernel
theorem dX10_isSign_12 : decode cX10_isSign 12 = .ok (.iload_n 2, 1) := by decide +kernel
theorem dX10_isSign_13 : decode cX10_isSign 13 = .ok (.ifCond .eq 7, 3) := by decide +kernel
theorem dX10_isSign_16 : decode cX10_isSign 16 = .ok (.iconst 1, 1) := by decide +kernel
theorem dX10_isSign_17 : decode cX10_isSign 17 = .ok (.goto 4, 3) := by decide +kernel
theorem dX10_isSign_20 : decode cX10_isSign 20 = .ok (.iconst 0, 1) := by decide +kernel
theorem dX10_isSign_21 : decode cX10_isSign 21 = .ok (.iadd, 1) := by decide +kernel
theorem dX10_isSign_22 : decode cX10_isSign 22 = .ok (.putfield 161, 3) := by decide +kernel
theorem dX10_isSign_25 : decode cX10_isSign 25 = .ok (.iload_n 2, 1) := by decide +kernel
theorem dX10_isSign_26 : decode cX10_isSign 26 = .ok (.ireturn, 1) := by decide +kernel
theorem dX10_isNumber_0 : decode cX10_isNumber 0 = .ok (.aload_n 0, 1) := by decide +kernel
theorem dX10_isNumber_1 : decode cX10_isNumber 1 = .ok (.bipush 48, 2) := by decide +kernel
theorem dX10_isNumber_3 : decode cX10_isNumber 3 = .ok (.bipush 57, 2) := by decide +kernel
theorem dX10_isNumber_5 : decode cX10_isNumber 5 = .ok (.invokevirtual 164, 3) := by decide +kernel
theorem dX10_isNumber_8 : decode cX10_isNumber 8 = .ok (.ifCond .ne 5, 3) := by decide +kernel
theorem dX10_isNumber_11 : decode cX10_isNumber 11 = .ok (.iconst 0, 1) := by decide +kernel
theorem dX10_isNumber_12 : decode cX10_isNumber 12 = .ok (.ireturn, 1) := by decide +kernel
theorem dX10_isNumber_13 : decode cX10_isNumber 13 = .ok (.aload_n 0, 1) := by decide +kernel
theorem dX10_isNumber_14 : decode cX10_isNumber 14 = .ok (.getfield 26, 3) := by decide +kernel
theorem dX10_isNumber_17 : decode cX10_isNumber 17 = .ok (.aload_n 0, 1) := by decide +kernel
theorem dX10_isNumber_18 : decode cX10_isNumber 18 = .ok (.getfield 161, 3) := by decide +kernel
theorem dX10_isNumber_21 : decode cX10_isNumber 21 = .ok (.iaload, 1) := by decide +kernel
theorem dX10_isNumber_22 : decode cX10_isNumber 22 = .ok (.bipush 48, 2) := by decide +kernel
theorem dX10_isNumber_24 : decode cX10_isNumber 24 = .ok (.isub, 1) := by decide +kernel
theorem dX10_isNumber_25 : decode cX10_isNumber 25 = .ok (.istore_n 2, 1) := by decide +kernel
theorem dX10_isNumber_26 : decode cX10_isNumber 26 = .ok (.aload_n 0, 1) := by decide +kernel
theorem dX10_isNumber_27 : decode cX10_isNumber 27 = .ok (.dup, 1) := by decide +kernel
theorem dX10_isNumber_28 : decode cX10_isNumber 28 = .ok (.getfield 161, 3) := by decide +kernel
theorem dX10_isNumber_31 : decode cX10_isNumber 31 = .ok (.iconst 1, 1) := by decide +kernel
theorem dX10_isNumber_32 : decode cX10_isNumber 32 = .ok (.iadd, 1) := by decide +kernel
theorem dX10_isNumber_33 : decode cX10_isNumber 33 = .ok (.putfield 161, 3) := by decide +kernel
theorem dX10_isNumber_36 : decode cX10_isNumber 36 = .ok (.iload_n 2, 1) := by decide +kernel
theorem dX10_isNumber_37 : decode cX10_isNumber 37 = .ok (.ifCond .le 42, 3) := by decide +kernel
theorem dX10_isNumber_40 : decode cX10_isNumber 40 = .ok (.aload_n 0, 1) := by decide +kernel
theorem dX10_isNumber_41 : decode cX10_isNumber 41 = .ok (.bipush 48, 2) := by decide +kernel
theorem dX10_isNumber_43 : decode cX10_isNumber 43 = .ok (.bipush 57, 2) := by decide +kernel
theorem dX10_isNumber_45 : decode cX10_isNumber 45 = .ok (.invokevirtual 164, 3) := by decide +kernel
theorem dX10_isNumber_48 : decode cX10_isNumber 48 = .ok (.ifCond .eq 31, 3) := by decide +kernel
theorem dX10_isNumber_51 : decode cX10_isNumber 51 = .ok (.bipush 10, 2) := by decide +kernel
theorem dX10_isNumber_53 : decode cX10_isNumber 53 = .ok (.iload_n 2, 1) := by decide +kernel
theorem dX10_isNumber_54 : decode cX10_isNumber 54 = .ok (.imul, 1) := by decide +kernel
theorem dX10_isNumber_55 : decode cX10_isNumber 55 = .ok (.aload_n 0, 1) := by decide +kernel
theorem dX10_isNumber_56 : decode cX10_isNumber 56 = .ok (.getfield 26, 3) := by decide +kernel
theorem dX10_isNumber_59 : decode cX10_isNumber 59 = .ok (.aload_n 0, 1) := by decide +kernel
theorem dX10_isNumber_60 : decode cX10_isNumber 60 = .ok (.getfield 161, 3) := by decide +kernel
theorem dX10_isNumber_63 : decode cX10_isNumber 63 = .ok (.iaload, 1) := by decide +kernel
theorem dX10_isNumber_64 : decode cX10_isNumber 64 = .ok (.iadd, 1) := by decide +kernel
theorem dX10_isNumber_65 : decode cX10_isNumber 65 = .ok (.bipush 48, 2) := by decide +kernel
theorem dX10_isNumber_67 : decode cX10_isNumber 67 = .ok (.isub, 1) := by decide +kernel
theorem dX10_isNumber_68 : decode cX10_isNumber 68 = .ok (.istore_n 2, 1) := by decide +kernel
theorem dX10_isNumber_69 : decode cX10_isNumber 69 = .ok (.aload_n 0, 1) := by decide +kernel
theorem dX10_isNumber_70 : decode cX10_isNumber 70 = .ok (.dup, 1) := by decide +kernel
theorem dX10_isNumber_71 : decode cX10_isNumber 71 = .ok (.getfield 161, 3) := by decide +kernel
theorem dX10_isNumber_74 : decode cX10_isNumber 74 = .ok (.iconst 1, 1) := by decide +kernel
theorem dX10_isNumber_75 : decode cX10_isNumber 75 = .ok (.iadd, 1) := by decide +kernel
theorem dX10_isNumber_76 : decode cX10_isNumber 76 = .ok (.putfield 161, 3) := by decide +kernel
theorem dX10_isNumber_79 : decode cX10_isNumber 79 = .ok (.aload_n 0, 1) := by decide +kernel
theorem dX10_isNumber_80 : decode cX10_isNumber 80 = .ok (.getfield 29, 3) := by decide +kernel
theorem dX10_isNumber_83 : decode cX10_isNumber 83 = .ok (.iconst 4, 1) := by decide +kernel
theorem dX10_isNumber_84 : decode cX10_isNumber 84 = .ok (.aload_n 0, 1) := by decide +kernel
theorem dX10_isNumber_85 : decode cX10_isNumber 85 = .ok (.getfield 167, 3) := by decide +kernel
theorem dX10_isNumber_88 : decode cX10_isNumber 88 = .ok (.imul, 1) := by decide +kernel
theorem dX10_isNumber_89 : decode cX10_isNumber 89 = .ok (.iload_n 1, 1) := by decide +kernel
theorem dX10_isNumber_90 : decode cX10_isNumber 90 = .ok (.iadd, 1) := by decide +kernel
theorem dX10_isNumber_91 : decode cX10_isNumber 91 = .ok (.iload_n 2, 1) := by decide +kernel
theorem dX10_isNumber_92 : decode cX10_isNumber 92 = .ok (.iastore, 1) := by decide +kernel
theorem dX10_isNumber_93 : decode cX10_isNumber 93 = .ok (.iconst 1, 1) := by decide +kernel
theorem dX10_isNumber_94 : decode cX10_isNumber 94 = .ok (.ireturn, 1) := by decide +kernel
theorem dX10_isComing_0 : decode cX10_isComing 0 = .ok (.aload_n 0, 1) := by decide +kernel
theorem dX10_isComing_1 : decode cX10_isComing 1 = .ok (.getfield 29, 3) := by decide +kernel
theorem dX10_isComing_4 : decode cX10_isComing 4 = .ok (.iconst 4, 1) := by decide +kernel
theorem dX10_isComing_5 : decode cX10_isComing 5 = .ok (.aload_n 0, 1) := by decide +kernel
theorem dX10_isComing_6 : decode cX10_isComing 6 = .ok (.getfield 167, 3) := by decide +kernel
theorem dX10_isComing_9 : decode cX10_isComing 9 = .ok (.imul, 1) := by decide +kernel
theorem dX10_isComing_10 : decode cX10_isComing 10 = .ok (.iconst 3, 1) := by decide +kernel
theorem dX10_isComing_11 : decode cX10_isComing 11 = .ok (.iadd, 1) := by decide +kernel
theorem dX10_isComing_12 : decode cX10_isComing 12 = .ok (.iconst 1, 1) := by decide +kernel
theorem dX10_isComing_13 : decode cX10_isComing 13 = .ok (.iastore, 1) := by decide +kernel
theorem dX10_isComing_14 : decode cX10_isComing 14 = .ok (.aload_n 0, 1) := by decide +kernel
theorem dX10_isComing_15 : decode cX10_isComing 15 = .ok (.iconst 1, 1) := by decide +kernel
theorem dX10_isComing_16 : decode cX10_isComing 16 = .ok (.invokevirtual 170, 3) := by decide +kernel
theorem dX10_isComing_19 : decode cX10_isComing 19 = .ok (.ifCond .eq 20, 3) := by decide +kernel
theorem dX10_isComing_22 : decode cX10_isComing 22 = .ok (.aload_n 0, 1) := by decide +kernel
theorem dX10_isComing_23 : decode cX10_isComing 23 = .ok (.bipush 44, 2) := by decide +kernel
theorem dX10_isComing_25 : decode cX10_isComing 25 = .ok (.invokevirtual 173, 3) := by decide +kernel
theorem dX10_isComing_28 : decode cX10_isComing 28 = .ok (.ifCond .eq 11, 3) := by decide +kernel
theorem dX10_isComing_31 : decode cX10_isComing 31 = .ok (.aload_n 0, 1) := by decide +kernel
theorem dX10_isComing_32 : decode cX10_isComing 32 = .ok (.iconst 2, 1) := by decide +kernel
theorem dX10_isComing_33 : decode cX10_isComing 33 = .ok (.invokevirtual 170, 3) := by decide +kernel
theorem dX10_isComing_36 : decode cX10_isComing 36 = .ok (.ifCond .ne 5, 3) := by decide +kernel
theorem dX10_isComing_39 : decode cX10_isComing 39 = .ok (.iconst 0, 1) := by decide +kernel
theorem dX10_isComing_40 : decode cX10_isComing 40 = .ok (.ireturn, 1) := by decide +kernel
theorem dX10_isComing_41 : decode cX10_isComing 41 = .ok (.aload_n 0, 1) := by decide +kernel
theorem dX10_isComing_42 : decode cX10_isComing 42 = .ok (.bipush 42, 2) := by decide +kernel
theorem dX10_isComing_44 : decode cX10_isComing 44 = .ok (.invokevirtual 173, 3) := by decide +kernel
theorem dX10_isComing_47 : decode cX10_isComing 47 = .ok (.ifCond .eq 51, 3) := by decide +kernel
theorem dX10_isComing_50 : decode cX10_isComing 50 = .ok (.aload_n 0, 1) := by decide +kernel
theorem dX10_isComing_51 : decode cX10_isComing 51 = .ok (.bipush 49, 2) := by decide +kernel
theorem dX10_isComing_53 : decode cX10_isComing 53 = .ok (.bipush 57, 2) := by decide +kernel
theorem dX10_isComing_55 : decode cX10_isComing 55 = .ok (.invokevirtual 164, 3) := by decide +kernel
theorem dX10_isComing_58 : decode cX10_isComing 58 = .ok (.ifCond .ne 5, 3) := by decide +kernel
theorem dX10_isComing_61 : decode cX10_isComing 61 = .ok (.iconst 0, 1) := by decide +kernel
theorem dX10_isComing_62 : decode cX10_isComing 62 = .ok (.ireturn, 1) := by decide +kernel
theorem dX10_isComing_63 : decode cX10_isComing 63 = .ok (.aload_n 0, 1) := by decide +kernel
theorem dX10_isComing_64 : decode cX10_isComing 64 = .ok (.getfield 29, 3) := by decide +kernel
theorem dX10_isComing_67 : decode cX10_isComing 67 = .ok (.iconst 4, 1) := by decide +kernel
theorem dX10_isComing_68 : decode cX10_isComing 68 = .ok (.aload_n 0, 1) := by decide +kernel
theorem dX10_isComing_69 : decode cX10_isComing 69 = .ok (.getfield 167, 3) := by decide +kernel
theorem dX10_isComing_72 : decode cX10_isComing 72 = .ok (.imul, 1) := by decide +kernel
theorem dX10_isComing_73 : decode cX10_isComing 73 = .ok (.iconst 3, 1) := by decide +kernel
theorem dX10_isComing_74 : decode cX10_isComing 74 = .ok (.iadd, 1) := by decide +kernel
theorem dX10_isComing_75 : decode cX10_isComing 75 = .ok (.aload_n 0, 1) := by decide +kernel
theorem dX10_isComing_76 : decode cX10_isComing 76 = .ok (.getfield 26, 3) := by decide +kernel
theorem dX10_isComing_79 : decode cX10_isComing 79 = .ok (.aload_n 0, 1) := by decide +kernel
theorem dX10_isComing_80 : decode cX10_isComing 80 = .ok (.getfield 161, 3) := by decide +kernel
theorem dX10_isComing_83 : decode cX10_isComing 83 = .ok (.iaload, 1) := by decide +kernel
theorem dX10_isComing_84 : decode cX10_isComing 84 = .ok (.bipush 48, 2) := by decide +kernel
theorem dX10_isComing_86 : decode cX10_isComing 86 = .ok (.isub, 1) := by decide +kernel
theorem dX10_isComing_87 : decode cX10_isComing 87 = .ok (.iastore, 1) := by decide +kernel
theorem dX10_isComing_88 : decode cX10_isComing 88 = .ok (.aload_n 0, 1) := by decide +kernel
theorem dX10_isComing_89 : decode cX10_isComing 89 = .ok (.dup, 1) := by decide +kernel
theorem dX10_isComing_90 : decode cX10_isComing 90 = .ok (.getfield 161, 3) := by decide +kernel
theorem dX10_isComing_93 : decode cX10_isComing 93 = .ok (.iconst 1, 1) := by decide +kernel
theorem dX10_isComing_94 : decode cX10_isComing 94 = .ok (.iadd, 1) := by decide +kernel
theorem dX10_isComing_95 : decode cX10_isComing 95 = .ok (.putfield 161, 3) := by decide +kernel
theorem dX10_isComing_98 : decode cX10_isComing 98 = .ok (.iconst 1, 1) := by decide +kernel
theorem dX10_isComing_99 : decode cX10_isComing 99 = .ok (.ireturn, 1) := by decide +kernel
theorem dX10_isOrder_0 : decode cX10_isOrder 0 = .ok (.aload_n 0, 1) := by decide +kernel
theorem dX10_isOrder_1 : decode cX10_isOrder 1 = .ok (.getfield 161, 3) := by decide +kernel
theorem dX10_isOrder_4 : decode cX10_isOrder 4 = .ok (.aload_n 0, 1) := by decide +kernel
theorem dX10_isOrder_5 : decode cX10_isOrder 5 = .ok (.getfield 148, 3) := by decide +kernel
theorem dX10_isOrder_8 : decode cX10_isOrder 8 = .ok (.if_icmp .ge 15, 3) := by decide +kernel
theorem dX10_isOrder_11 : decode cX10_isOrder 11 = .ok (.aload_n 0, 1) := by decide +kernel
theorem dX10_isOrder_12 : decode cX10_isOrder 12 = .ok (.getfield 26, 3) := by decide +kernel
theorem dX10_isOrder_15 : decode cX10_isOrder 15 = .ok (.aload_n 0, 1) := by decide +kernel
theorem dX10_isOrder_16 : decode cX10_isOrder 16 = .ok (.getfield 161, 3) := by decide +kernel
theorem dX10_isOrder_19 : decode cX10_isOrder 19 = .ok (.iaload, 1) := by decide +kernel
theorem dX10_isOrder_20 : decode cX10_isOrder 20 = .ok (.goto 4, 3) := by decide +kernel
theorem dX10_isOrder_23 : decode cX10_isOrder 23 = .ok (.iconst 0, 1) := by decide +kernel
theorem dX10_isOrder_24 : decode cX10_isOrder 24 = .ok (.istore_n 1, 1) := by decide +kernel
theorem dX10_isOrder_25 : decode cX10_isOrder 25 = .ok (.aload_n 0, 1) := by decide +kernel
theorem dX10_isOrder_26 : decode cX10_isOrder 26 = .ok (.getfield 29, 3) := by decide +kernel
theorem dX10_isOrder_29 : decode cX10_isOrder 29 = .ok (.iconst 4, 1) := by decide +kernel
theorem dX10_isOrder_30 : decode cX10_isOrder 30 = .ok (.aload_n 0, 1) := by decide +kernel
theorem dX10_isOrder_31 : decode cX10_isOrder 31 = .ok (.getfield 167, 3) := by decide +kernel
theorem dX10_isOrder_34 : decode cX10_isOrder 34 = .ok (.imul, 1) := by decide +kernel
theorem dX10_isOrder_35 : decode cX10_isOrder 35 = .ok (.iload_n 1, 1) := by decide +kernel
theorem dX10_isOrder_36 : decode cX10_isOrder 36 = .ok (.iastore, 1) := by decide +kernel
theorem dX10_isOrder_37 : decode cX10_isOrder 37 = .ok (.iload_n 1, 1) := by decide +kernel
theorem dX10_isOrder_38 : decode cX10_isOrder 38 = .ok (.lookupswitch 101 #[(43, 70), (45, 85), (97, 58), (98, 85), (99, 85), (112, 85)], 58) := by decide +kernel
theorem dX10_isOrder_96 : decode cX10_isOrder 96 = .ok (.aload_n 0, 1) := by decide +kernel
theorem dX10_isOrder_97 : decode cX10_isOrder 97 = .ok (.dup, 1) := by decide +kernel
theorem dX10_isOrder_98 : decode cX10_isOrder 98 = .ok (.getfield 161, 3) := by decide +kernel
theorem dX10_isOrder_101 : decode cX10_isOrder 101 = .ok (.iconst 1, 1) := by decide +kernel
theorem dX10_isOrder_102 : decode cX10_isOrder 102 = .ok (.iadd, 1) := by decide +kernel
theorem dX10_isOrder_103 : decode cX10_isOrder 103 = .ok (.putfield 161, 3) := by decide +kernel
theorem dX10_isOrder_106 : decode cX10_isOrder 106 = .ok (.iconst 1, 1) := by decide +kernel
theorem dX10_isOrder_107 : decode cX10_isOrder 107 = .ok (.ireturn, 1) := by decide +kernel
theorem dX10_isOrder_108 : decode cX10_isOrder 108 = .ok (.aload_n 0, 1) := by decide +kernel
theorem dX10_isOrder_109 : decode cX10_isOrder 109 = .ok (.dup, 1) := by decide +kernel
theorem dX10_isOrder_110 : decode cX10_isOrder 110 = .ok (.getfield 161, 3) := by decide +kernel
theorem dX10_isOrder_113 : decode cX10_isOrder 113 = .ok (.iconst 1, 1) := by decide +kernel
theorem dX10_isOrder_114 : decode cX10_isOrder 114 = .ok (.iadd, 1) := by decide +kernel
theorem dX10_isOrder_115 : decode cX10_isOrder 115 = .ok (.putfield 161, 3) := by decide +kernel
theorem dX10_isOrder_118 : decode cX10_isOrder 118 = .ok (.aload_n 0, 1) := by decide +kernel
theorem dX10_isOrder_119 : decode cX10_isOrder 119 = .ok (.invokevirtual 176, 3) := by decide +kernel
theorem dX10_isOrder_122 : decode cX10_isOrder 122 = .ok (.ireturn, 1) := by decide +kernel
theorem dX10_isOrder_123 : decode cX10_isOrder 123 = .ok (.aload_n 0, 1) := by decide +kernel
theorem dX10_isOrder_124 : decode cX10_isOrder 124 = .ok (.dup, 1) := by decide +kernel
theorem dX10_isOrder_125 : decode cX10_isOrder 125 = .ok (.getfield 161, 3) := by decide +kernel
theorem dX10_isOrder_128 : decode cX10_isOrder 128 = .ok (.iconst 1, 1) := by decide +kernel
theorem dX10_isOrder_129 : decode cX10_isOrder 129 = .ok (.iadd, 1) := by decide +kernel
theorem dX10_isOrder_130 : decode cX10_isOrder 130 = .ok (.putfield 161, 3) := by decide +kernel
theorem dX10_isOrder_133 : decode cX10_isOrder 133 = .ok (.aload_n 0, 1) := by decide +kernel
theorem dX10_isOrder_134 : decode cX10_isOrder 134 = .ok (.iconst 1, 1) := by decide +kernel
theorem dX10_isOrder_135 : decode cX10_isOrder 135 = .ok (.invokevirtual 170, 3) := by decide +kernel
theorem dX10_isOrder_138 : decode cX10_isOrder 138 = .ok (.ireturn, 1) := by decide +kernel
theorem dX10_isOrder_139 : decode cX10_isOrder 139 = .ok (.iconst 0, 1) := by decide +kernel
theorem dX10_isOrder_140 : decode cX10_isOrder 140 = .ok (.ireturn, 1) := by decide +kernel
theorem dX10_isText_0 : decode cX10_isText 0 = .ok (.aload_n 0, 1) := by decide +kernel
theorem dX10_isText_1 : decode cX10_isText 1 = .ok (.iconst 0, 1) := by decide +kernel
theorem dX10_isText_2 : decode cX10_isText 2 = .ok (.putfield 161, 3) := by decide +kernel
theorem dX10_isText_5 : decode cX10_isText 5 = .ok (.aload_n 0, 1) := by decide +kernel
theorem dX10_isText_6 : decode cX10_isText 6 = .ok (.iconst 0, 1) := by decide +kernel
theorem dX10_isText_7 : decode cX10_isText 7 = .ok (.putfield 167, 3) := by decide +kernel
theorem dX10_isText_10 : decode cX10_isText 10 = .ok (.iconst 1, 1) := by decide +kernel
theorem dX10_isText_11 : decode cX10_isText 11 = .ok (.istore_n 1, 1) := by decide +kernel
theorem dX10_isText_12 : decode cX10_isText 12 = .ok (.iload_n 1, 1) := by decide +kernel
theorem dX10_isText_13 : decode cX10_isText 13 = .ok (.ifCond .eq 32, 3) := by decide +kernel
theorem dX10_isText_16 : decode cX10_isText 16 = .ok (.aload_n 0, 1) := by decide +kernel
theorem dX10_isText_17 : decode cX10_isText 17 = .ok (.invokevirtual 180, 3) := by decide +kernel
theorem dX10_isText_20 : decode cX10_isText 20 = .ok (.ifCond .ne 5, 3) := by decide +kernel
theorem dX10_isText_23 : decode cX10_isText 23 = .ok (.iconst 0, 1) := by decide +kernel
theorem dX10_isText_24 : decode cX10_isText 24 = .ok (.ireturn, 1) := by decide +kernel
theorem dX10_isText_25 : decode cX10_isText 25 = .ok (.aload_n 0, 1) := by decide +kernel
theorem dX10_isText_26 : decode cX10_isText 26 = .ok (.dup, 1) := by decide +kernel
theorem dX10_isText_27 : decode cX10_isText 27 = .ok (.getfield 167, 3) := by decide +kernel
theorem dX10_isText_30 : decode cX10_isText 30 = .ok (.iconst 1, 1) := by decide +kernel
theorem dX10_isText_31 : decode cX10_isText 31 = .ok (.iadd, 1) := by decide +kernel
theorem dX10_isText_32 : decode cX10_isText 32 = .ok (.putfield 167, 3) := by decide +kernel
theorem dX10_isText_35 : decode cX10_isText 35 = .ok (.aload_n 0, 1) := by decide +kernel
theorem dX10_isText_36 : decode cX10_isText 36 = .ok (.bipush 59, 2) := by decide +kernel
theorem dX10_isText_38 : decode cX10_isText 38 = .ok (.invokevirtual 173, 3) := by decide +kernel
theorem dX10_isText_41 : decode cX10_isText 41 = .ok (.istore_n 1, 1) := by decide +kernel
theorem dX10_isText_42 : decode cX10_isText 42 = .ok (.goto (-30), 3) := by decide +kernel
theorem dX10_isText_45 : decode cX10_isText 45 = .ok (.aload_n 0, 1) := by decide +kernel
theorem dX10_isText_46 : decode cX10_isText 46 = .ok (.getfield 161, 3) := by decide +kernel
theorem dX10_isText_49 : decode cX10_isText 49 = .ok (.aload_n 0, 1) := by decide +kernel
theorem dX10_isText_50 : decode cX10_isText 50 = .ok (.getfield 148, 3) := by decide +kernel
theorem dX10_isText_53 : decode cX10_isText 53 = .ok (.if_icmp .ne 7, 3) := by decide +kernel
theorem dX10_isText_56 : decode cX10_isText 56 = .ok (.iconst 1, 1) := by decide +kernel
theorem dX10_isText_57 : decode cX10_isText 57 = .ok (.goto 4, 3) := by decide +kernel
theorem dX10_isText_60 : decode cX10_isText 60 = .ok (.iconst 0, 1) := by decide +kernel
theorem dX10_isText_61 : decode cX10_isText 61 = .ok (.ireturn, 1) := by decide +kernel
theorem dX10_fault_0 : decode cX10_fault 0 = .ok (.aload_n 0, 1) := by decide +kernel
theorem dX10_fault_1 : decode cX10_fault 1 = .ok (.invokevirtual 183, 3) := by decide +kernel
theorem dX10_fault_4 : decode cX10_fault 4 = .ok (.ifCond .eq 8, 3) := by decide +kernel
theorem dX10_fault_7 : decode cX10_fault 7 = .ok (.bipush (-6), 2) := by decide +kernel
theorem dX10_fault_9 : decode cX10_fault 9 = .ok (.goto 7, 3) := by decide +kernel
theorem dX10_fault_12 : decode cX10_fault 12 = .ok (.aload_n 0, 1) := by decide +kernel
theorem dX10_fault_13 : decode cX10_fault 13 = .ok (.getfield 161, 3) := by decide +kernel
theorem dX10_fault_16 : decode cX10_fault 16 = .ok (.ireturn, 1) := by decide +kernel
theorem dX10_comeOften_0 : decode cX10_comeOften 0 = .ok (.iconst 0, 1) := by decide +kernel
theorem dX10_comeOften_1 : decode cX10_comeOften 1 = .ok (.istore 4, 2) := by decide +kernel
theorem dX10_comeOften_3 : decode cX10_comeOften 3 = .ok (.iload 4, 2) := by decide +kernel
theorem dX10_comeOften_5 : decode cX10_comeOften 5 = .ok (.iload_n 3, 1) := by decide +kernel
theorem dX10_comeOften_6 : decode cX10_comeOften 6 = .ok (.if_icmp .ge 27, 3) := by decide +kernel
theorem dX10_comeOften_9 : decode cX10_comeOften 9 = .ok (.aload_n 0, 1) := by decide +kernel
theorem dX10_comeOften_10 : decode cX10_comeOften 10 = .ok (.iload_n 1, 1) := by decide +kernel
theorem dX10_comeOften_11 : decode cX10_comeOften 11 = .ok (.iload_n 2, 1) := by decide +kernel
theorem dX10_comeOften_12 : decode cX10_comeOften 12 = .ok (.invokevirtual 136, 3) := by decide +kernel
theorem dX10_comeOften_15 : decode cX10_comeOften 15 = .ok (.ifCond .eq 5, 3) := by decide +kernel
theorem dX10_comeOften_18 : decode cX10_comeOften 18 = .ok (.iconst 0, 1) := by decide +kernel
theorem dX10_comeOften_19 : decode cX10_comeOften 19 = .ok (.ireturn, 1) := by decide +kernel
theorem dX10_comeOften_20 : decode cX10_comeOften 20 = .ok (.aload_n 0, 1) := by decide +kernel
theorem dX10_comeOften_21 : decode cX10_comeOften 21 = .ok (.iload_n 1, 1) := by decide +kernel
theorem dX10_comeOften_22 : decode cX10_comeOften 22 = .ok (.iload_n 2, 1) := by decide +kernel
theorem dX10_comeOften_23 : decode cX10_comeOften 23 = .ok (.invokevirtual 139, 3) := by decide +kernel
theorem dX10_comeOften_26 : decode cX10_comeOften 26 = .ok (.pop, 1) := by decide +kernel
theorem dX10_comeOften_27 : decode cX10_comeOften 27 = .ok (.iinc 4 1, 3) := by decide +kernel
theorem dX10_comeOften_30 : decode cX10_comeOften 30 = .ok (.goto (-27), 3) := by decide +kernel
theorem dX10_comeOften_33 : decode cX10_comeOften 33 = .ok (.iconst 1, 1) := by decide +kernel
theorem dX10_comeOften_34 : decode cX10_comeOften 34 = .ok (.ireturn, 1) := by decide +kernel
theorem dX10_does_0 : decode cX10_does 0 = .ok (.aload_n 0, 1) := by decide +kernel
theorem dX10_does_1 : decode cX10_does 1 = .ok (.getfield 29, 3) := by decide +kernel
theorem dX10_does_4 : decode cX10_does 4 = .ok (.iconst 4, 1) := by decide +kernel
theorem dX10_does_5 : decode cX10_does 5 = .ok (.iload_n 1, 1) := by decide +kernel
theorem dX10_does_6 : decode cX10_does 6 = .ok (.imul, 1) := by decide +kernel
theorem dX10_does_7 : decode cX10_does 7 = .ok (.iaload, 1) := by decide +kernel
theorem dX10_does_8 : decode cX10_does 8 = .ok (.istore_n 2, 1) := by decide +kernel
theorem dX10_does_9 : decode cX10_does 9 = .ok (.aload_n 0, 1) := by decide +kernel
theorem dX10_does_10 : decode cX10_does 10 = .ok (.getfield 29, 3) := by decide +kernel
theorem dX10_does_13 : decode cX10_does 13 = .ok (.iconst 4, 1) := by decide +kernel
theorem dX10_does_14 : decode cX10_does 14 = .ok (.iload_n 1, 1) := by decide +kernel
theorem dX10_does_15 : decode cX10_does 15 = .ok (.imul, 1) := by decide +kernel
theorem dX10_does_16 : decode cX10_does 16 = .ok (.iconst 1, 1) := by decide +kernel
theorem dX10_does_17 : decode cX10_does 17 = .ok (.iadd, 1) := by decide +kernel
theorem dX10_does_18 : decode cX10_does 18 = .ok (.iaload, 1) := by decide +kernel
theorem dX10_does_19 : decode cX10_does 19 = .ok (.istore_n 3, 1) := by decide +kernel
theorem dX10_does_20 : decode cX10_does 20 = .ok (.iload_n 2, 1) := by decide +kernel
theorem dX10_does_21 : decode cX10_does 21 = .ok (.bipush 43, 2) := by decide +kernel
theorem dX10_does_23 : decode cX10_does 23 = .ok (.if_icmp .ne 29, 3) := by decide +kernel
theorem dX10_does_26 : decode cX10_does 26 = .ok (.aload_n 0, 1) := by decide +kernel
theorem dX10_does_27 : decode cX10_does 27 = .ok (.iload_n 3, 1) := by decide +kernel
theorem dX10_does_28 : decode cX10_does 28 = .ok (.aload_n 0, 1) := by decide +kernel
theorem dX10_does_29 : decode cX10_does 29 = .ok (.getfield 29, 3) := by decide +kernel
theorem dX10_does_32 : decode cX10_does 32 = .ok (.iconst 4, 1) := by decide +kernel
theorem dX10_does_33 : decode cX10_does 33 = .ok (.iload_n 1, 1) := by decide +kernel
theorem dX10_does_34 : decode cX10_does 34 = .ok (.imul, 1) := by decide +kernel
theorem dX10_does_35 : decode cX10_does 35 = .ok (.iconst 2, 1) := by decide +kernel
theorem dX10_does_36 : decode cX10_does 36 = .ok (.iadd, 1) := by decide +kernel
theorem dX10_does_37 : decode cX10_does 37 = .ok (.iaload, 1) := by decide +kernel
theorem dX10_does_38 : decode cX10_does 38 = .ok (.aload_n 0, 1) := by decide +kernel
theorem dX10_does_39 : decode cX10_does 39 = .ok (.getfield 29, 3) := by decide +kernel
theorem dX10_does_42 : decode cX10_does 42 = .ok (.iconst 4, 1) := by decide +kernel
theorem dX10_does_43 : decode cX10_does 43 = .ok (.iload_n 1, 1) := by decide +kernel
theorem dX10_does_44 : decode cX10_does 44 = .ok (.imul, 1) := by decide +kernel
theorem dX10_does_45 : decode cX10_does 45 = .ok (.iconst 3, 1) := by decide +kernel
theorem dX10_does_46 : decode cX10_does 46 = .ok (.iadd, 1) := by decide +kernel
theorem dX10_does_47 : decode cX10_does 47 = .ok (.iaload, 1) := by decide +kernel
theorem dX10_does_48 : decode cX10_does 48 = .ok (.invokevirtual 186, 3) := by decide +kernel
theorem dX10_does_51 : decode cX10_does 51 = .ok (.ireturn, 1) := by decide +kernel
theorem dX10_does_52 : decode cX10_does 52 = .ok (.iload_n 2, 1) := by decide +kernel
theorem dX10_does_53 : decode cX10_does 53 = .ok (.bipush 98, 2) := by decide +kernel
theorem dX10_does_55 : decode cX10_does 55 = .ok (.if_icmp .ne 7, 3) := by decide +kernel
theorem dX10_does_58 : decode cX10_does 58 = .ok (.iconst 0, 1) := by decide +kernel
theorem dX10_does_59 : decode cX10_does 59 = .ok (.goto 14, 3) := by decide +kernel
theorem dX10_does_62 : decode cX10_does 62 = .ok (.iload_n 2, 1) := by decide +kernel
theorem dX10_does_63 : decode cX10_does 63 = .ok (.bipush 99, 2) := by decide +kernel
theorem dX10_does_65 : decode cX10_does 65 = .ok (.if_icmp .ne 7, 3) := by decide +kernel
theorem dX10_does_68 : decode cX10_does 68 = .ok (.iconst 1, 1) := by decide +kernel
theorem dX10_does_69 : decode cX10_does 69 = .ok (.goto 4, 3) := by decide +kernel
theorem dX10_does_72 : decode cX10_does 72 = .ok (.iconst 2, 1) := by decide +kernel
theorem dX10_does_73 : decode cX10_does 73 = .ok (.istore 4, 2) := by decide +kernel
theorem dX10_does_75 : decode cX10_does 75 = .ok (.iload_n 2, 1) := by decide +kernel
theorem dX10_does_76 : decode cX10_does 76 = .ok (.bipush 45, 2) := by decide +kernel
theorem dX10_does_78 : decode cX10_does 78 = .ok (.if_icmp .ne 11, 3) := by decide +kernel
theorem dX10_does_81 : decode cX10_does 81 = .ok (.aload_n 0, 1) := by decide +kernel
theorem dX10_does_82 : decode cX10_does 82 = .ok (.iload_n 3, 1) := by decide +kernel
theorem dX10_does_83 : decode cX10_does 83 = .ok (.invokevirtual 142, 3) := by decide +kernel
theorem dX10_does_86 : decode cX10_does 86 = .ok (.goto 32, 3) := by decide +kernel
theorem dX10_does_89 : decode cX10_does 89 = .ok (.iload_n 2, 1) := by decide +kernel
theorem dX10_does_90 : decode cX10_does 90 = .ok (.bipush 97, 2) := by decide +kernel
theorem dX10_does_92 : decode cX10_does 92 = .ok (.if_icmp .ne 20, 3) := by decide +kernel
theorem dX10_does_95 : decode cX10_does 95 = .ok (.aload_n 0, 1) := by decide +kernel
theorem dX10_does_96 : decode cX10_does 96 = .ok (.getfield 7, 3) := by decide +kernel
theorem dX10_does_99 : decode cX10_does 99 = .ok (.iconst 0, 1) := by decide +kernel
theorem dX10_does_100 : decode cX10_does 100 = .ok (.iaload, 1) := by decide +kernel
theorem dX10_does_101 : decode cX10_does 101 = .ok (.ifCond .le 7, 3) := by decide +kernel
theorem dX10_does_104 : decode cX10_does 104 = .ok (.iconst 1, 1) := by decide +kernel
theorem dX10_does_105 : decode cX10_does 105 = .ok (.goto 13, 3) := by decide +kernel
theorem dX10_does_108 : decode cX10_does 108 = .ok (.iconst 0, 1) := by decide +kernel
theorem dX10_does_109 : decode cX10_does 109 = .ok (.goto 9, 3) := by decide +kernel
theorem dX10_does_112 : decode cX10_does 112 = .ok (.iload 4, 2) := by decide +kernel
theorem dX10_does_114 : decode cX10_does 114 = .ok (.iload_n 3, 1) := by decide +kernel
theorem dX10_does_115 : decode cX10_does 115 = .ok (.invokestatic 129, 3) := by decide +kernel
theorem dX10_does_118 : decode cX10_does 118 = .ok (.istore 5, 2) := by decide +kernel
theorem dX10_does_120 : decode cX10_does 120 = .ok (.iload 5, 2) := by decide +kernel
theorem dX10_does_122 : decode cX10_does 122 = .ok (.ifCond .eq 18, 3) := by decide +kernel
theorem dX10_does_125 : decode cX10_does 125 = .ok (.iload_n 2, 1) := by decide +kernel
theorem dX10_does_126 : decode cX10_does 126 = .ok (.bipush 45, 2) := by decide +kernel
theorem dX10_does_128 : decode cX10_does 128 = .ok (.if_icmp .ne 12, 3) := by decide +kernel
theorem dX10_does_131 : decode cX10_does 131 = .ok (.aload_n 0, 1) := by decide +kernel
theorem dX10_does_132 : decode cX10_does 132 = .ok (.iload_n 3, 1) := by decide +kernel
theorem dX10_does_133 : decode cX10_does 133 = .ok (.invokevirtual 145, 3) := by decide +kernel
theorem dX10_does_136 : decode cX10_does 136 = .ok (.pop, 1) := by decide +kernel
theorem dX10_does_137 : decode cX10_does 137 = .ok (.goto 38, 3) := by decide +kernel
theorem dX10_does_140 : decode cX10_does 140 = .ok (.iload 5, 2) := by decide +kernel
theorem dX10_does_142 : decode cX10_does 142 = .ok (.ifCond .eq 20, 3) := by decide +kernel
theorem dX10_does_145 : decode cX10_does 145 = .ok (.iload_n 2, 1) := by decide +kernel
theorem dX10_does_146 : decode cX10_does 146 = .ok (.bipush 97, 2) := by decide +kernel
theorem dX10_does_148 : decode cX10_does 148 = .ok (.if_icmp .ne 14, 3) := by decide +kernel
theorem dX10_does_151 : decode cX10_does 151 = .ok (.aload_n 0, 1) := by decide +kernel
theorem dX10_does_152 : decode cX10_does 152 = .ok (.aload_n 0, 1) := by decide +kernel
theorem dX10_does_153 : decode cX10_does 153 = .ok (.getfield 7, 3) := by decide +kernel
theorem dX10_does_156 : decode cX10_does 156 = .ok (.invokevirtual 126, 3) := by decide +kernel
theorem dX10_does_159 : decode cX10_does 159 = .ok (.goto 16, 3) := by decide +kernel
theorem dX10_does_162 : decode cX10_does 162 = .ok (.iload 5, 2) := by decide +kernel
theorem dX10_does_164 : decode cX10_does 164 = .ok (.ifCond .eq 11, 3) := by decide +kernel
theorem dX10_does_167 : decode cX10_does 167 = .ok (.aload_n 0, 1) := by decide +kernel
theorem dX10_does_168 : decode cX10_does 168 = .ok (.iload 4, 2) := by decide +kernel
theorem dX10_does_170 : decode cX10_does 170 = .ok (.iload_n 3, 1) := by decide +kernel
theorem dX10_does_171 : decode cX10_does 171 = .ok (.invokevirtual 132, 3) := by decide +kernel
theorem dX10_does_174 : decode cX10_does 174 = .ok (.pop, 1) := by decide +kernel
theorem dX10_does_175 : decode cX10_does 175 = .ok (.iload 5, 2) := by decide +kernel
theorem dX10_does_177 : decode cX10_does 177 = .ok (.ireturn, 1) := by decide +kernel
theorem dX10_carryOut_0 : decode cX10_carryOut 0 = .ok (.aload_n 0, 1) := by decide +kernel
theorem dX10_carryOut_1 : decode cX10_carryOut 1 = .ok (.invokevirtual 183, 3) := by decide +kernel
theorem dX10_carryOut_4 : decode cX10_carryOut 4 = .ok (.ifCond .ne 6, 3) := by decide +kernel
theorem dX10_carryOut_7 : decode cX10_carryOut 7 = .ok (.bipush (-3), 2) := by decide +kernel
theorem dX10_carryOut_9 : decode cX10_carryOut 9 = .ok (.ireturn, 1) := by decide +kernel
theorem dX10_carryOut_10 : decode cX10_carryOut 10 = .ok (.aload_n 0, 1) := by decide +kernel
theorem dX10_carryOut_11 : decode cX10_carryOut 11 = .ok (.invokevirtual 47, 3) := by decide +kernel
theorem dX10_carryOut_14 : decode cX10_carryOut 14 = .ok (.aload_n 0, 1) := by decide +kernel
theorem dX10_carryOut_15 : decode cX10_carryOut 15 = .ok (.iconst 0, 1) := by decide +kernel
theorem dX10_carryOut_16 : decode cX10_carryOut 16 = .ok (.putfield 148, 3) := by decide +kernel
theorem dX10_carryOut_19 : decode cX10_carryOut 19 = .ok (.iconst 0, 1) := by decide +kernel
theorem dX10_carryOut_20 : decode cX10_carryOut 20 = .ok (.istore_n 1, 1) := by decide +kernel
theorem dX10_carryOut_21 : decode cX10_carryOut 21 = .ok (.iload_n 1, 1) := by decide +kernel
theorem dX10_carryOut_22 : decode cX10_carryOut 22 = .ok (.aload_n 0, 1) := by decide +kernel
theorem dX10_carryOut_23 : decode cX10_carryOut 23 = .ok (.getfield 167, 3) := by decide +kernel
theorem dX10_carryOut_26 : decode cX10_carryOut 26 = .ok (.if_icmp .ge 17, 3) := by decide +kernel
theorem dX10_carryOut_29 : decode cX10_carryOut 29 = .ok (.aload_n 0, 1) := by decide +kernel
theorem dX10_carryOut_30 : decode cX10_carryOut 30 = .ok (.iload_n 1, 1) := by decide +kernel
theorem dX10_carryOut_31 : decode cX10_carryOut 31 = .ok (.invokevirtual 189, 3) := by decide +kernel
theorem dX10_carryOut_34 : decode cX10_carryOut 34 = .ok (.ifCond .eq 9, 3) := by decide +kernel
theorem dX10_carryOut_37 : decode cX10_carryOut 37 = .ok (.iinc 1 1, 3) := by decide +kernel
theorem dX10_carryOut_40 : decode cX10_carryOut 40 = .ok (.goto (-19), 3) := by decide +kernel
theorem dX10_carryOut_43 : decode cX10_carryOut 43 = .ok (.iload_n 1, 1) := by decide +kernel
theorem dX10_carryOut_44 : decode cX10_carryOut 44 = .ok (.ireturn, 1) := by decide +kernel
theorem dJxe99ae_isNaN_b9ae7_0 : decode cJxe99ae_isNaN_b9ae7 0 = .ok (.dload_n 0, 1) := by decide +kernel
theorem dJxe99ae_isNaN_b9ae7_1 : decode cJxe99ae_isNaN_b9ae7 1 = .ok (.dload_n 0, 1) := by decide +kernel
theorem dJxe99ae_isNaN_b9ae7_2 : decode cJxe99ae_isNaN_b9ae7 2 = .ok (.dcmp .l, 1) := by decide +kernel
theorem dJxe99ae_isNaN_b9ae7_3 : decode cJxe99ae_isNaN_b9ae7 3 = .ok (.ifCond .eq 7, 3) := by decide +kernel
theorem dJxe99ae_isNaN_b9ae7_6 : decode cJxe99ae_isNaN_b9ae7 6 = .ok (.iconst 1, 1) := by decide +kernel
theorem dJxe99ae_isNaN_b9ae7_7 : decode cJxe99ae_isNaN_b9ae7 7 = .ok (.goto 4, 3) := by decide +kernel
theorem dJxe99ae_isNaN_b9ae7_10 : decode cJxe99ae_isNaN_b9ae7 10 = .ok (.iconst 0, 1) := by decide +kernel
theorem dJxe99ae_isNaN_b9ae7_11 : decode cJxe99ae_isNaN_b9ae7 11 = .ok (.ireturn, 1) := by decide +kernel
theorem dJxe99ae_doubleToLongBits_ccdee_0 : decode cJxe99ae_doubleToLongBits_ccdee 0 = .ok (.dload_n 0, 1) := by decide +kernel
theorem dJxe99ae_doubleToLongBits_ccdee_1 : decode cJxe99ae_doubleToLongBits_ccdee 1 = .ok (.invokestatic 122, 3) := by decide +kernel
theorem dJxe99ae_doubleToLongBits_ccdee_4 : decode cJxe99ae_doubleToLongBits_ccdee 4 = .ok (.ifCond .ne 8, 3) := by decide +kernel
theorem dJxe99ae_doubleToLongBits_ccdee_7 : decode cJxe99ae_doubleToLongBits_ccdee 7 = .ok (.dload_n 0, 1) := by decide +kernel
theorem dJxe99ae_doubleToLongBits_ccdee_8 : decode cJxe99ae_doubleToLongBits_ccdee 8 = .ok (.invokestatic 134, 3) := by decide +kernel
theorem dJxe99ae_doubleToLongBits_ccdee_11 : decode cJxe99ae_doubleToLongBits_ccdee 11 = .ok (.lreturn, 1) := by decide +kernel
theorem dJxe99ae_doubleToLongBits_ccdee_12 : decode cJxe99ae_doubleToLongBits_ccdee 12 = .ok (.ldc2_w 137, 3) := by decide +kernel
theorem dJxe99ae_doubleToLongBits_ccdee_15 : decode cJxe99ae_doubleToLongBits_ccdee 15 = .ok (.lreturn, 1) := by decide +kernel
theorem dJxf58ca_isNaN_12338_0 : decode cJxf58ca_isNaN_12338 0 = .ok (.fload_n 0, 1) := by decide +kernel
theorem dJxf58ca_isNaN_12338_1 : decode cJxf58ca_isNaN_12338 1 = .ok (.fload_n 0, 1) := by decide +kernel
theorem dJxf58ca_isNaN_12338_2 : decode cJxf58ca_isNaN_12338 2 = .ok (.fcmp .l, 1) := by decide +kernel
theorem dJxf58ca_isNaN_12338_3 : decode cJxf58ca_isNaN_12338 3 = .ok (.ifCond .eq 7, 3) := by decide +kernel
theorem dJxf58ca_isNaN_12338_6 : decode cJxf58ca_isNaN_12338 6 = .ok (.iconst 1, 1) := by decide +kernel
theorem dJxf58ca_isNaN_12338_7 : decode cJxf58ca_isNaN_12338 7 = .ok (.goto 4, 3) := by decide +kernel
theorem dJxf58ca_isNaN_12338_10 : decode cJxf58ca_isNaN_12338 10 = .ok (.iconst 0, 1) := by decide +kernel
theorem dJxf58ca_isNaN_12338_11 : decode cJxf58ca_isNaN_12338 11 = .ok (.ireturn, 1) := by decide +kernel
theorem dJxf58ca_floatToIntBits_5c35a_0 : decode cJxf58ca_floatToIntBits_5c35a 0 = .ok (.fload_n 0, 1) := by decide +kernel
theorem dJxf58ca_floatToIntBits_5c35a_1 : decode cJxf58ca_floatToIntBits_5c35a 1 = .ok (.invokestatic 59, 3) := by decide +kernel
theorem dJxf58ca_floatToIntBits_5c35a_4 : decode cJxf58ca_floatToIntBits_5c35a 4 = .ok (.ifCond .ne 8, 3) := by decide +kernel
theorem dJxf58ca_floatToIntBits_5c35a_7 : decode cJxf58ca_floatToIntBits_5c35a 7 = .ok (.fload_n 0, 1) := by decide +kernel
theorem dJxf58ca_floatToIntBits_5c35a_8 : decode cJxf58ca_floatToIntBits_5c35a 8 = .ok (.invokestatic 74, 3) := by decide +kernel
theorem dJxf58ca_floatToIntBits_5c35a_11 : decode cJxf58ca_floatToIntBits_5c35a 11 = .ok (.ireturn, 1) := by decide +kernel
theorem dJxf58ca_floatToIntBits_5c35a_12 : decode cJxf58ca_floatToIntBits_5c35a 12 = .ok (.ldc 77, 2) := by decide +kernel
theorem dJxf58ca_floatToIntBits_5c35a_14 : decode cJxf58ca_floatToIntBits_5c35a 14 = .ok (.ireturn, 1) := by decide +kernel
theorem dJ9_abs_0f7a4_0 : decode cJ9_abs_0f7a4 0 = .ok (.iload_n 0, 1) := by decide +kernel
theorem dJ9_abs_0f7a4_1 : decode cJ9_abs_0f7a4 1 = .ok (.ifCond .ge 8, 3) := by decide +kernel
theorem dJ9_abs_0f7a4_4 : decode cJ9_abs_0f7a4 4 = .ok (.iload_n 0, 1) := by decide +kernel
theorem dJ9_abs_0f7a4_5 : decode cJ9_abs_0f7a4 5 = .ok (.ineg, 1) := by decide +kernel
theorem dJ9_abs_0f7a4_6 : decode cJ9_abs_0f7a4 6 = .ok (.goto 4, 3) := by decide +kernel
theorem dJ9_abs_0f7a4_9 : decode cJ9_abs_0f7a4 9 = .ok (.iload_n 0, 1) := by decide +kernel
theorem dJ9_abs_0f7a4_10 : decode cJ9_abs_0f7a4 10 = .ok (.ireturn, 1) := by decide +kernel
theorem dJ9_max_7cf53_0 : decode cJ9_max_7cf53 0 = .ok (.iload_n 0, 1) := by decide +kernel
theorem dJ9_max_7cf53_1 : decode cJ9_max_7cf53 1 = .ok (.iload_n 1, 1) := by decide +kernel
theorem dJ9_max_7cf53_2 : decode cJ9_max_7cf53 2 = .ok (.if_icmp .lt 7, 3) := by decide +kernel
theorem dJ9_max_7cf53_5 : decode cJ9_max_7cf53 5 = .ok (.iload_n 0, 1) := by decide +kernel
theorem dJ9_max_7cf53_6 : decode cJ9_max_7cf53 6 = .ok (.goto 4, 3) := by decide +kernel
theorem dJ9_max_7cf53_9 : decode cJ9_max_7cf53 9 = .ok (.iload_n 1, 1) := by decide +kernel
theorem dJ9_max_7cf53_10 : decode cJ9_max_7cf53 10 = .ok (.ireturn, 1) := by decide +kernel
theorem dJ9_min_7cf53_0 : decode cJ9_min_7cf53 0 = .ok (.iload_n 0, 1) := by decide +kernel
theorem dJ9_min_7cf53_1 : decode cJ9_min_7cf53 1 = .ok (.iload_n 1, 1) := by decide +kernel
theorem dJ9_min_7cf53_2 : decode cJ9_min_7cf53 2 = .ok (.if_icmp .gt 7, 3) := by decide +kernel
theorem dJ9_min_7cf53_5 : decode cJ9_min_7cf53 5 = .ok (.iload_n 0, 1) := by decide +kernel
theorem dJ9_min_7cf53_6 : decode cJ9_min_7cf53 6 = .ok (.goto 4, 3) := by decide +kernel
theorem dJ9_min_7cf53_9 : decode cJ9_min_7cf53 9 = .ok (.iload_n 1, 1) := by decide +kernel
theorem dJ9_min_7cf53_10 : decode cJ9_min_7cf53 10 = .ok (.ireturn, 1) := by decide +kernel
theorem dL_law_0 : decode cL_law 0 = .ok (.new 7, 3) := by decide +kernel
theorem dL_law_3 : decode cL_law 3 = .ok (.dup, 1) := by decide +kernel
theorem dL_law_4 : decode cL_law 4 = .ok (.invokespecial 9, 3) := by decide +kernel
theorem dL_law_7 : decode cL_law 7 = .ok (.astore_n 1, 1) := by decide +kernel
theorem dL_law_8 : decode cL_law 8 = .ok (.new 10, 3) := by decide +kernel
theorem dL_law_11 : decode cL_law 11 = .ok (.dup, 1) := by decide +kernel
theorem dL_law_12 : decode cL_law 12 = .ok (.invokespecial 12, 3) := by decide +kernel
theorem dL_law_15 : decode cL_law 15 = .ok (.astore_n 2, 1) := by decide +kernel
theorem dL_law_16 : decode cL_law 16 = .ok (.iconst 0, 1) := by decide +kernel
theorem dL_law_17 : decode cL_law 17 = .ok (.istore_n 3, 1) := by decide +kernel
theorem dL_law_18 : decode cL_law 18 = .ok (.iload_n 3, 1) := by decide +kernel
theorem dL_law_19 : decode cL_law 19 = .ok (.aload_n 0, 1) := by decide +kernel
theorem dL_law_20 : decode cL_law 20 = .ok (.arraylength, 1) := by decide +kernel
theorem dL_law_21 : decode cL_law 21 = .ok (.bipush 6, 2) := by decide +kernel
theorem dL_law_23 : decode cL_law 23 = .ok (.isub, 1) := by decide +kernel
theorem dL_law_24 : decode cL_law 24 = .ok (.if_icmp .gt 795, 3) := by decide +kernel
theorem dL_law_27 : decode cL_law 27 = .ok (.aload_n 0, 1) := by decide +kernel
theorem dL_law_28 : decode cL_law 28 = .ok (.iload_n 3, 1) := by decide +kernel
theorem dL_law_29 : decode cL_law 29 = .ok (.iaload, 1) := by decide +kernel
theorem dL_law_30 : decode cL_law 30 = .ok (.bipush 31, 2) := by decide +kernel
theorem dL_law_32 : decode cL_law 32 = .ok (.iand, 1) := by decide +kernel
theorem dL_law_33 : decode cL_law 33 = .ok (.tableswitch 780 0 21 #[103, 136, 169, 192, 205, 238, 281, 324, 357, 380, 433, 496, 539, 563, 596, 629, 682, 695, 708, 721, 734, 757], 103) := by decide +kernel
theorem dL_law_136 : decode cL_law 136 = .ok (.aload_n 1, 1) := by decide +kernel
theorem dL_law_137 : decode cL_law 137 = .ok (.aload_n 0, 1) := by decide +kernel
theorem dL_law_138 : decode cL_law 138 = .ok (.iload_n 3, 1) := by decide +kernel
theorem dL_law_139 : decode cL_law 139 = .ok (.iconst 1, 1) := by decide +kernel
theorem dL_law_140 : decode cL_law 140 = .ok (.iadd, 1) := by decide +kernel
theorem dL_law_141 : decode cL_law 141 = .ok (.iaload, 1) := by decide +kernel
theorem dL_law_142 : decode cL_law 142 = .ok (.aload_n 0, 1) := by decide +kernel
theorem dL_law_143 : decode cL_law 143 = .ok (.iload_n 3, 1) := by decide +kernel
theorem dL_law_144 : decode cL_law 144 = .ok (.iconst 2, 1) := by decide +kernel
theorem dL_law_145 : decode cL_law 145 = .ok (.iadd, 1) := by decide +kernel
theorem dL_law_146 : decode cL_law 146 = .ok (.iaload, 1) := by decide +kernel
theorem dL_law_147 : decode cL_law 147 = .ok (.invokevirtual 13, 3) := by decide +kernel
theorem dL_law_150 : decode cL_law 150 = .ok (.aload_n 2, 1) := by decide +kernel
theorem dL_law_151 : decode cL_law 151 = .ok (.aload_n 0, 1) := by decide +kernel
theorem dL_law_152 : decode cL_law 152 = .ok (.iload_n 3, 1) := by decide +kernel
theorem dL_law_153 : decode cL_law 153 = .ok (.iconst 1, 1) := by decide +kernel
theorem dL_law_154 : decode cL_law 154 = .ok (.iadd, 1) := by decide +kernel
theorem dL_law_155 : decode cL_law 155 = .ok (.iaload, 1) := by decide +kernel
theorem dL_law_156 : decode cL_law 156 = .ok (.aload_n 0, 1) := by decide +kernel
theorem dL_law_157 : decode cL_law 157 = .ok (.iload_n 3, 1) := by decide +kernel
theorem dL_law_158 : decode cL_law 158 = .ok (.iconst 2, 1) := by decide +kernel
theorem dL_law_159 : decode cL_law 159 = .ok (.iadd, 1) := by decide +kernel
theorem dL_law_160 : decode cL_law 160 = .ok (.iaload, 1) := by decide +kernel
theorem dL_law_161 : decode cL_law 161 = .ok (.invokevirtual 17, 3) := by decide +kernel
theorem dL_law_164 : decode cL_law 164 = .ok (.if_icmp .eq 649, 3) := by decide +kernel
theorem dL_law_167 : decode cL_law 167 = .ok (.iconst 0, 1) := by decide +kernel
theorem dL_law_168 : decode cL_law 168 = .ok (.ireturn, 1) := by decide +kernel
theorem dL_law_169 : decode cL_law 169 = .ok (.aload_n 1, 1) := by decide +kernel
theorem dL_law_170 : decode cL_law 170 = .ok (.aload_n 0, 1) := by decide +kernel
theorem dL_law_171 : decode cL_law 171 = .ok (.iload_n 3, 1) := by decide +kernel
theorem dL_law_172 : decode cL_law 172 = .ok (.iconst 1, 1) := by decide +kernel
theorem dL_law_173 : decode cL_law 173 = .ok (.iadd, 1) := by decide +kernel
theorem dL_law_174 : decode cL_law 174 = .ok (.iaload, 1) := by decide +kernel
theorem dL_law_175 : decode cL_law 175 = .ok (.aload_n 0, 1) := by decide +kernel
theorem dL_law_176 : decode cL_law 176 = .ok (.iload_n 3, 1) := by decide +kernel
theorem dL_law_177 : decode cL_law 177 = .ok (.iconst 2, 1) := by decide +kernel
theorem dL_law_178 : decode cL_law 178 = .ok (.iadd, 1) := by decide +kernel
theorem dL_law_179 : decode cL_law 179 = .ok (.iaload, 1) := by decide +kernel
theorem dL_law_180 : decode cL_law 180 = .ok (.invokevirtual 18, 3) := by decide +kernel
theorem dL_law_183 : decode cL_law 183 = .ok (.aload_n 2, 1) := by decide +kernel
theorem dL_law_184 : decode cL_law 184 = .ok (.aload_n 0, 1) := by decide +kernel
theorem dL_law_185 : decode cL_law 185 = .ok (.iload_n 3, 1) := by decide +kernel
theorem dL_law_186 : decode cL_law 186 = .ok (.iconst 1, 1) := by decide +kernel
theorem dL_law_187 : decode cL_law 187 = .ok (.iadd, 1) := by decide +kernel
theorem dL_law_188 : decode cL_law 188 = .ok (.iaload, 1) := by decide +kernel
theorem dL_law_189 : decode cL_law 189 = .ok (.aload_n 0, 1) := by decide +kernel
theorem dL_law_190 : decode cL_law 190 = .ok (.iload_n 3, 1) := by decide +kernel
theorem dL_law_191 : decode cL_law 191 = .ok (.iconst 2, 1) := by decide +kernel
theorem dL_law_192 : decode cL_law 192 = .ok (.iadd, 1) := by decide +kernel
theorem dL_law_193 : decode cL_law 193 = .ok (.iaload, 1) := by decide +kernel
theorem dL_law_194 : decode cL_law 194 = .ok (.invokevirtual 21, 3) := by decide +kernel
theorem dL_law_197 : decode cL_law 197 = .ok (.if_icmp .eq 616, 3) := by decide +kernel
theorem dL_law_200 : decode cL_law 200 = .ok (.iconst 0, 1) := by decide +kernel
theorem dL_law_201 : decode cL_law 201 = .ok (.ireturn, 1) := by decide +kernel
theorem dL_law_202 : decode cL_law 202 = .ok (.aload_n 1, 1) := by decide +kernel
theorem dL_law_203 : decode cL_law 203 = .ok (.aload_n 0, 1) := by decide +kernel
theorem dL_law_204 : decode cL_law 204 = .ok (.iload_n 3, 1) := by decide +kernel
theorem dL_law_205 : decode cL_law 205 = .ok (.iconst 1, 1) := by decide +kernel
theorem dL_law_206 : decode cL_law 206 = .ok (.iadd, 1) := by decide +kernel
theorem dL_law_207 : decode cL_law 207 = .ok (.iaload, 1) := by decide +kernel
theorem dL_law_208 : decode cL_law 208 = .ok (.invokevirtual 22, 3) := by decide +kernel
theorem dL_law_211 : decode cL_law 211 = .ok (.aload_n 2, 1) := by decide +kernel
theorem dL_law_212 : decode cL_law 212 = .ok (.aload_n 0, 1) := by decide +kernel
theorem dL_law_213 : decode cL_law 213 = .ok (.iload_n 3, 1) := by decide +kernel
theorem dL_law_214 : decode cL_law 214 = .ok (.iconst 1, 1) := by decide +kernel
theorem dL_law_215 : decode cL_law 215 = .ok (.iadd, 1) := by decide +kernel
theorem dL_law_216 : decode cL_law 216 = .ok (.iaload, 1) := by decide +kernel
theorem dL_law_217 : decode cL_law 217 = .ok (.invokevirtual 26, 3) := by decide +kernel
theorem dL_law_220 : decode cL_law 220 = .ok (.if_icmp .eq 593, 3) := by decide +kernel
theorem dL_law_223 : decode cL_law 223 = .ok (.iconst 0, 1) := by decide +kernel
theorem dL_law_224 : decode cL_law 224 = .ok (.ireturn, 1) := by decide +kernel
theorem dL_law_225 : decode cL_law 225 = .ok (.aload_n 1, 1) := by decide +kernel
theorem dL_law_226 : decode cL_law 226 = .ok (.invokevirtual 27, 3) := by decide +kernel
theorem dL_law_229 : decode cL_law 229 = .ok (.aload_n 2, 1) := by decide +kernel
theorem dL_law_230 : decode cL_law 230 = .ok (.invokevirtual 31, 3) := by decide +kernel
theorem dL_law_233 : decode cL_law 233 = .ok (.if_icmp .eq 580, 3) := by decide +kernel
theorem dL_law_236 : decode cL_law 236 = .ok (.iconst 0, 1) := by decide +kernel
theorem dL_law_237 : decode cL_law 237 = .ok (.ireturn, 1) := by decide +kernel
theorem dL_law_238 : decode cL_law 238 = .ok (.aload_n 1, 1) := by decide +kernel
theorem dL_law_239 : decode cL_law 239 = .ok (.aload_n 0, 1) := by decide +kernel
theorem dL_law_240 : decode cL_law 240 = .ok (.iload_n 3, 1) := by decide +kernel
theorem dL_law_241 : decode cL_law 241 = .ok (.iconst 1, 1) := by decide +kernel
theorem dL_law_242 : decode cL_law 242 = .ok (.iadd, 1) := by decide +kernel
theorem dL_law_243 : decode cL_law 243 = .ok (.iaload, 1) := by decide +kernel
theorem dL_law_244 : decode cL_law 244 = .ok (.aload_n 0, 1) := by decide +kernel
theorem dL_law_245 : decode cL_law 245 = .ok (.iload_n 3, 1) := by decide +kernel
theorem dL_law_246 : decode cL_law 246 = .ok (.iconst 2, 1) := by decide +kernel
theorem dL_law_247 : decode cL_law 247 = .ok (.iadd, 1) := by decide +kernel
theorem dL_law_248 : decode cL_law 248 = .ok (.iaload, 1) := by decide +kernel
theorem dL_law_249 : decode cL_law 249 = .ok (.invokevirtual 32, 3) := by decide +kernel
theorem dL_law_252 : decode cL_law 252 = .ok (.aload_n 2, 1) := by decide +kernel
theorem dL_law_253 : decode cL_law 253 = .ok (.aload_n 0, 1) := by decide +kernel
theorem dL_law_254 : decode cL_law 254 = .ok (.iload_n 3, 1) := by decide +kernel
theorem dL_law_255 : decode cL_law 255 = .ok (.iconst 1, 1) := by decide +kernel
theorem dL_law_256 : decode cL_law 256 = .ok (.iadd, 1) := by decide +kernel
theorem dL_law_257 : decode cL_law 257 = .ok (.iaload, 1) := by decide +kernel
theorem dL_law_258 : decode cL_law 258 = .ok (.aload_n 0, 1) := by decide +kernel
theorem dL_law_259 : decode cL_law 259 = .ok (.iload_n 3, 1) := by decide +kernel
theorem dL_law_260 : decode cL_law 260 = .ok (.iconst 2, 1) := by decide +kernel
theorem dL_law_261 : decode cL_law 261 = .ok (.iadd, 1) := by decide +kernel
theorem dL_law_262 : decode cL_law 262 = .ok (.iaload, 1) := by decide +kernel
theorem dL_law_263 : decode cL_law 263 = .ok (.invokevirtual 35, 3) := by decide +kernel
theorem dL_law_266 : decode cL_law 266 = .ok (.if_icmp .eq 547, 3) := by decide +kernel
theorem dL_law_269 : decode cL_law 269 = .ok (.iconst 0, 1) := by decide +kernel
theorem dL_law_270 : decode cL_law 270 = .ok (.ireturn, 1) := by decide +kernel
theorem dL_law_271 : decode cL_law 271 = .ok (.aload_n 1, 1) := by decide +kernel
theorem dL_law_272 : decode cL_law 272 = .ok (.aload_n 0, 1) := by decide +kernel
theorem dL_law_273 : decode cL_law 273 = .ok (.iload_n 3, 1) := by decide +kernel
theorem dL_law_274 : decode cL_law 274 = .ok (.iconst 1, 1) := by decide +kernel
theorem dL_law_275 : decode cL_law 275 = .ok (.iadd, 1) := by decide +kernel
theorem dL_law_276 : decode cL_law 276 = .ok (.iaload, 1) := by decide +kernel
theorem dL_law_277 : decode cL_law 277 = .ok (.aload_n 0, 1) := by decide +kernel
theorem dL_law_278 : decode cL_law 278 = .ok (.iload_n 3, 1) := by decide +kernel
theorem dL_law_279 : decode cL_law 279 = .ok (.iconst 2, 1) := by decide +kernel
theorem dL_law_280 : decode cL_law 280 = .ok (.iadd, 1) := by decide +kernel
theorem dL_law_281 : decode cL_law 281 = .ok (.iaload, 1) := by decide +kernel
theorem dL_law_282 : decode cL_law 282 = .ok (.aload_n 0, 1) := by decide +kernel
theorem dL_law_283 : decode cL_law 283 = .ok (.iload_n 3, 1) := by decide +kernel
theorem dL_law_284 : decode cL_law 284 = .ok (.iconst 3, 1) := by decide +kernel
theorem dL_law_285 : decode cL_law 285 = .ok (.iadd, 1) := by decide +kernel
theorem dL_law_286 : decode cL_law 286 = .ok (.iaload, 1) := by decide +kernel
theorem dL_law_287 : decode cL_law 287 = .ok (.invokevirtual 36, 3) := by decide +kernel
theorem dL_law_290 : decode cL_law 290 = .ok (.aload_n 2, 1) := by decide +kernel
theorem dL_law_291 : decode cL_law 291 = .ok (.aload_n 0, 1) := by decide +kernel
theorem dL_law_292 : decode cL_law 292 = .ok (.iload_n 3, 1) := by decide +kernel
theorem dL_law_293 : decode cL_law 293 = .ok (.iconst 1, 1) := by decide +kernel
theorem dL_law_294 : decode cL_law 294 = .ok (.iadd, 1) := by decide +kernel
theorem dL_law_295 : decode cL_law 295 = .ok (.iaload, 1) := by decide +kernel
theorem dL_law_296 : decode cL_law 296 = .ok (.aload_n 0, 1) := by decide +kernel
theorem dL_law_297 : decode cL_law 297 = .ok (.iload_n 3, 1) := by decide +kernel
theorem dL_law_298 : decode cL_law 298 = .ok (.iconst 2, 1) := by decide +kernel
theorem dL_law_299 : decode cL_law 299 = .ok (.iadd, 1) := by decide +kernel
theorem dL_law_300 : decode cL_law 300 = .ok (.iaload, 1) := by decide +kernel
theorem dL_law_301 : decode cL_law 301 = .ok (.aload_n 0, 1) := by decide +kernel
theorem dL_law_302 : decode cL_law 302 = .ok (.iload_n 3, 1) := by decide +kernel
theorem dL_law_303 : decode cL_law 303 = .ok (.iconst 3, 1) := by decide +kernel
theorem dL_law_304 : decode cL_law 304 = .ok (.iadd, 1) := by decide +kernel
theorem dL_law_305 : decode cL_law 305 = .ok (.iaload, 1) := by decide +kernel
theorem dL_law_306 : decode cL_law 306 = .ok (.invokevirtual 40, 3) := by decide +kernel
theorem dL_law_309 : decode cL_law 309 = .ok (.if_icmp .eq 504, 3) := by decide +kernel
theorem dL_law_312 : decode cL_law 312 = .ok (.iconst 0, 1) := by decide +kernel
theorem dL_law_313 : decode cL_law 313 = .ok (.ireturn, 1) := by decide +kernel
theorem dL_law_314 : decode cL_law 314 = .ok (.aload_n 1, 1) := by decide +kernel
theorem dL_law_315 : decode cL_law 315 = .ok (.aload_n 0, 1) := by decide +kernel
theorem dL_law_316 : decode cL_law 316 = .ok (.iload_n 3, 1) := by decide +kernel
theorem dL_law_317 : decode cL_law 317 = .ok (.iconst 1, 1) := by decide +kernel
theorem dL_law_318 : decode cL_law 318 = .ok (.iadd, 1) := by decide +kernel
theorem dL_law_319 : decode cL_law 319 = .ok (.iaload, 1) := by decide +kernel
theorem dL_law_320 : decode cL_law 320 = .ok (.aload_n 0, 1) := by decide +kernel
theorem dL_law_321 : decode cL_law 321 = .ok (.iload_n 3, 1) := by decide +kernel
theorem dL_law_322 : decode cL_law 322 = .ok (.iconst 2, 1) := by decide +kernel
theorem dL_law_323 : decode cL_law 323 = .ok (.iadd, 1) := by decide +kernel
theorem dL_law_324 : decode cL_law 324 = .ok (.iaload, 1) := by decide +kernel
theorem dL_law_325 : decode cL_law 325 = .ok (.aload_n 0, 1) := by decide +kernel
theorem dL_law_326 : decode cL_law 326 = .ok (.iload_n 3, 1) := by decide +kernel
theorem dL_law_327 : decode cL_law 327 = .ok (.iconst 3, 1) := by decide +kernel
theorem dL_law_328 : decode cL_law 328 = .ok (.iadd, 1) := by decide +kernel
theorem dL_law_329 : decode cL_law 329 = .ok (.iaload, 1) := by decide +kernel
theorem dL_law_330 : decode cL_law 330 = .ok (.invokevirtual 41, 3) := by decide +kernel
theorem dL_law_333 : decode cL_law 333 = .ok (.aload_n 2, 1) := by decide +kernel
theorem dL_law_334 : decode cL_law 334 = .ok (.aload_n 0, 1) := by decide +kernel
theorem dL_law_335 : decode cL_law 335 = .ok (.iload_n 3, 1) := by decide +kernel
theorem dL_law_336 : decode cL_law 336 = .ok (.iconst 1, 1) := by decide +kernel
theorem dL_law_337 : decode cL_law 337 = .ok (.iadd, 1) := by decide +kernel
theorem dL_law_338 : decode cL_law 338 = .ok (.iaload, 1) := by decide +kernel
theorem dL_law_339 : decode cL_law 339 = .ok (.aload_n 0, 1) := by decide +kernel
theorem dL_law_340 : decode cL_law 340 = .ok (.iload_n 3, 1) := by decide +kernel
theorem dL_law_341 : decode cL_law 341 = .ok (.iconst 2, 1) := by decide +kernel
theorem dL_law_342 : decode cL_law 342 = .ok (.iadd, 1) := by decide +kernel
theorem dL_law_343 : decode cL_law 343 = .ok (.iaload, 1) := by decide +kernel
theorem dL_law_344 : decode cL_law 344 = .ok (.aload_n 0, 1) := by decide +kernel
theorem dL_law_345 : decode cL_law 345 = .ok (.iload_n 3, 1) := by decide +kernel
theorem dL_law_346 : decode cL_law 346 = .ok (.iconst 3, 1) := by decide +kernel
theorem dL_law_347 : decode cL_law 347 = .ok (.iadd, 1) := by decide +kernel
theorem dL_law_348 : decode cL_law 348 = .ok (.iaload, 1) := by decide +kernel
theorem dL_law_349 : decode cL_law 349 = .ok (.invokevirtual 44, 3) := by decide +kernel
theorem dL_law_352 : decode cL_law 352 = .ok (.if_icmp .eq 461, 3) := by decide +kernel
theorem dL_law_355 : decode cL_law 355 = .ok (.iconst 0, 1) := by decide +kernel
theorem dL_law_356 : decode cL_law 356 = .ok (.ireturn, 1) := by decide +kernel
theorem dL_law_357 : decode cL_law 357 = .ok (.aload_n 1, 1) := by decide +kernel
theorem dL_law_358 : decode cL_law 358 = .ok (.aload_n 0, 1) := by decide +kernel
theorem dL_law_359 : decode cL_law 359 = .ok (.iload_n 3, 1) := by decide +kernel
theorem dL_law_360 : decode cL_law 360 = .ok (.iconst 1, 1) := by decide +kernel
theorem dL_law_361 : decode cL_law 361 = .ok (.iadd, 1) := by decide +kernel
theorem dL_law_362 : decode cL_law 362 = .ok (.iaload, 1) := by decide +kernel
theorem dL_law_363 : decode cL_law 363 = .ok (.aload_n 0, 1) := by decide +kernel
theorem dL_law_364 : decode cL_law 364 = .ok (.iload_n 3, 1) := by decide +kernel
theorem dL_law_365 : decode cL_law 365 = .ok (.iconst 2, 1) := by decide +kernel
theorem dL_law_366 : decode cL_law 366 = .ok (.iadd, 1) := by decide +kernel
theorem dL_law_367 : decode cL_law 367 = .ok (.iaload, 1) := by decide +kernel
theorem dL_law_368 : decode cL_law 368 = .ok (.invokevirtual 45, 3) := by decide +kernel
theorem dL_law_371 : decode cL_law 371 = .ok (.aload_n 2, 1) := by decide +kernel
theorem dL_law_372 : decode cL_law 372 = .ok (.aload_n 0, 1) := by decide +kernel
theorem dL_law_373 : decode cL_law 373 = .ok (.iload_n 3, 1) := by decide +kernel
theorem dL_law_374 : decode cL_law 374 = .ok (.iconst 1, 1) := by decide +kernel
theorem dL_law_375 : decode cL_law 375 = .ok (.iadd, 1) := by decide +kernel
theorem dL_law_376 : decode cL_law 376 = .ok (.iaload, 1) := by decide +kernel
theorem dL_law_377 : decode cL_law 377 = .ok (.aload_n 0, 1) := by decide +kernel
theorem dL_law_378 : decode cL_law 378 = .ok (.iload_n 3, 1) := by decide +kernel
theorem dL_law_379 : decode cL_law 379 = .ok (.iconst 2, 1) := by decide +kernel
theorem dL_law_380 : decode cL_law 380 = .ok (.iadd, 1) := by decide +kernel
theorem dL_law_381 : decode cL_law 381 = .ok (.iaload, 1) := by decide +kernel
theorem dL_law_382 : decode cL_law 382 = .ok (.invokevirtual 48, 3) := by decide +kernel
theorem dL_law_385 : decode cL_law 385 = .ok (.if_icmp .eq 428, 3) := by decide +kernel
theorem dL_law_388 : decode cL_law 388 = .ok (.iconst 0, 1) := by decide +kernel
theorem dL_law_389 : decode cL_law 389 = .ok (.ireturn, 1) := by decide +kernel
theorem dL_law_390 : decode cL_law 390 = .ok (.aload_n 1, 1) := by decide +kernel
theorem dL_law_391 : decode cL_law 391 = .ok (.aload_n 0, 1) := by decide +kernel
theorem dL_law_392 : decode cL_law 392 = .ok (.iload_n 3, 1) := by decide +kernel
theorem dL_law_393 : decode cL_law 393 = .ok (.iconst 1, 1) := by decide +kernel
theorem dL_law_394 : decode cL_law 394 = .ok (.iadd, 1) := by decide +kernel
theorem dL_law_395 : decode cL_law 395 = .ok (.iaload, 1) := by decide +kernel
theorem dL_law_396 : decode cL_law 396 = .ok (.invokevirtual 49, 3) := by decide +kernel
theorem dL_law_399 : decode cL_law 399 = .ok (.aload_n 2, 1) := by decide +kernel
theorem dL_law_400 : decode cL_law 400 = .ok (.aload_n 0, 1) := by decide +kernel
theorem dL_law_401 : decode cL_law 401 = .ok (.iload_n 3, 1) := by decide +kernel
theorem dL_law_402 : decode cL_law 402 = .ok (.iconst 1, 1) := by decide +kernel
theorem dL_law_403 : decode cL_law 403 = .ok (.iadd, 1) := by decide +kernel
theorem dL_law_404 : decode cL_law 404 = .ok (.iaload, 1) := by decide +kernel
theorem dL_law_405 : decode cL_law 405 = .ok (.invokevirtual 52, 3) := by decide +kernel
theorem dL_law_408 : decode cL_law 408 = .ok (.if_icmp .eq 405, 3) := by decide +kernel
theorem dL_law_411 : decode cL_law 411 = .ok (.iconst 0, 1) := by decide +kernel
theorem dL_law_412 : decode cL_law 412 = .ok (.ireturn, 1) := by decide +kernel
theorem dL_law_413 : decode cL_law 413 = .ok (.aload_n 1, 1) := by decide +kernel
theorem dL_law_414 : decode cL_law 414 = .ok (.aload_n 0, 1) := by decide +kernel
theorem dL_law_415 : decode cL_law 415 = .ok (.iload_n 3, 1) := by decide +kernel
theorem dL_law_416 : decode cL_law 416 = .ok (.iconst 1, 1) := by decide +kernel
theorem dL_law_417 : decode cL_law 417 = .ok (.iadd, 1) := by decide +kernel
theorem dL_law_418 : decode cL_law 418 = .ok (.iaload, 1) := by decide +kernel
theorem dL_law_419 : decode cL_law 419 = .ok (.aload_n 0, 1) := by decide +kernel
theorem dL_law_420 : decode cL_law 420 = .ok (.iload_n 3, 1) := by decide +kernel
theorem dL_law_421 : decode cL_law 421 = .ok (.iconst 2, 1) := by decide +kernel
theorem dL_law_422 : decode cL_law 422 = .ok (.iadd, 1) := by decide +kernel
theorem dL_law_423 : decode cL_law 423 = .ok (.iaload, 1) := by decide +kernel
theorem dL_law_424 : decode cL_law 424 = .ok (.aload_n 0, 1) := by decide +kernel
theorem dL_law_425 : decode cL_law 425 = .ok (.iload_n 3, 1) := by decide +kernel
theorem dL_law_426 : decode cL_law 426 = .ok (.iconst 3, 1) := by decide +kernel
theorem dL_law_427 : decode cL_law 427 = .ok (.iadd, 1) := by decide +kernel
theorem dL_law_428 : decode cL_law 428 = .ok (.iaload, 1) := by decide +kernel
theorem dL_law_429 : decode cL_law 429 = .ok (.aload_n 0, 1) := by decide +kernel
theorem dL_law_430 : decode cL_law 430 = .ok (.iload_n 3, 1) := by decide +kernel
theorem dL_law_431 : decode cL_law 431 = .ok (.iconst 4, 1) := by decide +kernel
theorem dL_law_432 : decode cL_law 432 = .ok (.iadd, 1) := by decide +kernel
theorem dL_law_433 : decode cL_law 433 = .ok (.iaload, 1) := by decide +kernel
theorem dL_law_434 : decode cL_law 434 = .ok (.invokevirtual 53, 3) := by decide +kernel
theorem dL_law_437 : decode cL_law 437 = .ok (.aload_n 2, 1) := by decide +kernel
theorem dL_law_438 : decode cL_law 438 = .ok (.aload_n 0, 1) := by decide +kernel
theorem dL_law_439 : decode cL_law 439 = .ok (.iload_n 3, 1) := by decide +kernel
theorem dL_law_440 : decode cL_law 440 = .ok (.iconst 1, 1) := by decide +kernel
theorem dL_law_441 : decode cL_law 441 = .ok (.iadd, 1) := by decide +kernel
theorem dL_law_442 : decode cL_law 442 = .ok (.iaload, 1) := by decide +kernel
theorem dL_law_443 : decode cL_law 443 = .ok (.aload_n 0, 1) := by decide +kernel
theorem dL_law_444 : decode cL_law 444 = .ok (.iload_n 3, 1) := by decide +kernel
theorem dL_law_445 : decode cL_law 445 = .ok (.iconst 2, 1) := by decide +kernel
theorem dL_law_446 : decode cL_law 446 = .ok (.iadd, 1) := by decide +kernel
theorem dL_law_447 : decode cL_law 447 = .ok (.iaload, 1) := by decide +kernel
theorem dL_law_448 : decode cL_law 448 = .ok (.aload_n 0, 1) := by decide +kernel
theorem dL_law_449 : decode cL_law 449 = .ok (.iload_n 3, 1) := by decide +kernel
theorem dL_law_450 : decode cL_law 450 = .ok (.iconst 3, 1) := by decide +kernel
theorem dL_law_451 : decode cL_law 451 = .ok (.iadd, 1) := by decide +kernel
theorem dL_law_452 : decode cL_law 452 = .ok (.iaload, 1) := by decide +kernel
theorem dL_law_453 : decode cL_law 453 = .ok (.aload_n 0, 1) := by decide +kernel
theorem dL_law_454 : decode cL_law 454 = .ok (.iload_n 3, 1) := by decide +kernel
theorem dL_law_455 : decode cL_law 455 = .ok (.iconst 4, 1) := by decide +kernel
theorem dL_law_456 : decode cL_law 456 = .ok (.iadd, 1) := by decide +kernel
theorem dL_law_457 : decode cL_law 457 = .ok (.iaload, 1) := by decide +kernel
theorem dL_law_458 : decode cL_law 458 = .ok (.invokevirtual 57, 3) := by decide +kernel
theorem dL_law_461 : decode cL_law 461 = .ok (.if_icmp .eq 352, 3) := by decide +kernel
theorem dL_law_464 : decode cL_law 464 = .ok (.iconst 0, 1) := by decide +kernel
theorem dL_law_465 : decode cL_law 465 = .ok (.ireturn, 1) := by decide +kernel
theorem dL_law_466 : decode cL_law 466 = .ok (.aload_n 1, 1) := by decide +kernel
theorem dL_law_467 : decode cL_law 467 = .ok (.aload_n 0, 1) := by decide +kernel
theorem dL_law_468 : decode cL_law 468 = .ok (.iload_n 3, 1) := by decide +kernel
theorem dL_law_469 : decode cL_law 469 = .ok (.iconst 1, 1) := by decide +kernel
theorem dL_law_470 : decode cL_law 470 = .ok (.iadd, 1) := by decide +kernel
theorem dL_law_471 : decode cL_law 471 = .ok (.iaload, 1) := by decide +kernel
theorem dL_law_472 : decode cL_law 472 = .ok (.aload_n 0, 1) := by decide +kernel
theorem dL_law_473 : decode cL_law 473 = .ok (.iload_n 3, 1) := by decide +kernel
theorem dL_law_474 : decode cL_law 474 = .ok (.iconst 2, 1) := by decide +kernel
theorem dL_law_475 : decode cL_law 475 = .ok (.iadd, 1) := by decide +kernel
theorem dL_law_476 : decode cL_law 476 = .ok (.iaload, 1) := by decide +kernel
theorem dL_law_477 : decode cL_law 477 = .ok (.aload_n 0, 1) := by decide +kernel
theorem dL_law_478 : decode cL_law 478 = .ok (.iload_n 3, 1) := by decide +kernel
theorem dL_law_479 : decode cL_law 479 = .ok (.iconst 3, 1) := by decide +kernel
theorem dL_law_480 : decode cL_law 480 = .ok (.iadd, 1) := by decide +kernel
theorem dL_law_481 : decode cL_law 481 = .ok (.iaload, 1) := by decide +kernel
theorem dL_law_482 : decode cL_law 482 = .ok (.aload_n 0, 1) := by decide +kernel
theorem dL_law_483 : decode cL_law 483 = .ok (.iload_n 3, 1) := by decide +kernel
theorem dL_law_484 : decode cL_law 484 = .ok (.iconst 4, 1) := by decide +kernel
theorem dL_law_485 : decode cL_law 485 = .ok (.iadd, 1) := by decide +kernel
theorem dL_law_486 : decode cL_law 486 = .ok (.iaload, 1) := by decide +kernel
theorem dL_law_487 : decode cL_law 487 = .ok (.aload_n 0, 1) := by decide +kernel
theorem dL_law_488 : decode cL_law 488 = .ok (.iload_n 3, 1) := by decide +kernel
theorem dL_law_489 : decode cL_law 489 = .ok (.iconst 5, 1) := by decide +kernel
theorem dL_law_490 : decode cL_law 490 = .ok (.iadd, 1) := by decide +kernel
theorem dL_law_491 : decode cL_law 491 = .ok (.iaload, 1) := by decide +kernel
theorem dL_law_492 : decode cL_law 492 = .ok (.invokevirtual 58, 3) := by decide +kernel
theorem dL_law_495 : decode cL_law 495 = .ok (.aload_n 2, 1) := by decide +kernel
theorem dL_law_496 : decode cL_law 496 = .ok (.aload_n 0, 1) := by decide +kernel
theorem dL_law_497 : decode cL_law 497 = .ok (.iload_n 3, 1) := by decide +kernel
theorem dL_law_498 : decode cL_law 498 = .ok (.iconst 1, 1) := by decide +kernel
theorem dL_law_499 : decode cL_law 499 = .ok (.iadd, 1) := by decide +kernel
theorem dL_law_500 : decode cL_law 500 = .ok (.iaload, 1) := by decide +kernel
theorem dL_law_501 : decode cL_law 501 = .ok (.aload_n 0, 1) := by decide +kernel
theorem dL_law_502 : decode cL_law 502 = .ok (.iload_n 3, 1) := by decide +kernel
theorem dL_law_503 : decode cL_law 503 = .ok (.iconst 2, 1) := by decide +kernel
theorem dL_law_504 : decode cL_law 504 = .ok (.iadd, 1) := by decide +kernel
theorem dL_law_505 : decode cL_law 505 = .ok (.iaload, 1) := by decide +kernel
theorem dL_law_506 : decode cL_law 506 = .ok (.aload_n 0, 1) := by decide +kernel
theorem dL_law_507 : decode cL_law 507 = .ok (.iload_n 3, 1) := by decide +kernel
theorem dL_law_508 : decode cL_law 508 = .ok (.iconst 3, 1) := by decide +kernel
theorem dL_law_509 : decode cL_law 509 = .ok (.iadd, 1) := by decide +kernel
theorem dL_law_510 : decode cL_law 510 = .ok (.iaload, 1) := by decide +kernel
theorem dL_law_511 : decode cL_law 511 = .ok (.aload_n 0, 1) := by decide +kernel
theorem dL_law_512 : decode cL_law 512 = .ok (.iload_n 3, 1) := by decide +kernel
theorem dL_law_513 : decode cL_law 513 = .ok (.iconst 4, 1) := by decide +kernel
theorem dL_law_514 : decode cL_law 514 = .ok (.iadd, 1) := by decide +kernel
theorem dL_law_515 : decode cL_law 515 = .ok (.iaload, 1) := by decide +kernel
theorem dL_law_516 : decode cL_law 516 = .ok (.aload_n 0, 1) := by decide +kernel
theorem dL_law_517 : decode cL_law 517 = .ok (.iload_n 3, 1) := by decide +kernel
theorem dL_law_518 : decode cL_law 518 = .ok (.iconst 5, 1) := by decide +kernel
theorem dL_law_519 : decode cL_law 519 = .ok (.iadd, 1) := by decide +kernel
theorem dL_law_520 : decode cL_law 520 = .ok (.iaload, 1) := by decide +kernel
theorem dL_law_521 : decode cL_law 521 = .ok (.invokevirtual 62, 3) := by decide +kernel
theorem dL_law_524 : decode cL_law 524 = .ok (.if_icmp .eq 289, 3) := by decide +kernel
theorem dL_law_527 : decode cL_law 527 = .ok (.iconst 0, 1) := by decide +kernel
theorem dL_law_528 : decode cL_law 528 = .ok (.ireturn, 1) := by decide +kernel
theorem dL_law_529 : decode cL_law 529 = .ok (.aload_n 1, 1) := by decide +kernel
theorem dL_law_530 : decode cL_law 530 = .ok (.aload_n 0, 1) := by decide +kernel
theorem dL_law_531 : decode cL_law 531 = .ok (.iload_n 3, 1) := by decide +kernel
theorem dL_law_532 : decode cL_law 532 = .ok (.iconst 1, 1) := by decide +kernel
theorem dL_law_533 : decode cL_law 533 = .ok (.iadd, 1) := by decide +kernel
theorem dL_law_534 : decode cL_law 534 = .ok (.iaload, 1) := by decide +kernel
theorem dL_law_535 : decode cL_law 535 = .ok (.aload_n 0, 1) := by decide +kernel
theorem dL_law_536 : decode cL_law 536 = .ok (.iload_n 3, 1) := by decide +kernel
theorem dL_law_537 : decode cL_law 537 = .ok (.iconst 2, 1) := by decide +kernel
theorem dL_law_538 : decode cL_law 538 = .ok (.iadd, 1) := by decide +kernel
theorem dL_law_539 : decode cL_law 539 = .ok (.iaload, 1) := by decide +kernel
theorem dL_law_540 : decode cL_law 540 = .ok (.aload_n 0, 1) := by decide +kernel
theorem dL_law_541 : decode cL_law 541 = .ok (.iload_n 3, 1) := by decide +kernel
theorem dL_law_542 : decode cL_law 542 = .ok (.iconst 3, 1) := by decide +kernel
theorem dL_law_543 : decode cL_law 543 = .ok (.iadd, 1) := by decide +kernel
theorem dL_law_544 : decode cL_law 544 = .ok (.iaload, 1) := by decide +kernel
theorem dL_law_545 : decode cL_law 545 = .ok (.invokevirtual 63, 3) := by decide +kernel
theorem dL_law_548 : decode cL_law 548 = .ok (.aload_n 2, 1) := by decide +kernel
theorem dL_law_549 : decode cL_law 549 = .ok (.aload_n 0, 1) := by decide +kernel
theorem dL_law_550 : decode cL_law 550 = .ok (.iload_n 3, 1) := by decide +kernel
theorem dL_law_551 : decode cL_law 551 = .ok (.iconst 1, 1) := by decide +kernel
theorem dL_law_552 : decode cL_law 552 = .ok (.iadd, 1) := by decide +kernel
theorem dL_law_553 : decode cL_law 553 = .ok (.iaload, 1) := by decide +kernel
theorem dL_law_554 : decode cL_law 554 = .ok (.aload_n 0, 1) := by decide +kernel
theorem dL_law_555 : decode cL_law 555 = .ok (.iload_n 3, 1) := by decide +kernel
theorem dL_law_556 : decode cL_law 556 = .ok (.iconst 2, 1) := by decide +kernel
theorem dL_law_557 : decode cL_law 557 = .ok (.iadd, 1) := by decide +kernel
theorem dL_law_558 : decode cL_law 558 = .ok (.iaload, 1) := by decide +kernel
theorem dL_law_559 : decode cL_law 559 = .ok (.aload_n 0, 1) := by decide +kernel
theorem dL_law_560 : decode cL_law 560 = .ok (.iload_n 3, 1) := by decide +kernel
theorem dL_law_561 : decode cL_law 561 = .ok (.iconst 3, 1) := by decide +kernel
theorem dL_law_562 : decode cL_law 562 = .ok (.iadd, 1) := by decide +kernel
theorem dL_law_563 : decode cL_law 563 = .ok (.iaload, 1) := by decide +kernel
theorem dL_law_564 : decode cL_law 564 = .ok (.invokevirtual 66, 3) := by decide +kernel
theorem dL_law_567 : decode cL_law 567 = .ok (.if_icmp .eq 246, 3) := by decide +kernel
theorem dL_law_570 : decode cL_law 570 = .ok (.iconst 0, 1) := by decide +kernel
theorem dL_law_571 : decode cL_law 571 = .ok (.ireturn, 1) := by decide +kernel
theorem dL_law_572 : decode cL_law 572 = .ok (.aload_n 1, 1) := by decide +kernel
theorem dL_law_573 : decode cL_law 573 = .ok (.aload_n 0, 1) := by decide +kernel
theorem dL_law_574 : decode cL_law 574 = .ok (.iload_n 3, 1) := by decide +kernel
theorem dL_law_575 : decode cL_law 575 = .ok (.iconst 1, 1) := by decide +kernel
theorem dL_law_576 : decode cL_law 576 = .ok (.iadd, 1) := by decide +kernel
theorem dL_law_577 : decode cL_law 577 = .ok (.iaload, 1) := by decide +kernel
theorem dL_law_578 : decode cL_law 578 = .ok (.invokevirtual 67, 3) := by decide +kernel
theorem dL_law_581 : decode cL_law 581 = .ok (.aload_n 2, 1) := by decide +kernel
theorem dL_law_582 : decode cL_law 582 = .ok (.aload_n 0, 1) := by decide +kernel
theorem dL_law_583 : decode cL_law 583 = .ok (.iload_n 3, 1) := by decide +kernel
theorem dL_law_584 : decode cL_law 584 = .ok (.iconst 1, 1) := by decide +kernel
theorem dL_law_585 : decode cL_law 585 = .ok (.iadd, 1) := by decide +kernel
theorem dL_law_586 : decode cL_law 586 = .ok (.iaload, 1) := by decide +kernel
theorem dL_law_587 : decode cL_law 587 = .ok (.invokevirtual 71, 3) := by decide +kernel
theorem dL_law_590 : decode cL_law 590 = .ok (.lcmp, 1) := by decide +kernel
theorem dL_law_591 : decode cL_law 591 = .ok (.ifCond .eq 222, 3) := by decide +kernel
theorem dL_law_594 : decode cL_law 594 = .ok (.iconst 0, 1) := by decide +kernel
theorem dL_law_595 : decode cL_law 595 = .ok (.ireturn, 1) := by decide +kernel
theorem dL_law_596 : decode cL_law 596 = .ok (.aload_n 1, 1) := by decide +kernel
theorem dL_law_597 : decode cL_law 597 = .ok (.aload_n 0, 1) := by decide +kernel
theorem dL_law_598 : decode cL_law 598 = .ok (.iload_n 3, 1) := by decide +kernel
theorem dL_law_599 : decode cL_law 599 = .ok (.iconst 1, 1) := by decide +kernel
theorem dL_law_600 : decode cL_law 600 = .ok (.iadd, 1) := by decide +kernel
theorem dL_law_601 : decode cL_law 601 = .ok (.iaload, 1) := by decide +kernel
theorem dL_law_602 : decode cL_law 602 = .ok (.aload_n 0, 1) := by decide +kernel
theorem dL_law_603 : decode cL_law 603 = .ok (.iload_n 3, 1) := by decide +kernel
theorem dL_law_604 : decode cL_law 604 = .ok (.iconst 2, 1) := by decide +kernel
theorem dL_law_605 : decode cL_law 605 = .ok (.iadd, 1) := by decide +kernel
theorem dL_law_606 : decode cL_law 606 = .ok (.iaload, 1) := by decide +kernel
theorem dL_law_607 : decode cL_law 607 = .ok (.invokevirtual 72, 3) := by decide +kernel
theorem dL_law_610 : decode cL_law 610 = .ok (.aload_n 2, 1) := by decide +kernel
theorem dL_law_611 : decode cL_law 611 = .ok (.aload_n 0, 1) := by decide +kernel
theorem dL_law_612 : decode cL_law 612 = .ok (.iload_n 3, 1) := by decide +kernel
theorem dL_law_613 : decode cL_law 613 = .ok (.iconst 1, 1) := by decide +kernel
theorem dL_law_614 : decode cL_law 614 = .ok (.iadd, 1) := by decide +kernel
theorem dL_law_615 : decode cL_law 615 = .ok (.iaload, 1) := by decide +kernel
theorem dL_law_616 : decode cL_law 616 = .ok (.aload_n 0, 1) := by decide +kernel
theorem dL_law_617 : decode cL_law 617 = .ok (.iload_n 3, 1) := by decide +kernel
theorem dL_law_618 : decode cL_law 618 = .ok (.iconst 2, 1) := by decide +kernel
theorem dL_law_619 : decode cL_law 619 = .ok (.iadd, 1) := by decide +kernel
theorem dL_law_620 : decode cL_law 620 = .ok (.iaload, 1) := by decide +kernel
theorem dL_law_621 : decode cL_law 621 = .ok (.invokevirtual 75, 3) := by decide +kernel
theorem dL_law_624 : decode cL_law 624 = .ok (.if_icmp .eq 189, 3) := by decide +kernel
theorem dL_law_627 : decode cL_law 627 = .ok (.iconst 0, 1) := by decide +kernel
theorem dL_law_628 : decode cL_law 628 = .ok (.ireturn, 1) := by decide +kernel
theorem dL_law_629 : decode cL_law 629 = .ok (.aload_n 1, 1) := by decide +kernel
theorem dL_law_630 : decode cL_law 630 = .ok (.aload_n 0, 1) := by decide +kernel
theorem dL_law_631 : decode cL_law 631 = .ok (.iload_n 3, 1) := by decide +kernel
theorem dL_law_632 : decode cL_law 632 = .ok (.iconst 1, 1) := by decide +kernel
theorem dL_law_633 : decode cL_law 633 = .ok (.iadd, 1) := by decide +kernel
theorem dL_law_634 : decode cL_law 634 = .ok (.iaload, 1) := by decide +kernel
theorem dL_law_635 : decode cL_law 635 = .ok (.aload_n 0, 1) := by decide +kernel
theorem dL_law_636 : decode cL_law 636 = .ok (.iload_n 3, 1) := by decide +kernel
theorem dL_law_637 : decode cL_law 637 = .ok (.iconst 2, 1) := by decide +kernel
theorem dL_law_638 : decode cL_law 638 = .ok (.iadd, 1) := by decide +kernel
theorem dL_law_639 : decode cL_law 639 = .ok (.iaload, 1) := by decide +kernel
theorem dL_law_640 : decode cL_law 640 = .ok (.invokevirtual 76, 3) := by decide +kernel
theorem dL_law_643 : decode cL_law 643 = .ok (.aload_n 2, 1) := by decide +kernel
theorem dL_law_644 : decode cL_law 644 = .ok (.aload_n 0, 1) := by decide +kernel
theorem dL_law_645 : decode cL_law 645 = .ok (.iload_n 3, 1) := by decide +kernel
theorem dL_law_646 : decode cL_law 646 = .ok (.iconst 1, 1) := by decide +kernel
theorem dL_law_647 : decode cL_law 647 = .ok (.iadd, 1) := by decide +kernel
theorem dL_law_648 : decode cL_law 648 = .ok (.iaload, 1) := by decide +kernel
theorem dL_law_649 : decode cL_law 649 = .ok (.aload_n 0, 1) := by decide +kernel
theorem dL_law_650 : decode cL_law 650 = .ok (.iload_n 3, 1) := by decide +kernel
theorem dL_law_651 : decode cL_law 651 = .ok (.iconst 2, 1) := by decide +kernel
theorem dL_law_652 : decode cL_law 652 = .ok (.iadd, 1) := by decide +kernel
theorem dL_law_653 : decode cL_law 653 = .ok (.iaload, 1) := by decide +kernel
theorem dL_law_654 : decode cL_law 654 = .ok (.invokevirtual 79, 3) := by decide +kernel
theorem dL_law_657 : decode cL_law 657 = .ok (.if_icmp .eq 156, 3) := by decide +kernel
theorem dL_law_660 : decode cL_law 660 = .ok (.iconst 0, 1) := by decide +kernel
theorem dL_law_661 : decode cL_law 661 = .ok (.ireturn, 1) := by decide +kernel
theorem dL_law_662 : decode cL_law 662 = .ok (.aload_n 1, 1) := by decide +kernel
theorem dL_law_663 : decode cL_law 663 = .ok (.aload_n 0, 1) := by decide +kernel
theorem dL_law_664 : decode cL_law 664 = .ok (.iload_n 3, 1) := by decide +kernel
theorem dL_law_665 : decode cL_law 665 = .ok (.iconst 1, 1) := by decide +kernel
theorem dL_law_666 : decode cL_law 666 = .ok (.iadd, 1) := by decide +kernel
theorem dL_law_667 : decode cL_law 667 = .ok (.iaload, 1) := by decide +kernel
theorem dL_law_668 : decode cL_law 668 = .ok (.i2l, 1) := by decide +kernel
theorem dL_law_669 : decode cL_law 669 = .ok (.bipush 32, 2) := by decide +kernel
theorem dL_law_671 : decode cL_law 671 = .ok (.lshl, 1) := by decide +kernel
theorem dL_law_672 : decode cL_law 672 = .ok (.aload_n 0, 1) := by decide +kernel
theorem dL_law_673 : decode cL_law 673 = .ok (.iload_n 3, 1) := by decide +kernel
theorem dL_law_674 : decode cL_law 674 = .ok (.iconst 2, 1) := by decide +kernel
theorem dL_law_675 : decode cL_law 675 = .ok (.iadd, 1) := by decide +kernel
theorem dL_law_676 : decode cL_law 676 = .ok (.iaload, 1) := by decide +kernel
theorem dL_law_677 : decode cL_law 677 = .ok (.i2l, 1) := by decide +kernel
theorem dL_law_678 : decode cL_law 678 = .ok (.ldc2_w 80, 3) := by decide +kernel
theorem dL_law_681 : decode cL_law 681 = .ok (.land, 1) := by decide +kernel
theorem dL_law_682 : decode cL_law 682 = .ok (.lor, 1) := by decide +kernel
theorem dL_law_683 : decode cL_law 683 = .ok (.invokevirtual 82, 3) := by decide +kernel
theorem dL_law_686 : decode cL_law 686 = .ok (.aload_n 2, 1) := by decide +kernel
theorem dL_law_687 : decode cL_law 687 = .ok (.aload_n 0, 1) := by decide +kernel
theorem dL_law_688 : decode cL_law 688 = .ok (.iload_n 3, 1) := by decide +kernel
theorem dL_law_689 : decode cL_law 689 = .ok (.iconst 1, 1) := by decide +kernel
theorem dL_law_690 : decode cL_law 690 = .ok (.iadd, 1) := by decide +kernel
theorem dL_law_691 : decode cL_law 691 = .ok (.iaload, 1) := by decide +kernel
theorem dL_law_692 : decode cL_law 692 = .ok (.i2l, 1) := by decide +kernel
theorem dL_law_693 : decode cL_law 693 = .ok (.bipush 32, 2) := by decide +kernel
theorem dL_law_695 : decode cL_law 695 = .ok (.lshl, 1) := by decide +kernel
theorem dL_law_696 : decode cL_law 696 = .ok (.aload_n 0, 1) := by decide +kernel
theorem dL_law_697 : decode cL_law 697 = .ok (.iload_n 3, 1) := by decide +kernel
theorem dL_law_698 : decode cL_law 698 = .ok (.iconst 2, 1) := by decide +kernel
theorem dL_law_699 : decode cL_law 699 = .ok (.iadd, 1) := by decide +kernel
theorem dL_law_700 : decode cL_law 700 = .ok (.iaload, 1) := by decide +kernel
theorem dL_law_701 : decode cL_law 701 = .ok (.i2l, 1) := by decide +kernel
theorem dL_law_702 : decode cL_law 702 = .ok (.ldc2_w 80, 3) := by decide +kernel
theorem dL_law_705 : decode cL_law 705 = .ok (.land, 1) := by decide +kernel
theorem dL_law_706 : decode cL_law 706 = .ok (.lor, 1) := by decide +kernel
theorem dL_law_707 : decode cL_law 707 = .ok (.invokevirtual 86, 3) := by decide +kernel
theorem dL_law_710 : decode cL_law 710 = .ok (.if_icmp .eq 103, 3) := by decide +kernel
theorem dL_law_713 : decode cL_law 713 = .ok (.iconst 0, 1) := by decide +kernel
theorem dL_law_714 : decode cL_law 714 = .ok (.ireturn, 1) := by decide +kernel
theorem dL_law_715 : decode cL_law 715 = .ok (.aload_n 1, 1) := by decide +kernel
theorem dL_law_716 : decode cL_law 716 = .ok (.invokevirtual 87, 3) := by decide +kernel
theorem dL_law_719 : decode cL_law 719 = .ok (.aload_n 2, 1) := by decide +kernel
theorem dL_law_720 : decode cL_law 720 = .ok (.invokevirtual 90, 3) := by decide +kernel
theorem dL_law_723 : decode cL_law 723 = .ok (.if_icmp .eq 90, 3) := by decide +kernel
theorem dL_law_726 : decode cL_law 726 = .ok (.iconst 0, 1) := by decide +kernel
theorem dL_law_727 : decode cL_law 727 = .ok (.ireturn, 1) := by decide +kernel
theorem dL_law_728 : decode cL_law 728 = .ok (.aload_n 1, 1) := by decide +kernel
theorem dL_law_729 : decode cL_law 729 = .ok (.invokevirtual 91, 3) := by decide +kernel
theorem dL_law_732 : decode cL_law 732 = .ok (.aload_n 2, 1) := by decide +kernel
theorem dL_law_733 : decode cL_law 733 = .ok (.invokevirtual 94, 3) := by decide +kernel
theorem dL_law_736 : decode cL_law 736 = .ok (.if_icmp .eq 77, 3) := by decide +kernel
theorem dL_law_739 : decode cL_law 739 = .ok (.iconst 0, 1) := by decide +kernel
theorem dL_law_740 : decode cL_law 740 = .ok (.ireturn, 1) := by decide +kernel
theorem dL_law_741 : decode cL_law 741 = .ok (.aload_n 1, 1) := by decide +kernel
theorem dL_law_742 : decode cL_law 742 = .ok (.invokevirtual 95, 3) := by decide +kernel
theorem dL_law_745 : decode cL_law 745 = .ok (.aload_n 2, 1) := by decide +kernel
theorem dL_law_746 : decode cL_law 746 = .ok (.invokevirtual 98, 3) := by decide +kernel
theorem dL_law_749 : decode cL_law 749 = .ok (.if_icmp .eq 64, 3) := by decide +kernel
theorem dL_law_752 : decode cL_law 752 = .ok (.iconst 0, 1) := by decide +kernel
theorem dL_law_753 : decode cL_law 753 = .ok (.ireturn, 1) := by decide +kernel
theorem dL_law_754 : decode cL_law 754 = .ok (.aload_n 1, 1) := by decide +kernel
theorem dL_law_755 : decode cL_law 755 = .ok (.invokevirtual 99, 3) := by decide +kernel
theorem dL_law_758 : decode cL_law 758 = .ok (.aload_n 2, 1) := by decide +kernel
theorem dL_law_759 : decode cL_law 759 = .ok (.invokevirtual 102, 3) := by decide +kernel
theorem dL_law_762 : decode cL_law 762 = .ok (.if_icmp .eq 51, 3) := by decide +kernel
theorem dL_law_765 : decode cL_law 765 = .ok (.iconst 0, 1) := by decide +kernel
theorem dL_law_766 : decode cL_law 766 = .ok (.ireturn, 1) := by decide +kernel
theorem dL_law_767 : decode cL_law 767 = .ok (.aload_n 1, 1) := by decide +kernel
theorem dL_law_768 : decode cL_law 768 = .ok (.aload_n 0, 1) := by decide +kernel
theorem dL_law_769 : decode cL_law 769 = .ok (.iload_n 3, 1) := by decide +kernel
theorem dL_law_770 : decode cL_law 770 = .ok (.iconst 1, 1) := by decide +kernel
theorem dL_law_771 : decode cL_law 771 = .ok (.iadd, 1) := by decide +kernel
theorem dL_law_772 : decode cL_law 772 = .ok (.iaload, 1) := by decide +kernel
theorem dL_law_773 : decode cL_law 773 = .ok (.invokevirtual 103, 3) := by decide +kernel
theorem dL_law_776 : decode cL_law 776 = .ok (.aload_n 2, 1) := by decide +kernel
theorem dL_law_777 : decode cL_law 777 = .ok (.aload_n 0, 1) := by decide +kernel
theorem dL_law_778 : decode cL_law 778 = .ok (.iload_n 3, 1) := by decide +kernel
theorem dL_law_779 : decode cL_law 779 = .ok (.iconst 1, 1) := by decide +kernel
theorem dL_law_780 : decode cL_law 780 = .ok (.iadd, 1) := by decide +kernel
theorem dL_law_781 : decode cL_law 781 = .ok (.iaload, 1) := by decide +kernel
theorem dL_law_782 : decode cL_law 782 = .ok (.invokevirtual 106, 3) := by decide +kernel
theorem dL_law_785 : decode cL_law 785 = .ok (.if_icmp .eq 28, 3) := by decide +kernel
theorem dL_law_788 : decode cL_law 788 = .ok (.iconst 0, 1) := by decide +kernel
theorem dL_law_789 : decode cL_law 789 = .ok (.ireturn, 1) := by decide +kernel
theorem dL_law_790 : decode cL_law 790 = .ok (.aload_n 1, 1) := by decide +kernel
theorem dL_law_791 : decode cL_law 791 = .ok (.aload_n 0, 1) := by decide +kernel
theorem dL_law_792 : decode cL_law 792 = .ok (.iload_n 3, 1) := by decide +kernel
theorem dL_law_793 : decode cL_law 793 = .ok (.iconst 1, 1) := by decide +kernel
theorem dL_law_794 : decode cL_law 794 = .ok (.iadd, 1) := by decide +kernel
theorem dL_law_795 : decode cL_law 795 = .ok (.iaload, 1) := by decide +kernel
theorem dL_law_796 : decode cL_law 796 = .ok (.invokevirtual 107, 3) := by decide +kernel
theorem dL_law_799 : decode cL_law 799 = .ok (.aload_n 2, 1) := by decide +kernel
theorem dL_law_800 : decode cL_law 800 = .ok (.aload_n 0, 1) := by decide +kernel
theorem dL_law_801 : decode cL_law 801 = .ok (.iload_n 3, 1) := by decide +kernel
theorem dL_law_802 : decode cL_law 802 = .ok (.iconst 1, 1) := by decide +kernel
theorem dL_law_803 : decode cL_law 803 = .ok (.iadd, 1) := by decide +kernel
theorem dL_law_804 : decode cL_law 804 = .ok (.iaload, 1) := by decide +kernel
theorem dL_law_805 : decode cL_law 805 = .ok (.invokevirtual 110, 3) := by decide +kernel
theorem dL_law_808 : decode cL_law 808 = .ok (.if_icmp .eq 5, 3) := by decide +kernel
theorem dL_law_811 : decode cL_law 811 = .ok (.iconst 0, 1) := by decide +kernel
theorem dL_law_812 : decode cL_law 812 = .ok (.ireturn, 1) := by decide +kernel
theorem dL_law_813 : decode cL_law 813 = .ok (.iinc 3 6, 3) := by decide +kernel
theorem dL_law_816 : decode cL_law 816 = .ok (.goto (-798), 3) := by decide +kernel
theorem dL_law_819 : decode cL_law 819 = .ok (.iconst 1, 1) := by decide +kernel
theorem dL_law_820 : decode cL_law 820 = .ok (.ireturn, 1) := by decide +kernel
end
section
/-! A WALK'S JUDGEMENT jJ: the machine stands at pc with locals lv, stack st, the memory M (by real addresses; the next one is n); everything that a walk of one method keeps stands in X -/
def wsL_law : List Cond := lw_tbl.filter goodWord
def jisN : Cond → Bool
  | .fieldLinkNest .. => true
  | .methodLinkNest .. => true
  | _ => false
def jNest : List Cond := tables_1.filter jisN
theorem kwm {w : Cond} (i : Nat) (h : tables_1[i]? = some w) (hg : goodWord w = true) : w ∈ wsL_law :=
  List.mem_filter.mpr ⟨List.mem_append_right _ (List.mem_of_getElem? h), hg⟩
theorem kws {w : Cond} (i : Nat) (h : (k2_sels lw_privs)[i]? = some w) (hg : goodWord w = true) : w ∈ wsL_law :=
  List.mem_filter.mpr ⟨List.mem_append_left _ (List.mem_of_getElem? h), hg⟩
theorem kwn {w : Cond} (i : Nat) (h : tables_1[i]? = some w) (hg : jisN w = true) : w ∈ jNest :=
  List.mem_filter.mpr ⟨List.mem_of_getElem? h, hg⟩
theorem jtG : GoodIn wsL_law wsL_law := fun _ h => ⟨h, good_of_word (List.mem_filter.mp h).2⟩
theorem jtGc {w : Cond} (hw : w ∈ wsL_law) : GoodIn wsL_law (w :: wsL_law) := fun v h => by
  rcases List.mem_cons.mp h with rfl | h
  · exact jtG _ hw
  · exact jtG _ h
-- numbers
def jI (z : Int) : Value := .int (Int32.ofInt z)
abbrev jRng (z : Int) : Prop := -2147483648 ≤ z ∧ z ≤ 2147483647
theorem jI_toInt {z : Int} (h : jRng z) : (Int32.ofInt z).toInt = z := Int32.toInt_ofInt_of_le (by have := h.1; omega) (by have := h.2; omega)
theorem jI_of (x : Int32) : Value.int x = jI x.toInt := by rw [jI, Int32.ofInt_toInt]
theorem jRng_of (x : Int32) : jRng x.toInt := ⟨Int32.le_toInt x, by have := Int32.toInt_lt x; omega⟩
theorem jI_inj {a b : Int} (ha : jRng a) (hb : jRng b) (h : jI a = jI b) : a = b := by
  have h1 : Int32.ofInt a = Int32.ofInt b := Value.int.inj h
  rw [← jI_toInt ha, ← jI_toInt hb, h1]
theorem jI_eq {a b : Int} (ha : jRng a) (hb : jRng b) : Int32.ofInt a = Int32.ofInt b ↔ a = b := ⟨fun h => by rw [← jI_toInt ha, ← jI_toInt hb, h], fun h => by rw [h]⟩
theorem jI_ne {a b : Int} (ha : jRng a) (hb : jRng b) : Int32.ofInt a ≠ Int32.ofInt b ↔ a ≠ b := not_congr (jI_eq ha hb)
theorem jI_lt {a b : Int} (ha : jRng a) (hb : jRng b) : Int32.ofInt a < Int32.ofInt b ↔ a < b := by rw [Int32.lt_iff_toInt_lt, jI_toInt ha, jI_toInt hb]
theorem jI_le {a b : Int} (ha : jRng a) (hb : jRng b) : Int32.ofInt a ≤ Int32.ofInt b ↔ a ≤ b := by rw [Int32.le_iff_toInt_le, jI_toInt ha, jI_toInt hb]
theorem jI_gt {a b : Int} (ha : jRng a) (hb : jRng b) : Int32.ofInt a > Int32.ofInt b ↔ a > b := jI_lt hb ha
theorem jI_ge {a b : Int} (ha : jRng a) (hb : jRng b) : Int32.ofInt a ≥ Int32.ofInt b ↔ a ≥ b := jI_le hb ha
theorem jR0 : jRng 0 := ⟨by decide, by decide⟩
theorem jI_eqq {a : Int} (ha : jRng a) : Int32.ofInt a = 0 ↔ a = 0 := jI_eq ha jR0
theorem jI_ne0 {b : Int} (h1 : 0 < b) (h2 : b ≤ 2147483647) : ¬ Int32.ofInt b = 0 := fun h => by
  have := (jI_eqq ⟨by omega, h2⟩).mp h
  omega
theorem jI_neq {a : Int} (ha : jRng a) : (¬ Int32.ofInt a = 0) ↔ a ≠ 0 := not_congr (jI_eqq ha)
theorem jI_ltq {a : Int} (ha : jRng a) : Int32.ofInt a < 0 ↔ a < 0 := jI_lt ha jR0
theorem jI_leq {a : Int} (ha : jRng a) : Int32.ofInt a ≤ 0 ↔ a ≤ 0 := jI_le ha jR0
theorem jI_gtq {a : Int} (ha : jRng a) : Int32.ofInt a > 0 ↔ a > 0 := jI_gt ha jR0
theorem jI_geq {a : Int} (ha : jRng a) : Int32.ofInt a ≥ 0 ↔ a ≥ 0 := jI_ge ha jR0
theorem jnI {a : Int} (h : 0 ≤ a) : Int32.ofInt a = nI a.toNat := by
  have h2 : (a.toNat : Int) = a := Int.toNat_of_nonneg h
  rw [nI, ← h2, Int.toNat_natCast]
  rfl
theorem jI_div {a b : Int} (ha : 0 ≤ a) (ha2 : a ≤ 2147483647) (hb : 0 < b) (hb2 : b ≤ 2147483647) : Int32.ofInt a / Int32.ofInt b = Int32.ofInt (a / b) := by
  have hd : 0 ≤ a / b := Int.ediv_nonneg ha (by omega)
  rw [jnI ha, jnI (by omega : 0 ≤ b), jnI hd, pk_div (by omega) (by omega) (by omega)]
  congr 1
  rw [← Int.natCast_inj, Int.natCast_ediv, Int.toNat_of_nonneg ha, Int.toNat_of_nonneg (by omega), Int.toNat_of_nonneg hd]
theorem jI_rem {a b : Int} (ha : 0 ≤ a) (ha2 : a ≤ 2147483647) (hb : 0 < b) (hb2 : b ≤ 2147483647) : Int32.ofInt a - Int32.ofInt a / Int32.ofInt b * Int32.ofInt b = Int32.ofInt (a % b) := by
  rw [jI_div ha ha2 hb hb2, ← Int32.ofInt_mul, ← Int32.ofInt_sub]
  congr 1
  have := Int.mul_ediv_add_emod a b
  have h2 : b * (a / b) = a / b * b := Int.mul_comm _ _
  omega
theorem jI_ix {i : Int} {len : Nat} (h0 : 0 ≤ i) (h1 : i < len) (hlen : Nat.ble len 2147483647 = true) : ¬ (Int32.ofInt i < 0 ∨ len ≤ (Int32.ofInt i).toNatClampNeg) ∧ (Int32.ofInt i).toNatClampNeg = i.toNat := by
  have hl := Nat.le_of_ble_eq_true hlen
  have e : (Int32.ofInt i).toNatClampNeg = i.toNat := by
    rw [jnI h0, nI_clamp (by omega)]
  refine ⟨fun h => ?_, e⟩
  rcases h with h | h
  · have := (jI_ltq ⟨by omega, by omega⟩).mp h
    omega
  · rw [e] at h
    omega
theorem jI_len (len : Nat) : len.toInt32 = Int32.ofInt len := rfl
theorem jI_i2c {x : Int} (h0 : 0 ≤ x) (h1 : x < 65536) : ((Int32.ofInt x).toUInt32 % 65536).toInt32 = Int32.ofInt x := by
  rw [jnI h0]
  have h := (pk_charN (q := x.toNat) (by omega)).1
  exact Value.int.inj h
theorem jI_narC {v : Int} (h0 : 0 ≤ v) (h1 : v < 65536) : narrow .char (.int (Int32.ofInt v)) = .int (Int32.ofInt v) := by
  rw [jnI h0]
  exact (pk_charN (q := v.toNat) (by omega)).1
theorem jI_fitC {v : Int} (h0 : 0 ≤ v) (h1 : v < 65536) : fits .char (.int (Int32.ofInt v)) = true := by
  rw [jnI h0]
  exact (pk_charN (q := v.toNat) (by omega)).2
theorem jI_narZ {v : Int} (h : v = 0 ∨ v = 1) : narrow .boolean (.int (Int32.ofInt v)) = .int (Int32.ofInt v) := by
  rcases h with rfl | rfl <;> decide
theorem jI_N0 {N : Nat} (h : N ≤ 100000) : ¬ Int32.ofInt (N : Int) < 0 := fun z => by
  have := (jI_ltq (a := (N : Int)) ⟨by omega, by omega⟩).mp z
  omega
theorem jI_N1 {N : Nat} (h : N ≤ 100000) : (Int32.ofInt (N : Int)).toNatClampNeg = N := by
  rw [jnI (by omega), nI_clamp (by omega)]
  omega
theorem jI_max {a b : Int} (ha : jRng a) (hb : jRng b) : jI (if a < b then b else a) = .int (if Int32.ofInt a < Int32.ofInt b then Int32.ofInt b else Int32.ofInt a) := by
  by_cases h : a < b
  · rw [if_pos h, if_pos ((jI_lt ha hb).mpr h), jI]
  · rw [if_neg h, if_neg (fun z => h ((jI_lt ha hb).mp z)), jI]
theorem jI_min {a b : Int} (ha : jRng a) (hb : jRng b) : jI (if b < a then b else a) = .int (if Int32.ofInt b < Int32.ofInt a then Int32.ofInt b else Int32.ofInt a) := by
  by_cases h : b < a
  · rw [if_pos h, if_pos ((jI_lt hb ha).mpr h), jI]
  · rw [if_neg h, if_neg (fun z => h ((jI_lt hb ha).mp z)), jI]
theorem jI_abs {a : Int} (ha : jRng a) : jI (if 0 ≤ a then a else -a) = .int (if 0 ≤ Int32.ofInt a then Int32.ofInt a else 0 - Int32.ofInt a) := by
  by_cases h : 0 ≤ a
  · rw [if_pos h, if_pos ((jI_geq ha).mpr h), jI]
  · rw [if_neg h, if_neg (fun z => h ((jI_geq ha).mp z)), jI, Int32.ofInt_neg, Int32.zero_sub]
-- the memory
abbrev jC : Type := (FieldType × Nat × (Nat → Value)) ⊕ (Nat × List Value)
abbrev jM : Type := Nat → Option jC
def jput (F : Nat → Value) (k : Nat) (v : Value) : Nat → Value := updV F k v
def jup (M : jM) (q : Nat) (e : jC) : jM := fun x => if x = q then some e else M x
def jst (M M2 : jM) (o : Nat) (e : jC) : Prop := M2 o = some e ∧ ∀ q : Nat, q ≠ o → M2 q = M q
theorem jst_up (M : jM) (o : Nat) (e : jC) : jst M (jup M o e) o e := ⟨by simp [jup], fun q hq => by simp [jup, hq]⟩
def jout (M M2 : jM) (b k : Nat) : Prop := ∀ q : Nat, (q < b ∨ b + k ≤ q) → M2 q = M q
theorem jout.rf (M : jM) (b k : Nat) : jout M M b k := fun _ _ => rfl
theorem jout.st {M M2 M3 : jM} {b k i : Nat} {e : jC} (h : jout M M2 b k) (hs : jst M2 M3 (b + i) e) (hi : i < k) : jout M M3 b k := fun q hq => (hs.2 q (by omega)).trans (h q hq)
theorem jout.tr {M M2 M3 : jM} {b k b2 k2 : Nat} (h : jout M M2 b k) (h2 : jout M2 M3 b2 k2) (hb : b ≤ b2) (hk : b2 + k2 ≤ b + k) : jout M M3 b k := fun q hq => (h2 q (by omega)).trans (h q hq)
theorem jout.wid {M M2 : jM} {b k b2 k2 : Nat} (h : jout M M2 b2 k2) (hb : b ≤ b2) (hk : b2 + k2 ≤ b + k) : jout M M2 b k := fun q hq => h q (by omega)
def jfup (f : Nat → Int) (i : Nat) (v : Int) : Nat → Int := fun k => if k = i then v else f k
theorem jfup_s (f : Nat → Int) (i : Nat) (v : Int) : jfup f i v i = v := by simp [jfup]
theorem jfup_n (f : Nat → Int) {i k : Nat} (v : Int) (h : k ≠ i) : jfup f i v k = f k := by simp [jfup, h]
theorem jfup_up (f : Nat → Int) (i : Nat) (v : Int) : updV (fun k => jI (f k)) i (jI v) = fun k => jI (jfup f i v k) := by
  funext k
  by_cases h : k = i <;> simp [updV, jfup, h]
theorem jrup_up (g : Nat → Option Nat) (i v : Nat) : updV (fun k => va_rf (g k)) i (.ref v) = fun k => va_rf (va_up g i (some v) k) := by
  funext k
  by_cases h : k = i
  · subst h
    simp [updV, va_up, va_rf]
  · simp [updV, va_up, h]
/-- a picture: the cells from b on -/
def jPic (M : jM) (b : Nat) (L : List jC) : Prop := ∀ (i : Nat) (e : jC), L[i]? = some e → M (b + i) = some e
theorem jPic.at {M : jM} {b : Nat} {L : List jC} (h : jPic M b L) (i : Nat) {e : jC} (he : L[i]? = some e) : M (b + i) = some e := h i e he
theorem jPic.put {M M2 : jM} {b : Nat} {L : List jC} {i : Nat} {e : jC} (h : jPic M b L) (hs : jst M M2 (b + i) e) (hi : Nat.blt i L.length = true) : jPic M2 b (L.set i e) := fun j x hx => by
  have hi : i < L.length := Nat.le_of_ble_eq_true hi
  by_cases hj : j = i
  · subst hj
    rw [List.getElem?_set_self hi] at hx
    cases hx
    exact hs.1
  · rw [List.getElem?_set_ne (Ne.symm hj)] at hx
    rw [hs.2 _ (by omega)]
    exact h j x hx
theorem jPic.other {M M2 : jM} {b o : Nat} {L : List jC} {e : jC} (h : jPic M b L) (hs : jst M M2 o e) (k : Nat) (hk : L.length = k) (hq : o < b ∨ b + k ≤ o) : jPic M2 b L := fun j x hx => by
  have hl := (List.getElem?_eq_some_iff.mp hx).1
  rw [hs.2 _ (by omega)]
  exact h j x hx
theorem jPic.keep {M M2 : jM} {b c k : Nat} {L : List jC} (h : jPic M b L) (ho : jout M M2 c k) (m : Nat) (hm : L.length = m) (hd : b + m ≤ c ∨ c + k ≤ b) : jPic M2 b L := fun j x hx => by
  have hl := (List.getElem?_eq_some_iff.mp hx).1
  rw [ho _ (by omega)]
  exact h j x hx
theorem jPic.snoc {M M2 : jM} {b : Nat} {L : List jC} {e : jC} (h : jPic M b L) (hs : jst M M2 (b + L.length) e) : jPic M2 b (L ++ [e]) := fun j x hx => by
  by_cases hl : j < L.length
  · rw [List.getElem?_append_left hl] at hx
    rw [hs.2 _ (by omega)]
    exact h j x hx
  · rw [List.getElem?_append_right (by omega)] at hx
    have hz : j - L.length < 1 := (List.getElem?_eq_some_iff.mp hx).1
    rw [show j - L.length = 0 by omega] at hx
    cases hx
    rw [show j = L.length by omega]
    exact hs.1
theorem jPic.one {M M2 : jM} {b : Nat} {e : jC} (hs : jst M M2 b e) : jPic M2 b [e] := fun j x hx => by
  have hz : j < 1 := (List.getElem?_eq_some_iff.mp hx).1
  rw [show j = 0 by omega] at hx ⊢
  cases hx
  exact hs.1
theorem jPic.sub {M : jM} {b : Nat} {L L2 : List jC} (h : jPic M b L) (i : Nat) (hs : ∀ j x, L2[j]? = some x → L[i + j]? = some x) : jPic M (b + i) L2 := fun j x hx => by
  rw [Nat.add_assoc]
  exact h _ _ (hs j x hx)
theorem jPic.app {M : jM} {b : Nat} {L L2 : List jC} (h : jPic M b L) (h2 : jPic M (b + L.length) L2) : jPic M b (L ++ L2) := fun j x hx => by
  by_cases hl : j < L.length
  · rw [List.getElem?_append_left hl] at hx
    exact h j x hx
  · rw [List.getElem?_append_right (by omega)] at hx
    have := h2 _ _ hx
    rwa [Nat.add_assoc, show L.length + (j - L.length) = j by omega] at this
/-- a method that only reads -/
abbrev jrd (n : Nat) (M : jM) (z : Int) : Option Value → Nat → jM → Prop := fun v n2 M2 => some (jI z) = v ∧ n = n2 ∧ M = M2
def jH1 (D : va_G) (U : State) (H : Heap) (q : Nat) (e : jC) : Prop := match e with
  | .inl x => ∃ cA : ClassId, ArrOfT U cA x.1 ∧ va_RA U cA x.1 ∧ H[q]? = some (arrV cA x.2.1 x.2.2)
  | .inr o => ∃ r : vw_C, vwCl[o.1]? = some r ∧ t_OB q (D.1 o.1) r.2.2 (D.2 o.1) H (vp_V o.2)
def jHold (D : va_G) (b0 : Nat) (U : State) (n : Nat) (M : jM) (H : Heap) : Prop := H.size = n ∧ ∀ (q : Nat) (e : jC), M q = some e → b0 ≤ q ∧ jH1 D U H q e
def jK (D : va_G) (U : State) : Prop := va_K D vwCl [] U ∧ va_AO "EqualHeights$State" U ∧ ∀ w ∈ jNest, va_Nw w U
theorem jH1.moved {D : va_G} {u U : State} {H : Heap} {q : Nat} {e : jC} (hvm : u.vm.Alike U.vm) (h : jH1 D u H q e) : jH1 D U H q e := by
  cases e with
  | inl x =>
    obtain ⟨cA, h1, h2, h3⟩ := h
    exact ⟨cA, arrOfT_moved hvm h1, h2.moved hvm, h3⟩
  | inr o => exact h
theorem jH1.kept {D : va_G} {U : State} {H H1 : Heap} {q : Nat} {e : jC} (h : jH1 D U H q e) (hq : H1[q]? = H[q]?) : jH1 D U H1 q e := by
  cases e with
  | inl x =>
    obtain ⟨cA, h1, h2, h3⟩ := h
    exact ⟨cA, h1, h2, hq.trans h3⟩
  | inr o =>
    obtain ⟨r, h1, h2⟩ := h
    exact ⟨r, h1, h2.kept hq⟩
theorem jH1.lt {D : va_G} {U : State} {H : Heap} {q : Nat} {e : jC} (h : jH1 D U H q e) : q < H.size := by
  cases e with
  | inl x =>
    obtain ⟨cA, h1, h2, h3⟩ := h
    exact (Array.getElem?_eq_some_iff.mp h3).1
  | inr o =>
    obtain ⟨r, h1, cell, h2, -⟩ := h
    exact (Array.getElem?_eq_some_iff.mp h2).1
theorem jHold.moved {D : va_G} {b0 n : Nat} {u U : State} {M : jM} {H : Heap} (h : jHold D b0 u n M H) (hvm : u.vm.Alike U.vm) : jHold D b0 U n M H := ⟨h.1, fun q e hq => ⟨(h.2 q e hq).1, (h.2 q e hq).2.moved hvm⟩⟩
theorem jHold.heap {D : va_G} {b0 n : Nat} {U : State} {M : jM} {H H1 : Heap} (h : jHold D b0 U n M H) (e : H1 = H) : jHold D b0 U n M H1 := e ▸ h
theorem jHold.obj {D : va_G} {b0 n : Nat} {U : State} {M : jM} {H : Heap} (h : jHold D b0 U n M H) {o ci : Nat} {fs : List Value} (hM : M o = some (.inr (ci, fs))) : va_P D vwCl [(o, .inr (ci, fs))] H := by
  intro k q hk
  have hz : k < 1 := (List.getElem?_eq_some_iff.mp hk).1
  rw [show k = 0 by omega] at hk
  cases hk
  exact (h.2 _ _ hM).2
theorem jHold.put {D : va_G} {b0 n o : Nat} {U : State} {M : jM} {H H1 : Heap} {e0 e : jC} (h : jHold D b0 U n M H) (hM : M o = some e0) (z : H1.size = H.size) (oq : ∀ q : Nat, q ≠ o → H1[q]? = H[q]?) (he : jH1 D U H1 o e) : jHold D b0 U n (jup M o e) H1 := by
  refine ⟨z.trans h.1, fun q x hq => ?_⟩
  unfold jup at hq
  by_cases hqo : q = o
  · rw [if_pos hqo] at hq
    cases hq
    subst hqo
    exact ⟨(h.2 _ _ hM).1, he⟩
  · rw [if_neg hqo] at hq
    exact ⟨(h.2 _ _ hq).1, (h.2 _ _ hq).2.kept (oq q hqo)⟩
theorem jHold.push {D : va_G} {b0 n : Nat} {U : State} {M : jM} {H H1 : Heap} {e : jC} (h : jHold D b0 U n M H) (z : H1.size = n + 1) (oq : ∀ q : Nat, q < n → H1[q]? = H[q]?) (hb : b0 ≤ n) (he : jH1 D U H1 n e) : jHold D b0 U (n + 1) (jup M n e) H1 := by
  refine ⟨z, fun q x hq => ?_⟩
  unfold jup at hq
  by_cases hqo : q = n
  · rw [if_pos hqo] at hq
    cases hq
    subst hqo
    exact ⟨hb, he⟩
  · rw [if_neg hqo] at hq
    have hlt := (h.2 _ _ hq).2.lt
    rw [h.1] at hlt
    exact ⟨(h.2 _ _ hq).1, (h.2 _ _ hq).2.kept (oq q hlt)⟩
theorem jNw_moved {w : Cond} (hw : jisN w = true) {s U : State} (hW : s.WarmedH U.vm) (h : va_Nw w s) : va_Nw w U := by
  cases w <;> first | exact va_Nw.warmF hW h | exact va_Nw.warmM hW h | (simp [jisN] at hw)
theorem jNw_same {w : Cond} (hw : jisN w = true) {s U : State} (e : s.vm = U.vm) (h : va_Nw w s) : va_Nw w U := by
  cases w <;> first | exact va_Nw.same rfl e h | (simp [jisN] at hw)
theorem jK.moved {D : va_G} {s U : State} (h : jK D s) (hW : s.WarmedH U.vm) : jK D U := ⟨va_K.moved hW.alike h.1, h.2.1.moved hW.alike, fun w hw => jNw_moved (List.mem_filter.mp hw).2 hW (h.2.2 w hw)⟩
theorem jK.call {D : va_G} {U : State} {g : JFrame} {mk : MethodId} {a : Array Value} (h : jK D U) : jK D (U.calling g mk a) := ⟨va_K.moved (u := U) (U := U.calling g mk a) (Vm.Alike.refl U.vm) h.1, h.2.1.moved (u := U) (U := U.calling g mk a) (Vm.Alike.refl U.vm), fun w hw => jNw_same (s := U) (U := U.calling g mk a) (List.mem_filter.mp hw).2 rfl (h.2.2 w hw)⟩
theorem jHold.call {D : va_G} {b0 n : Nat} {U : State} {M : jM} {g : JFrame} {mk : MethodId} {a : Array Value} (h : jHold D b0 U n M U.heap) : jHold D b0 (U.calling g mk a) n M (U.calling g mk a).heap := jHold.moved (u := U) (U := U.calling g mk a) h (Vm.Alike.refl U.vm)
-- the locals
def jL (ls : Array Slot) (nL : Nat) (lv : List (Option Value)) : Prop := ls.size = nL ∧ lv_wf ls ∧ lv.length = nL ∧ ∀ (i : Nat) (v : Value), lv[i]? = some (some v) → ls[i]? = some (.val v)
def jas : Nat → List (Option Value) → List (Nat × Value)
  | _, [] => []
  | k, none :: r => jas (k + 1) r
  | k, some v :: r => (k, v) :: jas (k + 1) r
theorem jas_mem : ∀ {lv : List (Option Value)} {k i : Nat} {v : Value}, (i, v) ∈ jas k lv ↔ ∃ j, i = k + j ∧ lv[j]? = some (some v)
  | [], k, i, v => by simp [jas]
  | none :: r, k, i, v => by
    simp only [jas]
    rw [jas_mem]
    constructor
    · rintro ⟨j, h1, h2⟩
      exact ⟨j + 1, by omega, by simpa using h2⟩
    · rintro ⟨j, h1, h2⟩
      cases j with
      | zero => simp at h2
      | succ j => exact ⟨j, by omega, by simpa using h2⟩
  | some w :: r, k, i, v => by
    simp only [jas, List.mem_cons, Prod.mk.injEq]
    rw [jas_mem]
    constructor
    · rintro (⟨h1, h2⟩ | ⟨j, h1, h2⟩)
      · exact ⟨0, by omega, by simp [h2]⟩
      · exact ⟨j + 1, by omega, by simpa using h2⟩
    · rintro ⟨j, h1, h2⟩
      cases j with
      | zero =>
        left
        simp at h2
        exact ⟨by omega, h2.symm⟩
      | succ j => exact Or.inr ⟨j, by omega, by simpa using h2⟩
theorem jL.has {ls : Array Slot} {nL : Nat} {lv : List (Option Value)} (h : jL ls nL lv) : lv_has ls nL (jas 0 lv) := ⟨h.1, h.2.1, fun q hq => by
  obtain ⟨j, h1, h2⟩ := jas_mem.mp (show (q.1, q.2) ∈ jas 0 lv from hq)
  rw [h1, Nat.zero_add]
  exact h.2.2.2 j q.2 h2⟩
def jcat (lv : List (Option Value)) : Nat → Bool
  | 0 => true
  | i + 1 => match lv[i]? with
    | some (some v) => v.category == 1
    | _ => true
theorem jcat_ne {lv : List (Option Value)} {j : Nat} {v : Value} (hc : jcat lv (j + 1) = true) (hv : lv[j]? = some (some v)) : ¬ v.category = 2 := by
  simp only [jcat, hv, beq_iff_eq] at hc
  omega
theorem jL.set1 {ls ls2 : Array Slot} {nL i : Nat} {lv : List (Option Value)} {x : Value} (h : jL ls nL lv) (hc : jcat lv i = true) (h2 : lv_has ls2 nL ((i, x) :: (jas 0 lv).filter (fun q => !(q.1 == i) && !(q.1 + 1 == i && q.2.category == 2)))) : jL ls2 nL (lv.set i (some x)) := by
  refine ⟨h2.1, h2.2.1, by rw [List.length_set]; exact h.2.2.1, fun j v hj => ?_⟩
  by_cases hji : j = i
  · subst hji
    have hlt : j < lv.length := by simpa using (List.getElem?_eq_some_iff.mp hj).1
    rw [List.getElem?_set_self hlt] at hj
    cases hj
    exact h2.2.2 (j, x) List.mem_cons_self
  · rw [List.getElem?_set_ne (Ne.symm hji)] at hj
    refine h2.2.2 (j, v) (List.mem_cons_of_mem _ (List.mem_filter.mpr ⟨jas_mem.mpr ⟨j, by omega, hj⟩, ?_⟩))
    by_cases hj1 : j + 1 = i
    · subst hj1
      have := jcat_ne hc hj
      simp [this]
    · simp [hji, hj1]
theorem jL.set2 {ls ls2 : Array Slot} {nL i : Nat} {lv : List (Option Value)} {x : Value} (h : jL ls nL lv) (hc : jcat lv i = true) (h2 : lv_has ls2 nL ((i, x) :: (jas 0 lv).filter (fun q => !(q.1 == i) && (!(q.1 == i + 1) && !(q.1 + 1 == i && q.2.category == 2))))) : jL ls2 nL ((lv.set i (some x)).set (i + 1) none) := by
  refine ⟨h2.1, h2.2.1, by rw [List.length_set, List.length_set]; exact h.2.2.1, fun j v hj => ?_⟩
  by_cases hj2 : j = i + 1
  · subst hj2
    have hlt : i + 1 < lv.length := by simpa using (List.getElem?_eq_some_iff.mp hj).1
    rw [List.getElem?_set_self (by rw [List.length_set]; exact hlt)] at hj
    cases hj
  · rw [List.getElem?_set_ne (Ne.symm hj2)] at hj
    by_cases hji : j = i
    · subst hji
      have hlt : j < lv.length := by simpa using (List.getElem?_eq_some_iff.mp hj).1
      rw [List.getElem?_set_self hlt] at hj
      cases hj
      exact h2.2.2 (j, x) List.mem_cons_self
    · rw [List.getElem?_set_ne (Ne.symm hji)] at hj
      refine h2.2.2 (j, v) (List.mem_cons_of_mem _ (List.mem_filter.mpr ⟨jas_mem.mpr ⟨j, by omega, hj⟩, ?_⟩))
      by_cases hj1 : j + 1 = i
      · subst hj1
        have := jcat_ne hc hj
        simp [this, hj2, hji]
      · simp [hji, hj1, hj2]
-- the judgement
abbrev jX : Type := Program × Launch × Env × Room × State × MethodId × Array Value × List Frame × Method × Code × (State → Prop) × va_G × Nat × Nat
def jJ (X : jX) (pc : Nat) (lv : List (Option Value)) (st : List Value) (n : Nat) (M : jM) (ce sl : Nat) : Prop := match X with
  | (p, l, e, R, s, m, args, below, meth, c, Q, D, b0, nL) => ∀ (H : Heap) (locs : List Loc) (ls : Array Slot), jHold D b0 s n M H → va_S (fun q => b0 ≤ q) s.heap H locs → jL ls nL lv → W p l e R s m args below meth c H locs ce sl Q (F0 m pc ls st)
def jB (X : jX) (cc : ByteArray) (own nm : String) (ret : Option FieldType) (rm : Room) : Prop := match X with
  | (p, _, _, R, s, m, args, _, meth, c, _, D, b0, nL) => p.tables.exec = Jvm.exec ∧ c.code = cc ∧ c.maxLocals = nL ∧ s.vm.findClass own = some m.cls ∧ (∀ w ∈ wsL_law, w.before args s = true) ∧ jK D s ∧ b0 ≤ s.heap.size ∧ R = rm ∧ meth.name = nm ∧ meth.sig.returnType = ret ∧ meth.locks = false
def jF (X : jX) (l9 : Launch) (D9 : va_G) (b9 : Nat) : Prop := match X with
  | (_, l, _, _, _, _, _, _, _, _, _, D, b0, _) => l9 = l ∧ D9 = D ∧ b9 = b0
def jQc (D : va_G) (b0 : Nat) (post : Option Value → Nat → jM → Prop) : Array Value → State → Outcome → State → Prop := fun _ st oc t => (∃ (v : Option Value) (n : Nat) (M : jM), oc = .returned v ∧ post v n M ∧ jHold D b0 t n M t.heap) ∧ va_F (fun q => b0 ≤ q) st t
def jR (X : jX) (post : Option Value → Nat → jM → Prop) (mc ms : Nat) : Prop := match X with
  | (_, _, _, _, s, _, args, below, _, _, Q, D, b0, _) => Q = MQ below (jQc D b0 post) args s mc ms (fun q => b0 ≤ q)
def jPc (D : va_G) (b0 : Nat) (av : List Value) (n : Nat) (M : jM) : Array Value → State → Prop := va_Pc av (fun U => jHold D b0 U n M U.heap ∧ jK D U ∧ b0 ≤ U.heap.size)
abbrev jrm (d mc ms : Nat) : Room := { frames := d, cells := mc, slots := ms, locals := 33 * d }
def jCtr (l : Launch) (D : va_G) (b0 : Nat) (y : MethodName) (cc : ByteArray) (nL : Nat) (ret : Option FieldType) (d mc ms : Nat) (av : List Value) (n : Nat) (M : jM) (post : Option Value → Nat → jM → Prop) : Prop :=
  Met l y (Cond.code y cc nL ret :: wsL_law) (jrm d mc ms) (jPc D b0 av n M) (jQc D b0 post) mc ms (fun q => b0 ≤ q)
def jflat (vs : List Value) : List (Option Value) := vs.flatMap fun v => if v.category = 2 then [some v, none] else [some v]
theorem jflat_sl : ∀ (vs : List Value), (jflat vs).length = (lg_sl vs).length ∧ ∀ (i : Nat) (v : Value), (jflat vs)[i]? = some (some v) → (lg_sl vs)[i]? = some (.val v)
  | [] => ⟨rfl, fun i v h => by simp [jflat] at h⟩
  | w :: r => by
    obtain ⟨h1, h2⟩ := jflat_sl r
    simp only [jflat, lg_sl, List.flatMap_cons] at h1 h2 ⊢
    by_cases hc : w.category = 2
    · simp only [hc, if_true]
      refine ⟨by simp [h1], fun i v h => ?_⟩
      match i, h with
      | 0, h => simpa using h
      | 1, h => simp at h
      | i + 2, h => simpa using h2 i v (by simpa using h)
    · simp only [hc, if_false]
      refine ⟨by simp [h1], fun i v h => ?_⟩
      match i, h with
      | 0, h => simpa using h
      | i + 1, h => simpa using h2 i v (by simpa using h)
theorem jL_entry (vs : List Value) {n : Nat} {lv : List (Option Value)} (h : (lg_sl vs).length ≤ n) (hlv : jflat vs ++ List.replicate (n - (jflat vs).length) none = lv) : jL ((lg_sl vs ++ List.replicate (n - (lg_sl vs).length) Slot.unset).toArray) n lv := by
  obtain ⟨h1, h2⟩ := jflat_sl vs
  have h3 := lv_entry vs h
  subst hlv
  refine ⟨h3.1, h3.2.1, by simp; omega, fun i v hi => ?_⟩
  by_cases hlt : i < (jflat vs).length
  · rw [List.getElem?_append_left hlt] at hi
    have := h2 i v hi
    rw [List.getElem?_toArray, List.getElem?_append_left (by omega)]
    exact this
  · rw [List.getElem?_append_right (by omega)] at hi
    simp [List.getElem?_replicate] at hi
/-- a contract, out of a walk -/
theorem jctr {l : Launch} {D : va_G} {b0 : Nat} {y : MethodName} {cc : ByteArray} {nL : Nat} {ret : Option FieldType} {d mc ms : Nat} {av : List Value} {n : Nat} {M : jM} {post : Option Value → Nat → jM → Prop} {lv : List (Option Value)} (own nm : String) (hown : y.cls = own) (hname : y.name = nm) (hy : plainName y.cls = true) (hlen : (lg_sl av).length ≤ nL) (hlv : jflat av ++ List.replicate (nL - (jflat av).length) none = lv)
    (body : ∀ X : jX, jB X cc own nm ret (jrm d mc ms) → jR X post mc ms → jF X l D b0 → jJ X 0 lv [] n M 0 0) : jCtr l D b0 y cc nL ret d mc ms av n M post := by
  subst hown; subst hname
  refine Met.ofW (cc := cc) (maxL := nL) (ret := ret) hy rfl ?_
  intro p e s m args below meth c s₁ B hml hv
  obtain ⟨rfl, hH, hK, hb0⟩ := hv
  have hts0 := atoms_spec (ws := Cond.code y cc nL ret :: wsL_law) B.pre
  have hbd := body (p, l, e, jrm d mc ms, s, m, av.toArray, below, meth, c, MQ below (jQc D b0 post) av.toArray s mc ms (fun q => b0 ≤ q), D, b0, nL)
    ⟨B.exec, B.bytes, hml, findClass_of_methodNamed B.named, fun w hw => hts0 w (List.mem_cons_of_mem _ hw), hK, hb0, rfl, (name_of_methodNamed B.named B.method).1, B.returns, B.notSynchronized⟩ rfl ⟨rfl, rfl, rfl⟩
  rw [lg_entry_eq]
  exact hbd s.heap [] _ hH va_S.rf (jL_entry av hlen hlv)
/-- fewer locals known -/
def jwk (lv lv2 : List (Option Value)) : Prop := lv.length = lv2.length ∧ ∀ (i : Nat) (v : Value), lv2[i]? = some (some v) → lv[i]? = some (some v)
theorem jwk_0 : jwk [] [] := ⟨rfl, fun _ _ h => h⟩
theorem jwk_n {a : Option Value} {r r2 : List (Option Value)} (h : jwk r r2) : jwk (a :: r) (none :: r2) := ⟨by simp [h.1], fun i v hv => by
  cases i with
  | zero => simp at hv
  | succ i => simpa using h.2 i v (by simpa using hv)⟩
theorem jwk_s {a b : Option Value} {r r2 : List (Option Value)} (e : a = b) (h : jwk r r2) : jwk (a :: r) (b :: r2) := ⟨by simp [h.1], fun i v hv => by
  subst e
  cases i with
  | zero => simpa using hv
  | succ i => simpa using h.2 i v (by simpa using hv)⟩
theorem jk_weak {X : jX} {pc n ce sl : Nat} {lv lv2 : List (Option Value)} {st : List Value} {M : jM} (hw : jwk lv lv2) (k : jJ X pc lv2 st n M ce sl) : jJ X pc lv st n M ce sl := by
  obtain ⟨p, l, e, R, s, m, args, below, meth, c, Q, D, b0, nL⟩ := X
  intro H locs ls hH hS hL
  exact k H locs ls hH hS ⟨hL.1, hL.2.1, hw.1 ▸ hL.2.2.1, fun i v hv => hL.2.2.2 i v (hw.2 i v hv)⟩
/-- the room counted anew -/
theorem jk_wid {X : jX} {pc n ce sl ce2 sl2 : Nat} {lv : List (Option Value)} {st : List Value} {M : jM} (h1 : ce ≤ ce2) (h2 : sl ≤ sl2) (k : jJ X pc lv st n M ce2 sl2) : jJ X pc lv st n M ce sl := by
  obtain ⟨p, l, e, R, s, m, args, below, meth, c, Q, D, b0, nL⟩ := X
  intro H locs ls hH hS hL
  exact W.widen h1 h2 (k H locs ls hH hS hL)
/-- a name for the number on top -/
theorem jk_name {X : jX} {pc n ce sl : Nat} {lv : List (Option Value)} {st : List Value} {M : jM} {z : Int} (k : ∀ y : Int, y = z → jJ X pc lv (jI y :: st) n M ce sl) : jJ X pc lv (jI z :: st) n M ce sl := k z rfl
theorem jrd_of {n : Nat} {M : jM} {a b : Int} (h : a = b) : jrd n M a (some (jI b)) n M := ⟨by rw [h], rfl, rfl⟩
section JRUN
variable {p : Program} {l : Launch} {e : Env} {R : Room} {s : State} {m : MethodId} {args : Array Value} {below : List Frame} {meth : Method} {c : Code} {H : Heap} {locs : List Loc} {cells slots : Nat} {Q : State → Prop}
/-- a call, whatever it answers -/
theorem jk_run {pc : Nat} {ls : Array Slot} {rest st0 : List Value} {a : Array Value} {mc ms b0 : Nat} {D : va_G} {post : Option Value → Nat → jM → Prop} (hr : va_Run p l e R s m args below meth c H locs cells slots mc ms (F0 m pc ls st0) rest (jQc D b0 post a) (fun q => b0 ≤ q)) (hS : va_S (fun q => b0 ≤ q) s.heap H locs)
    (kk : ∀ (v : Option Value) (n2 : Nat) (M2 : jM) (H1 : Heap) (locs1 : List Loc), post v n2 M2 → jHold D b0 s n2 M2 H1 → va_S (fun q => b0 ≤ q) s.heap H1 locs1 → W p l e R s m args below meth c H1 locs1 (cells + mc) (slots + ms) Q (F0 m (pc + 3) ls (v.toList ++ rest))) : W p l e R s m args below meth c H locs cells slots Q (F0 m pc ls st0) := by
  intro T hT X
  obtain ⟨v, st₀, t, T', L, h0, X', hL, e1, e2, ⟨⟨v2, n2, M2, hv, hp, hh⟩, hz, hk⟩, st⟩ := hr T hT X
  cases hv
  rw [h0] at hz hk
  have hal : s.vm.Alike t.vm := by rw [← e2]; exact X'.warmed.alike
  obtain ⟨t2, a1, b1⟩ := kk v n2 M2 T'.heap (locs ++ L) hp (by rw [e1]; exact hh.moved hal.symm)
    ⟨Nat.le_trans hS.1 (by rw [e1]; exact hz), fun q h1 h2 => by rw [e1, hk q (Nat.lt_of_lt_of_le h1 hS.1) h2]; exact hS.2.1 q h1 h2, fun q hq => by
      rcases List.mem_append.mp hq with h | h
      · exact hS.2.2 q h
      · exact hL q h⟩ T' rfl X'
  exact ⟨t2, st t2 a1, b1⟩
end JRUN
-- what the tables say of a place in the code
def jMS (y : MethodName) (cc : ByteArray) (nL : Nat) (ret : Option FieldType) (k : Nat) : Prop := Cond.static y ∈ wsL_law ∧ Cond.initialized y.cls ∈ wsL_law ∧ Cond.code y cc nL ret ∈ wsL_law ∧ y.cls ≠ "java/lang/invoke/MethodHandle" ∧ y.cls ≠ "java/lang/invoke/VarHandle" ∧ (parseMethodDescriptor y.desc).map (fun d => d.parameters.length) = some k
def jMV (y : MethodName) (cc : ByteArray) (nL : Nat) (ret : Option FieldType) (k ci : Nat) : Prop := Cond.instanceMethod y ∈ wsL_law ∧ Cond.selects y.cls y y ∈ wsL_law ∧ Cond.initialized y.cls ∈ wsL_law ∧ Cond.code y cc nL ret ∈ wsL_law ∧ y.cls ≠ "java/lang/invoke/MethodHandle" ∧ y.cls ≠ "java/lang/invoke/VarHandle" ∧ (parseMethodDescriptor y.desc).map (fun d => d.parameters.length) = some k ∧ ∃ r : vw_C, vwCl[ci]? = some r ∧ r.1 = y.cls
def jMI (y : MethodName) (cc : ByteArray) (nL k : Nat) : Prop := Cond.instanceMethod y ∈ wsL_law ∧ y.name = "<init>" ∧ Cond.initialized y.cls ∈ wsL_law ∧ Cond.code y cc nL none ∈ wsL_law ∧ y.cls ≠ "java/lang/invoke/MethodHandle" ∧ y.cls ≠ "java/lang/invoke/VarHandle" ∧ (parseMethodDescriptor y.desc).map (fun d => d.parameters.length) = some k
def jFG (own : String) (ix ci kf : Nat) : Prop := ∃ (C : String) (T : u_T) (N : Nat), vwCl[ci]? = some (C, T, N) ∧ (∀ w ∈ u_ws C T N, w ∈ wsL_law) ∧ Cond.fieldLink own ix (T kf).1 (T kf).2.1 (T kf).2.2.1 ∈ wsL_law ∧ kf < N
def jFGn (own : String) (ix ci kf : Nat) : Prop := ∃ (C : String) (T : u_T) (N : Nat) (host : String), vwCl[ci]? = some (C, T, N) ∧ (∀ w ∈ u_ws C T N, w ∈ wsL_law) ∧ Cond.fieldLinkNest own ix (T kf).1 (T kf).2.1 (T kf).2.2.1 host ∈ jNest ∧ kf < N
def jFP (own : String) (ix ci kf : Nat) (fin : Bool) (v : Value) : Prop := ∃ (C : String) (T : u_T) (N : Nat) (ty0 : Nat → FieldType) (ty : FieldType), vwCl[ci]? = some (C, T, N) ∧ (∀ w ∈ u_ws C T N, w ∈ wsL_law) ∧ Cond.fieldLink own ix (T kf).1 (T kf).2.1 (T kf).2.2.1 ∈ wsL_law ∧ kf < N ∧ (∀ k, k < N → parseFieldDescriptor (T k).2.2.1 = some (ty0 k)) ∧ (∀ a, a < N → ∀ b, b < N → a ≠ b → (T a).2.1 ≠ (T b).2.1) ∧ (T kf).2.2.2 = fin ∧ parseFieldDescriptor (T kf).2.2.1 = some ty ∧ narrow ty v = v ∧ fits ty v = true
def jFPn (own : String) (ix ci kf : Nat) (v : Value) : Prop := ∃ (C : String) (T : u_T) (N : Nat) (ty0 : Nat → FieldType) (ty : FieldType) (host : String), vwCl[ci]? = some (C, T, N) ∧ (∀ w ∈ u_ws C T N, w ∈ wsL_law) ∧ Cond.fieldLinkNest own ix (T kf).1 (T kf).2.1 (T kf).2.2.1 host ∈ jNest ∧ kf < N ∧ (∀ k, k < N → parseFieldDescriptor (T k).2.2.1 = some (ty0 k)) ∧ (∀ a, a < N → ∀ b, b < N → a ≠ b → (T a).2.1 ≠ (T b).2.1) ∧ (T kf).2.2.2 = false ∧ parseFieldDescriptor (T kf).2.2.1 = some ty ∧ narrow ty v = v ∧ fits ty v = true
def jdecl (ci kf : Nat) (own : String) : Prop := ∀ r : vw_C, vwCl[ci]? = some r → (r.2.1 kf).1 = own
def jFN (own : String) (ix ci : Nat) (fs : List Value) : Prop := ∃ (C : String) (T : u_T) (N : Nat) (ty0 : Nat → FieldType), vwCl[ci]? = some (C, T, N) ∧ (∀ w ∈ u_ws C T N, w ∈ wsL_law) ∧ (∀ k, k < N → parseFieldDescriptor (T k).2.2.1 = some (ty0 k)) ∧ Cond.classLink own ix C ∈ wsL_law ∧ Cond.instantiable C N ∈ wsL_law ∧ Cond.initialized C ∈ wsL_law ∧ fs.length = N ∧ ∀ j, j < N → defaultValue (ty0 j) = vp_V fs j
-- the rows
theorem jk_iconst {X : jX} {cc : ByteArray} {own nm : String} {ret : Option FieldType} {rm : Room} {pc q n ce sl : Nat} {lv : List (Option Value)} {st : List Value} {M : jM} (h : jB X cc own nm ret rm) {z : Int} (hd : decode cc pc = .ok (.iconst z, 1)) (hq : pc + 1 = q) (k : jJ X q lv (jI z :: st) n M ce sl) : jJ X pc lv (st) n M ce sl := by
  obtain ⟨p, l, e, R, s, m, args, below, meth, c, Q, D, b0, nL⟩ := X
  obtain ⟨hx, hb, hml, hown, hts, hK, hb0, hR, hnm, hr, hlk⟩ := h
  intro H locs ls hH hS hL
  subst hq
  exact lv_iconst hx hb hd rfl (k H locs ls hH hS hL)

theorem jk_bipush {X : jX} {cc : ByteArray} {own nm : String} {ret : Option FieldType} {rm : Room} {pc q n ce sl : Nat} {lv : List (Option Value)} {st : List Value} {M : jM} (h : jB X cc own nm ret rm) {z : Int} (hd : decode cc pc = .ok (.bipush z, 2)) (hz : (Int8.ofInt z).toInt32 = Int32.ofInt z) (hq : pc + 2 = q) (k : jJ X q lv (jI z :: st) n M ce sl) : jJ X pc lv (st) n M ce sl := by
  obtain ⟨p, l, e, R, s, m, args, below, meth, c, Q, D, b0, nL⟩ := X
  obtain ⟨hx, hb, hml, hown, hts, hK, hb0, hR, hnm, hr, hlk⟩ := h
  intro H locs ls hH hS hL
  subst hq
  exact lv_bipush hx hb hd hz (k H locs ls hH hS hL)

theorem jk_sipush {X : jX} {cc : ByteArray} {own nm : String} {ret : Option FieldType} {rm : Room} {pc q n ce sl : Nat} {lv : List (Option Value)} {st : List Value} {M : jM} (h : jB X cc own nm ret rm) {z : Int} (hd : decode cc pc = .ok (.sipush z, 3)) (hz : (Int16.ofInt z).toInt32 = Int32.ofInt z) (hq : pc + 3 = q) (k : jJ X q lv (jI z :: st) n M ce sl) : jJ X pc lv (st) n M ce sl := by
  obtain ⟨p, l, e, R, s, m, args, below, meth, c, Q, D, b0, nL⟩ := X
  obtain ⟨hx, hb, hml, hown, hts, hK, hb0, hR, hnm, hr, hlk⟩ := h
  intro H locs ls hH hS hL
  subst hq
  exact lv_sipush hx hb hd hz (k H locs ls hH hS hL)

theorem jk_lconst {X : jX} {cc : ByteArray} {own nm : String} {ret : Option FieldType} {rm : Room} {pc q n ce sl : Nat} {lv : List (Option Value)} {st : List Value} {M : jM} (h : jB X cc own nm ret rm) {z : Fin 2} (hd : decode cc pc = .ok (.lconst z, 1)) (hq : pc + 1 = q) (k : jJ X q lv (.long (Int64.ofNat (z : Nat)) :: st) n M ce sl) : jJ X pc lv (st) n M ce sl := by
  obtain ⟨p, l, e, R, s, m, args, below, meth, c, Q, D, b0, nL⟩ := X
  obtain ⟨hx, hb, hml, hown, hts, hK, hb0, hR, hnm, hr, hlk⟩ := h
  intro H locs ls hH hS hL
  subst hq
  exact lv_lconst hx hb hd rfl (k H locs ls hH hS hL)

theorem jk_ldc {X : jX} {cc : ByteArray} {own nm : String} {ret : Option FieldType} {rm : Room} {pc q n ce sl : Nat} {lv : List (Option Value)} {st : List Value} {M : jM} (h : jB X cc own nm ret rm) {ix : Nat} {z : Int} (hd : decode cc pc = .ok (.ldc ix, 2)) (hw : Cond.constant own ix (Int32.ofInt z) ∈ wsL_law) (hq : pc + 2 = q) (k : jJ X q lv (jI z :: st) n M ce sl) : jJ X pc lv (st) n M ce sl := by
  obtain ⟨p, l, e, R, s, m, args, below, meth, c, Q, D, b0, nL⟩ := X
  obtain ⟨hx, hb, hml, hown, hts, hK, hb0, hR, hnm, hr, hlk⟩ := h
  intro H locs ls hH hS hL
  subst hq
  exact lv_ldc hx hb hown (hts _ hw) hd (k H locs ls hH hS hL)

theorem jk_ldc2 {X : jX} {cc : ByteArray} {own nm : String} {ret : Option FieldType} {rm : Room} {pc q n ce sl : Nat} {lv : List (Option Value)} {st : List Value} {M : jM} (h : jB X cc own nm ret rm) {ix : Nat} {z : Int64} (hd : decode cc pc = .ok (.ldc2_w ix, 3)) (hw : Cond.constantLong own ix z ∈ wsL_law) (hq : pc + 3 = q) (k : jJ X q lv (.long z :: st) n M ce sl) : jJ X pc lv (st) n M ce sl := by
  obtain ⟨p, l, e, R, s, m, args, below, meth, c, Q, D, b0, nL⟩ := X
  obtain ⟨hx, hb, hml, hown, hts, hK, hb0, hR, hnm, hr, hlk⟩ := h
  intro H locs ls hH hS hL
  subst hq
  exact lv_ldc2 hx hb hown (hts _ hw) hd (k H locs ls hH hS hL)

theorem jk_ldc2d {X : jX} {cc : ByteArray} {own nm : String} {ret : Option FieldType} {rm : Room} {pc q n ce sl : Nat} {lv : List (Option Value)} {st : List Value} {M : jM} (h : jB X cc own nm ret rm) {ix : Nat} {z : UInt64} (hd : decode cc pc = .ok (.ldc2_w ix, 3)) (hw : Cond.constantDouble own ix z ∈ wsL_law) (hq : pc + 3 = q) (k : jJ X q lv (.double z :: st) n M ce sl) : jJ X pc lv (st) n M ce sl := by
  obtain ⟨p, l, e, R, s, m, args, below, meth, c, Q, D, b0, nL⟩ := X
  obtain ⟨hx, hb, hml, hown, hts, hK, hb0, hR, hnm, hr, hlk⟩ := h
  intro H locs ls hH hS hL
  subst hq
  exact lv_ldc2d hx hb hown (hts _ hw) hd (k H locs ls hH hS hL)

theorem jk_dconst0 {X : jX} {cc : ByteArray} {own nm : String} {ret : Option FieldType} {rm : Room} {pc q n ce sl : Nat} {lv : List (Option Value)} {st : List Value} {M : jM} (h : jB X cc own nm ret rm) (hd : decode cc pc = .ok (.dconst 0, 1)) (hq : pc + 1 = q) (k : jJ X q lv (.double 0 :: st) n M ce sl) : jJ X pc lv (st) n M ce sl := by
  obtain ⟨p, l, e, R, s, m, args, below, meth, c, Q, D, b0, nL⟩ := X
  obtain ⟨hx, hb, hml, hown, hts, hK, hb0, hR, hnm, hr, hlk⟩ := h
  intro H locs ls hH hS hL
  subst hq
  exact lv_dconst0 hx hb hd (k H locs ls hH hS hL)

theorem jk_dconst1 {X : jX} {cc : ByteArray} {own nm : String} {ret : Option FieldType} {rm : Room} {pc q n ce sl : Nat} {lv : List (Option Value)} {st : List Value} {M : jM} (h : jB X cc own nm ret rm) (hd : decode cc pc = .ok (.dconst 1, 1)) (hq : pc + 1 = q) (k : jJ X q lv (.double 0x3ff0000000000000 :: st) n M ce sl) : jJ X pc lv (st) n M ce sl := by
  obtain ⟨p, l, e, R, s, m, args, below, meth, c, Q, D, b0, nL⟩ := X
  obtain ⟨hx, hb, hml, hown, hts, hK, hb0, hR, hnm, hr, hlk⟩ := h
  intro H locs ls hH hS hL
  subst hq
  exact lv_dconst1 hx hb hd (k H locs ls hH hS hL)

theorem jk_iload_n {X : jX} {cc : ByteArray} {own nm : String} {ret : Option FieldType} {rm : Room} {pc q n ce sl : Nat} {lv : List (Option Value)} {st : List Value} {M : jM} (h : jB X cc own nm ret rm) {kk : Fin 4} {z : Int} (hd : decode cc pc = .ok (.iload_n kk, 1)) (hl : lv[(kk : Nat)]? = some (some (jI z))) (hq : pc + 1 = q) (k : jJ X q lv (jI z :: st) n M ce sl) : jJ X pc lv (st) n M ce sl := by
  obtain ⟨p, l, e, R, s, m, args, below, meth, c, Q, D, b0, nL⟩ := X
  obtain ⟨hx, hb, hml, hown, hts, hK, hb0, hR, hnm, hr, hlk⟩ := h
  intro H locs ls hH hS hL
  subst hq
  exact lv_iload_n hx hb hd rfl (hL.2.2.2 _ _ hl) (k H locs ls hH hS hL)

theorem jk_iload {X : jX} {cc : ByteArray} {own nm : String} {ret : Option FieldType} {rm : Room} {pc q n ce sl : Nat} {lv : List (Option Value)} {st : List Value} {M : jM} (h : jB X cc own nm ret rm) {i : Nat} {z : Int} (hd : decode cc pc = .ok (.iload i, 2)) (hl : lv[i]? = some (some (jI z))) (hq : pc + 2 = q) (k : jJ X q lv (jI z :: st) n M ce sl) : jJ X pc lv (st) n M ce sl := by
  obtain ⟨p, l, e, R, s, m, args, below, meth, c, Q, D, b0, nL⟩ := X
  obtain ⟨hx, hb, hml, hown, hts, hK, hb0, hR, hnm, hr, hlk⟩ := h
  intro H locs ls hH hS hL
  subst hq
  exact lv_iload hx hb hd (hL.2.2.2 _ _ hl) (k H locs ls hH hS hL)

theorem jk_aload_n {X : jX} {cc : ByteArray} {own nm : String} {ret : Option FieldType} {rm : Room} {pc q n ce sl : Nat} {lv : List (Option Value)} {st : List Value} {M : jM} (h : jB X cc own nm ret rm) {kk : Fin 4} {z : Nat} (hd : decode cc pc = .ok (.aload_n kk, 1)) (hl : lv[(kk : Nat)]? = some (some (.ref z))) (hq : pc + 1 = q) (k : jJ X q lv (.ref z :: st) n M ce sl) : jJ X pc lv (st) n M ce sl := by
  obtain ⟨p, l, e, R, s, m, args, below, meth, c, Q, D, b0, nL⟩ := X
  obtain ⟨hx, hb, hml, hown, hts, hK, hb0, hR, hnm, hr, hlk⟩ := h
  intro H locs ls hH hS hL
  subst hq
  exact lv_aload_n hx hb hd rfl (hL.2.2.2 _ _ hl) (k H locs ls hH hS hL)

theorem jk_aload {X : jX} {cc : ByteArray} {own nm : String} {ret : Option FieldType} {rm : Room} {pc q n ce sl : Nat} {lv : List (Option Value)} {st : List Value} {M : jM} (h : jB X cc own nm ret rm) {i : Nat} {z : Nat} (hd : decode cc pc = .ok (.aload i, 2)) (hl : lv[i]? = some (some (.ref z))) (hq : pc + 2 = q) (k : jJ X q lv (.ref z :: st) n M ce sl) : jJ X pc lv (st) n M ce sl := by
  obtain ⟨p, l, e, R, s, m, args, below, meth, c, Q, D, b0, nL⟩ := X
  obtain ⟨hx, hb, hml, hown, hts, hK, hb0, hR, hnm, hr, hlk⟩ := h
  intro H locs ls hH hS hL
  subst hq
  exact lv_aload hx hb hd (hL.2.2.2 _ _ hl) (k H locs ls hH hS hL)

theorem jk_lload_n {X : jX} {cc : ByteArray} {own nm : String} {ret : Option FieldType} {rm : Room} {pc q n ce sl : Nat} {lv : List (Option Value)} {st : List Value} {M : jM} (h : jB X cc own nm ret rm) {kk : Fin 4} {z : Int64} (hd : decode cc pc = .ok (.lload_n kk, 1)) (hl : lv[(kk : Nat)]? = some (some (.long z))) (hq : pc + 1 = q) (k : jJ X q lv (.long z :: st) n M ce sl) : jJ X pc lv (st) n M ce sl := by
  obtain ⟨p, l, e, R, s, m, args, below, meth, c, Q, D, b0, nL⟩ := X
  obtain ⟨hx, hb, hml, hown, hts, hK, hb0, hR, hnm, hr, hlk⟩ := h
  intro H locs ls hH hS hL
  subst hq
  exact lv_lload_n hx hb hd rfl (hL.2.2.2 _ _ hl) (k H locs ls hH hS hL)

theorem jk_lload {X : jX} {cc : ByteArray} {own nm : String} {ret : Option FieldType} {rm : Room} {pc q n ce sl : Nat} {lv : List (Option Value)} {st : List Value} {M : jM} (h : jB X cc own nm ret rm) {i : Nat} {z : Int64} (hd : decode cc pc = .ok (.lload i, 2)) (hl : lv[i]? = some (some (.long z))) (hq : pc + 2 = q) (k : jJ X q lv (.long z :: st) n M ce sl) : jJ X pc lv (st) n M ce sl := by
  obtain ⟨p, l, e, R, s, m, args, below, meth, c, Q, D, b0, nL⟩ := X
  obtain ⟨hx, hb, hml, hown, hts, hK, hb0, hR, hnm, hr, hlk⟩ := h
  intro H locs ls hH hS hL
  subst hq
  exact lv_lload hx hb hd (hL.2.2.2 _ _ hl) (k H locs ls hH hS hL)

theorem jk_fload_n {X : jX} {cc : ByteArray} {own nm : String} {ret : Option FieldType} {rm : Room} {pc q n ce sl : Nat} {lv : List (Option Value)} {st : List Value} {M : jM} (h : jB X cc own nm ret rm) {kk : Fin 4} {z : UInt32} (hd : decode cc pc = .ok (.fload_n kk, 1)) (hl : lv[(kk : Nat)]? = some (some (.float z))) (hq : pc + 1 = q) (k : jJ X q lv (.float z :: st) n M ce sl) : jJ X pc lv (st) n M ce sl := by
  obtain ⟨p, l, e, R, s, m, args, below, meth, c, Q, D, b0, nL⟩ := X
  obtain ⟨hx, hb, hml, hown, hts, hK, hb0, hR, hnm, hr, hlk⟩ := h
  intro H locs ls hH hS hL
  subst hq
  exact lv_fload_n hx hb hd rfl (hL.2.2.2 _ _ hl) (k H locs ls hH hS hL)

theorem jk_fload {X : jX} {cc : ByteArray} {own nm : String} {ret : Option FieldType} {rm : Room} {pc q n ce sl : Nat} {lv : List (Option Value)} {st : List Value} {M : jM} (h : jB X cc own nm ret rm) {i : Nat} {z : UInt32} (hd : decode cc pc = .ok (.fload i, 2)) (hl : lv[i]? = some (some (.float z))) (hq : pc + 2 = q) (k : jJ X q lv (.float z :: st) n M ce sl) : jJ X pc lv (st) n M ce sl := by
  obtain ⟨p, l, e, R, s, m, args, below, meth, c, Q, D, b0, nL⟩ := X
  obtain ⟨hx, hb, hml, hown, hts, hK, hb0, hR, hnm, hr, hlk⟩ := h
  intro H locs ls hH hS hL
  subst hq
  exact lv_fload hx hb hd (hL.2.2.2 _ _ hl) (k H locs ls hH hS hL)

theorem jk_dload_n {X : jX} {cc : ByteArray} {own nm : String} {ret : Option FieldType} {rm : Room} {pc q n ce sl : Nat} {lv : List (Option Value)} {st : List Value} {M : jM} (h : jB X cc own nm ret rm) {kk : Fin 4} {z : UInt64} (hd : decode cc pc = .ok (.dload_n kk, 1)) (hl : lv[(kk : Nat)]? = some (some (.double z))) (hq : pc + 1 = q) (k : jJ X q lv (.double z :: st) n M ce sl) : jJ X pc lv (st) n M ce sl := by
  obtain ⟨p, l, e, R, s, m, args, below, meth, c, Q, D, b0, nL⟩ := X
  obtain ⟨hx, hb, hml, hown, hts, hK, hb0, hR, hnm, hr, hlk⟩ := h
  intro H locs ls hH hS hL
  subst hq
  exact lv_dload_n hx hb hd rfl (hL.2.2.2 _ _ hl) (k H locs ls hH hS hL)

theorem jk_dload {X : jX} {cc : ByteArray} {own nm : String} {ret : Option FieldType} {rm : Room} {pc q n ce sl : Nat} {lv : List (Option Value)} {st : List Value} {M : jM} (h : jB X cc own nm ret rm) {i : Nat} {z : UInt64} (hd : decode cc pc = .ok (.dload i, 2)) (hl : lv[i]? = some (some (.double z))) (hq : pc + 2 = q) (k : jJ X q lv (.double z :: st) n M ce sl) : jJ X pc lv (st) n M ce sl := by
  obtain ⟨p, l, e, R, s, m, args, below, meth, c, Q, D, b0, nL⟩ := X
  obtain ⟨hx, hb, hml, hown, hts, hK, hb0, hR, hnm, hr, hlk⟩ := h
  intro H locs ls hH hS hL
  subst hq
  exact lv_dload hx hb hd (hL.2.2.2 _ _ hl) (k H locs ls hH hS hL)

theorem jk_aload_nN {X : jX} {cc : ByteArray} {own nm : String} {ret : Option FieldType} {rm : Room} {pc q n ce sl : Nat} {lv : List (Option Value)} {st : List Value} {M : jM} (h : jB X cc own nm ret rm) {kk : Fin 4} (hd : decode cc pc = .ok (.aload_n kk, 1)) (hl : lv[(kk : Nat)]? = some (some .null)) (hq : pc + 1 = q) (k : jJ X q lv (.null :: st) n M ce sl) : jJ X pc lv (st) n M ce sl := by
  obtain ⟨p, l, e, R, s, m, args, below, meth, c, Q, D, b0, nL⟩ := X
  obtain ⟨hx, hb, hml, hown, hts, hK, hb0, hR, hnm, hr, hlk⟩ := h
  intro H locs ls hH hS hL
  subst hq
  exact lv_aload_nN hx hb hd rfl (hL.2.2.2 _ _ hl) (k H locs ls hH hS hL)

theorem jk_istore_n {X : jX} {cc : ByteArray} {own nm : String} {ret : Option FieldType} {rm : Room} {pc q n ce sl : Nat} {lv : List (Option Value)} {st : List Value} {M : jM} (h : jB X cc own nm ret rm) {kk : Fin 4} {z : Int} {lv2 : List (Option Value)} (hd : decode cc pc = .ok (.istore_n kk, 1)) (hc : jcat lv (kk : Nat) = true) (hi : (kk : Nat) < lv.length) (h2 : lv.set (kk : Nat) (some (jI z)) = lv2) (hq : pc + 1 = q) (k : jJ X q lv2 (st) n M ce sl) : jJ X pc lv (jI z :: st) n M ce sl := by
  obtain ⟨p, l, e, R, s, m, args, below, meth, c, Q, D, b0, nL⟩ := X
  obtain ⟨hx, hb, hml, hown, hts, hK, hb0, hR, hnm, hr, hlk⟩ := h
  intro H locs ls hH hS hL
  subst hq; subst h2
  exact lv_istore_n (lv := jas 0 lv) hx hb hd rfl hL.has (by rw [← hL.2.2.1]; exact hi) rfl (fun ls2 h2 => k H locs ls2 hH hS (hL.set1 hc h2))

theorem jk_istore {X : jX} {cc : ByteArray} {own nm : String} {ret : Option FieldType} {rm : Room} {pc q n ce sl : Nat} {lv : List (Option Value)} {st : List Value} {M : jM} (h : jB X cc own nm ret rm) {i : Nat} {z : Int} {lv2 : List (Option Value)} (hd : decode cc pc = .ok (.istore i, 2)) (hc : jcat lv i = true) (hi : i < lv.length) (h2 : lv.set i (some (jI z)) = lv2) (hq : pc + 2 = q) (k : jJ X q lv2 (st) n M ce sl) : jJ X pc lv (jI z :: st) n M ce sl := by
  obtain ⟨p, l, e, R, s, m, args, below, meth, c, Q, D, b0, nL⟩ := X
  obtain ⟨hx, hb, hml, hown, hts, hK, hb0, hR, hnm, hr, hlk⟩ := h
  intro H locs ls hH hS hL
  subst hq; subst h2
  exact lv_istore (lv := jas 0 lv) hx hb hd hL.has (by rw [← hL.2.2.1]; exact hi) rfl (fun ls2 h2 => k H locs ls2 hH hS (hL.set1 hc h2))

theorem jk_astore_n {X : jX} {cc : ByteArray} {own nm : String} {ret : Option FieldType} {rm : Room} {pc q n ce sl : Nat} {lv : List (Option Value)} {st : List Value} {M : jM} (h : jB X cc own nm ret rm) {kk : Fin 4} {z : Nat} {lv2 : List (Option Value)} (hd : decode cc pc = .ok (.astore_n kk, 1)) (hc : jcat lv (kk : Nat) = true) (hi : (kk : Nat) < lv.length) (h2 : lv.set (kk : Nat) (some (.ref z)) = lv2) (hq : pc + 1 = q) (k : jJ X q lv2 (st) n M ce sl) : jJ X pc lv (.ref z :: st) n M ce sl := by
  obtain ⟨p, l, e, R, s, m, args, below, meth, c, Q, D, b0, nL⟩ := X
  obtain ⟨hx, hb, hml, hown, hts, hK, hb0, hR, hnm, hr, hlk⟩ := h
  intro H locs ls hH hS hL
  subst hq; subst h2
  exact lv_astore_n (lv := jas 0 lv) hx hb hd rfl hL.has (by rw [← hL.2.2.1]; exact hi) rfl (fun ls2 h2 => k H locs ls2 hH hS (hL.set1 hc h2))

theorem jk_astore {X : jX} {cc : ByteArray} {own nm : String} {ret : Option FieldType} {rm : Room} {pc q n ce sl : Nat} {lv : List (Option Value)} {st : List Value} {M : jM} (h : jB X cc own nm ret rm) {i : Nat} {z : Nat} {lv2 : List (Option Value)} (hd : decode cc pc = .ok (.astore i, 2)) (hc : jcat lv i = true) (hi : i < lv.length) (h2 : lv.set i (some (.ref z)) = lv2) (hq : pc + 2 = q) (k : jJ X q lv2 (st) n M ce sl) : jJ X pc lv (.ref z :: st) n M ce sl := by
  obtain ⟨p, l, e, R, s, m, args, below, meth, c, Q, D, b0, nL⟩ := X
  obtain ⟨hx, hb, hml, hown, hts, hK, hb0, hR, hnm, hr, hlk⟩ := h
  intro H locs ls hH hS hL
  subst hq; subst h2
  exact lv_astore (lv := jas 0 lv) hx hb hd hL.has (by rw [← hL.2.2.1]; exact hi) rfl (fun ls2 h2 => k H locs ls2 hH hS (hL.set1 hc h2))

theorem jk_lstore_n {X : jX} {cc : ByteArray} {own nm : String} {ret : Option FieldType} {rm : Room} {pc q n ce sl : Nat} {lv : List (Option Value)} {st : List Value} {M : jM} (h : jB X cc own nm ret rm) {kk : Fin 4} {z : Int64} {lv2 : List (Option Value)} (hd : decode cc pc = .ok (.lstore_n kk, 1)) (hc : jcat lv (kk : Nat) = true) (hi : (kk : Nat) + 1 < lv.length) (h2 : (lv.set (kk : Nat) (some (.long z))).set ((kk : Nat) + 1) none = lv2) (hq : pc + 1 = q) (k : jJ X q lv2 (st) n M ce sl) : jJ X pc lv (.long z :: st) n M ce sl := by
  obtain ⟨p, l, e, R, s, m, args, below, meth, c, Q, D, b0, nL⟩ := X
  obtain ⟨hx, hb, hml, hown, hts, hK, hb0, hR, hnm, hr, hlk⟩ := h
  intro H locs ls hH hS hL
  subst hq; subst h2
  exact lv_lstore_n (lv := jas 0 lv) hx hb hd rfl hL.has (by rw [← hL.2.2.1]; exact hi) rfl (fun ls2 h2 => k H locs ls2 hH hS (hL.set2 hc h2))

theorem jk_lstore {X : jX} {cc : ByteArray} {own nm : String} {ret : Option FieldType} {rm : Room} {pc q n ce sl : Nat} {lv : List (Option Value)} {st : List Value} {M : jM} (h : jB X cc own nm ret rm) {i : Nat} {z : Int64} {lv2 : List (Option Value)} (hd : decode cc pc = .ok (.lstore i, 2)) (hc : jcat lv i = true) (hi : i + 1 < lv.length) (h2 : (lv.set i (some (.long z))).set (i + 1) none = lv2) (hq : pc + 2 = q) (k : jJ X q lv2 (st) n M ce sl) : jJ X pc lv (.long z :: st) n M ce sl := by
  obtain ⟨p, l, e, R, s, m, args, below, meth, c, Q, D, b0, nL⟩ := X
  obtain ⟨hx, hb, hml, hown, hts, hK, hb0, hR, hnm, hr, hlk⟩ := h
  intro H locs ls hH hS hL
  subst hq; subst h2
  exact lv_lstore (lv := jas 0 lv) hx hb hd hL.has (by rw [← hL.2.2.1]; exact hi) rfl (fun ls2 h2 => k H locs ls2 hH hS (hL.set2 hc h2))

theorem jk_dstore_n {X : jX} {cc : ByteArray} {own nm : String} {ret : Option FieldType} {rm : Room} {pc q n ce sl : Nat} {lv : List (Option Value)} {st : List Value} {M : jM} (h : jB X cc own nm ret rm) {kk : Fin 4} {z : UInt64} {lv2 : List (Option Value)} (hd : decode cc pc = .ok (.dstore_n kk, 1)) (hc : jcat lv (kk : Nat) = true) (hi : (kk : Nat) + 1 < lv.length) (h2 : (lv.set (kk : Nat) (some (.double z))).set ((kk : Nat) + 1) none = lv2) (hq : pc + 1 = q) (k : jJ X q lv2 (st) n M ce sl) : jJ X pc lv (.double z :: st) n M ce sl := by
  obtain ⟨p, l, e, R, s, m, args, below, meth, c, Q, D, b0, nL⟩ := X
  obtain ⟨hx, hb, hml, hown, hts, hK, hb0, hR, hnm, hr, hlk⟩ := h
  intro H locs ls hH hS hL
  subst hq; subst h2
  exact lv_dstore_n (lv := jas 0 lv) hx hb hd rfl hL.has (by rw [← hL.2.2.1]; exact hi) rfl (fun ls2 h2 => k H locs ls2 hH hS (hL.set2 hc h2))

theorem jk_dstore {X : jX} {cc : ByteArray} {own nm : String} {ret : Option FieldType} {rm : Room} {pc q n ce sl : Nat} {lv : List (Option Value)} {st : List Value} {M : jM} (h : jB X cc own nm ret rm) {i : Nat} {z : UInt64} {lv2 : List (Option Value)} (hd : decode cc pc = .ok (.dstore i, 2)) (hc : jcat lv i = true) (hi : i + 1 < lv.length) (h2 : (lv.set i (some (.double z))).set (i + 1) none = lv2) (hq : pc + 2 = q) (k : jJ X q lv2 (st) n M ce sl) : jJ X pc lv (.double z :: st) n M ce sl := by
  obtain ⟨p, l, e, R, s, m, args, below, meth, c, Q, D, b0, nL⟩ := X
  obtain ⟨hx, hb, hml, hown, hts, hK, hb0, hR, hnm, hr, hlk⟩ := h
  intro H locs ls hH hS hL
  subst hq; subst h2
  exact lv_dstore (lv := jas 0 lv) hx hb hd hL.has (by rw [← hL.2.2.1]; exact hi) rfl (fun ls2 h2 => k H locs ls2 hH hS (hL.set2 hc h2))

theorem jk_fstore_n {X : jX} {cc : ByteArray} {own nm : String} {ret : Option FieldType} {rm : Room} {pc q n ce sl : Nat} {lv : List (Option Value)} {st : List Value} {M : jM} (h : jB X cc own nm ret rm) {kk : Fin 4} {z : UInt32} {lv2 : List (Option Value)} (hd : decode cc pc = .ok (.fstore_n kk, 1)) (hc : jcat lv (kk : Nat) = true) (hi : (kk : Nat) < lv.length) (h2 : lv.set (kk : Nat) (some (.float z)) = lv2) (hq : pc + 1 = q) (k : jJ X q lv2 (st) n M ce sl) : jJ X pc lv (.float z :: st) n M ce sl := by
  obtain ⟨p, l, e, R, s, m, args, below, meth, c, Q, D, b0, nL⟩ := X
  obtain ⟨hx, hb, hml, hown, hts, hK, hb0, hR, hnm, hr, hlk⟩ := h
  intro H locs ls hH hS hL
  subst hq; subst h2
  exact lv_fstore_n (lv := jas 0 lv) hx hb hd rfl hL.has (by rw [← hL.2.2.1]; exact hi) rfl (fun ls2 h2 => k H locs ls2 hH hS (hL.set1 hc h2))

theorem jk_fstore {X : jX} {cc : ByteArray} {own nm : String} {ret : Option FieldType} {rm : Room} {pc q n ce sl : Nat} {lv : List (Option Value)} {st : List Value} {M : jM} (h : jB X cc own nm ret rm) {i : Nat} {z : UInt32} {lv2 : List (Option Value)} (hd : decode cc pc = .ok (.fstore i, 2)) (hc : jcat lv i = true) (hi : i < lv.length) (h2 : lv.set i (some (.float z)) = lv2) (hq : pc + 2 = q) (k : jJ X q lv2 (st) n M ce sl) : jJ X pc lv (.float z :: st) n M ce sl := by
  obtain ⟨p, l, e, R, s, m, args, below, meth, c, Q, D, b0, nL⟩ := X
  obtain ⟨hx, hb, hml, hown, hts, hK, hb0, hR, hnm, hr, hlk⟩ := h
  intro H locs ls hH hS hL
  subst hq; subst h2
  exact lv_fstore (lv := jas 0 lv) hx hb hd hL.has (by rw [← hL.2.2.1]; exact hi) rfl (fun ls2 h2 => k H locs ls2 hH hS (hL.set1 hc h2))

theorem jk_iinc {X : jX} {cc : ByteArray} {own nm : String} {ret : Option FieldType} {rm : Room} {pc q n ce sl : Nat} {lv : List (Option Value)} {st : List Value} {M : jM} (h : jB X cc own nm ret rm) {i : Nat} {d z : Int} {lv2 : List (Option Value)} (hd : decode cc pc = .ok (.iinc i d, 3)) (hl : lv[i]? = some (some (jI z))) (hc : jcat lv i = true) (h2 : lv.set i (some (jI (z + d))) = lv2) (hq : pc + 3 = q) (k : jJ X q lv2 (st) n M ce sl) : jJ X pc lv (st) n M ce sl := by
  obtain ⟨p, l, e, R, s, m, args, below, meth, c, Q, D, b0, nL⟩ := X
  obtain ⟨hx, hb, hml, hown, hts, hK, hb0, hR, hnm, hr, hlk⟩ := h
  intro H locs ls hH hS hL
  subst hq; subst h2
  obtain ⟨kk, hk⟩ := List.getElem?_of_mem ((jas_mem (k := 0) (i := i) (v := jI z)).mpr ⟨i, (Nat.zero_add i).symm, hl⟩)
  exact lv_iinc (lv := jas 0 lv) hx hb hd hL.has hk (v := Int32.ofInt (z + d)) (by rw [Int32.ofInt_add]) (by rw [← hL.2.2.1]; exact (List.getElem?_eq_some_iff.mp hl).1) rfl (fun ls2 h2 => k H locs ls2 hH hS (hL.set1 hc h2))

theorem jk_iadd {X : jX} {cc : ByteArray} {own nm : String} {ret : Option FieldType} {rm : Room} {pc q n ce sl : Nat} {lv : List (Option Value)} {st : List Value} {M : jM} (h : jB X cc own nm ret rm) {a b : Int} (hd : decode cc pc = .ok (.iadd, 1)) (hq : pc + 1 = q) (k : jJ X q lv (jI (a + b) :: st) n M ce sl) : jJ X pc lv (jI b :: jI a :: st) n M ce sl := by
  obtain ⟨p, l, e, R, s, m, args, below, meth, c, Q, D, b0, nL⟩ := X
  obtain ⟨hx, hb, hml, hown, hts, hK, hb0, hR, hnm, hr, hlk⟩ := h
  intro H locs ls hH hS hL
  subst hq
  refine lv_iadd hx hb hd ?_
  have k := k H locs ls hH hS hL
  rwa [jI, Int32.ofInt_add] at k

theorem jk_isub {X : jX} {cc : ByteArray} {own nm : String} {ret : Option FieldType} {rm : Room} {pc q n ce sl : Nat} {lv : List (Option Value)} {st : List Value} {M : jM} (h : jB X cc own nm ret rm) {a b : Int} (hd : decode cc pc = .ok (.isub, 1)) (hq : pc + 1 = q) (k : jJ X q lv (jI (a - b) :: st) n M ce sl) : jJ X pc lv (jI b :: jI a :: st) n M ce sl := by
  obtain ⟨p, l, e, R, s, m, args, below, meth, c, Q, D, b0, nL⟩ := X
  obtain ⟨hx, hb, hml, hown, hts, hK, hb0, hR, hnm, hr, hlk⟩ := h
  intro H locs ls hH hS hL
  subst hq
  refine lv_isub hx hb hd ?_
  have k := k H locs ls hH hS hL
  rwa [jI, Int32.ofInt_sub] at k

theorem jk_imul {X : jX} {cc : ByteArray} {own nm : String} {ret : Option FieldType} {rm : Room} {pc q n ce sl : Nat} {lv : List (Option Value)} {st : List Value} {M : jM} (h : jB X cc own nm ret rm) {a b : Int} (hd : decode cc pc = .ok (.imul, 1)) (hq : pc + 1 = q) (k : jJ X q lv (jI (a * b) :: st) n M ce sl) : jJ X pc lv (jI b :: jI a :: st) n M ce sl := by
  obtain ⟨p, l, e, R, s, m, args, below, meth, c, Q, D, b0, nL⟩ := X
  obtain ⟨hx, hb, hml, hown, hts, hK, hb0, hR, hnm, hr, hlk⟩ := h
  intro H locs ls hH hS hL
  subst hq
  refine lv_imul hx hb hd ?_
  have k := k H locs ls hH hS hL
  rwa [jI, Int32.ofInt_mul] at k

theorem jk_ineg {X : jX} {cc : ByteArray} {own nm : String} {ret : Option FieldType} {rm : Room} {pc q n ce sl : Nat} {lv : List (Option Value)} {st : List Value} {M : jM} (h : jB X cc own nm ret rm) {a : Int} (hd : decode cc pc = .ok (.ineg, 1)) (hq : pc + 1 = q) (k : jJ X q lv (jI (-a) :: st) n M ce sl) : jJ X pc lv (jI a :: st) n M ce sl := by
  obtain ⟨p, l, e, R, s, m, args, below, meth, c, Q, D, b0, nL⟩ := X
  obtain ⟨hx, hb, hml, hown, hts, hK, hb0, hR, hnm, hr, hlk⟩ := h
  intro H locs ls hH hS hL
  subst hq
  refine lv_ineg hx hb hd ?_
  have k := k H locs ls hH hS hL
  rwa [jI, Int32.ofInt_neg] at k

theorem jk_idiv {X : jX} {cc : ByteArray} {own nm : String} {ret : Option FieldType} {rm : Room} {pc q n ce sl : Nat} {lv : List (Option Value)} {st : List Value} {M : jM} (h : jB X cc own nm ret rm) {a b : Int} (hd : decode cc pc = .ok (.idiv, 1)) (ha : 0 ≤ a) (ha2 : a ≤ 2147483647) (hb1 : 0 < b) (hb2 : b ≤ 2147483647) (hq : pc + 1 = q) (k : jJ X q lv (jI (a / b) :: st) n M ce sl) : jJ X pc lv (jI b :: jI a :: st) n M ce sl := by
  obtain ⟨p, l, e, R, s, m, args, below, meth, c, Q, D, b0, nL⟩ := X
  obtain ⟨hx, hb, hml, hown, hts, hK, hb0, hR, hnm, hr, hlk⟩ := h
  intro H locs ls hH hS hL
  subst hq
  refine lv_idiv hx hb hd (jI_ne0 hb1 hb2) ?_
  have k := k H locs ls hH hS hL
  rwa [jI, ← jI_div ha ha2 hb1 hb2] at k

theorem jk_irem {X : jX} {cc : ByteArray} {own nm : String} {ret : Option FieldType} {rm : Room} {pc q n ce sl : Nat} {lv : List (Option Value)} {st : List Value} {M : jM} (h : jB X cc own nm ret rm) {a b : Int} (hd : decode cc pc = .ok (.irem, 1)) (ha : 0 ≤ a) (ha2 : a ≤ 2147483647) (hb1 : 0 < b) (hb2 : b ≤ 2147483647) (hq : pc + 1 = q) (k : jJ X q lv (jI (a % b) :: st) n M ce sl) : jJ X pc lv (jI b :: jI a :: st) n M ce sl := by
  obtain ⟨p, l, e, R, s, m, args, below, meth, c, Q, D, b0, nL⟩ := X
  obtain ⟨hx, hb, hml, hown, hts, hK, hb0, hR, hnm, hr, hlk⟩ := h
  intro H locs ls hH hS hL
  subst hq
  refine lv_irem hx hb hd (jI_ne0 hb1 hb2) ?_
  have k := k H locs ls hH hS hL
  rwa [jI, ← jI_rem ha ha2 hb1 hb2] at k

theorem jk_if_eq {X : jX} {cc : ByteArray} {own nm : String} {ret : Option FieldType} {rm : Room} {pc q n ce sl : Nat} {lv : List (Option Value)} {st : List Value} {M : jM} (h : jB X cc own nm ret rm) {a : Int} {off : Int} {tgt : Nat} (hd : decode cc pc = .ok (.ifCond .eq off, 3)) (ht : (pc : Int) + off = (tgt : Int)) (hq : pc + 3 = q) (ha : jRng a) (k1 : a = 0 → jJ X tgt lv st n M ce sl) (k2 : ¬ (a = 0) → jJ X q lv st n M ce sl) : jJ X pc lv (jI a :: st) n M ce sl := by
  obtain ⟨p, l, e, R, s, m, args, below, meth, c, Q, D, b0, nL⟩ := X
  obtain ⟨hx, hb, hml, hown, hts, hK, hb0, hR, hnm, hr, hlk⟩ := h
  intro H locs ls hH hS hL
  subst hq
  refine lv_if_eq hx hb hd ht (fun hc => ?_) (fun hc => ?_)
  · exact k1 ((jI_eqq ha).mp hc) H locs ls hH hS hL
  · exact k2 (fun hz => hc ((jI_eqq ha).mpr hz)) H locs ls hH hS hL

theorem jk_icmp_eq {X : jX} {cc : ByteArray} {own nm : String} {ret : Option FieldType} {rm : Room} {pc q n ce sl : Nat} {lv : List (Option Value)} {st : List Value} {M : jM} (h : jB X cc own nm ret rm) {a b : Int} {off : Int} {tgt : Nat} (hd : decode cc pc = .ok (.if_icmp .eq off, 3)) (ht : (pc : Int) + off = (tgt : Int)) (hq : pc + 3 = q) (ha : jRng a) (hb2 : jRng b) (k1 : a = b → jJ X tgt lv st n M ce sl) (k2 : ¬ (a = b) → jJ X q lv st n M ce sl) : jJ X pc lv (jI b :: jI a :: st) n M ce sl := by
  obtain ⟨p, l, e, R, s, m, args, below, meth, c, Q, D, b0, nL⟩ := X
  obtain ⟨hx, hb, hml, hown, hts, hK, hb0, hR, hnm, hr, hlk⟩ := h
  intro H locs ls hH hS hL
  subst hq
  refine lv_icmp_eq hx hb hd ht (fun hc => ?_) (fun hc => ?_)
  · exact k1 ((jI_eq ha hb2).mp hc) H locs ls hH hS hL
  · exact k2 (fun hz => hc ((jI_eq ha hb2).mpr hz)) H locs ls hH hS hL

theorem jk_if_ne {X : jX} {cc : ByteArray} {own nm : String} {ret : Option FieldType} {rm : Room} {pc q n ce sl : Nat} {lv : List (Option Value)} {st : List Value} {M : jM} (h : jB X cc own nm ret rm) {a : Int} {off : Int} {tgt : Nat} (hd : decode cc pc = .ok (.ifCond .ne off, 3)) (ht : (pc : Int) + off = (tgt : Int)) (hq : pc + 3 = q) (ha : jRng a) (k1 : a ≠ 0 → jJ X tgt lv st n M ce sl) (k2 : ¬ (a ≠ 0) → jJ X q lv st n M ce sl) : jJ X pc lv (jI a :: st) n M ce sl := by
  obtain ⟨p, l, e, R, s, m, args, below, meth, c, Q, D, b0, nL⟩ := X
  obtain ⟨hx, hb, hml, hown, hts, hK, hb0, hR, hnm, hr, hlk⟩ := h
  intro H locs ls hH hS hL
  subst hq
  refine lv_if_ne hx hb hd ht (fun hc => ?_) (fun hc => ?_)
  · exact k1 ((jI_neq ha).mp hc) H locs ls hH hS hL
  · exact k2 ((fun hz => hz ((jI_eqq ha).mp hc))) H locs ls hH hS hL

theorem jk_icmp_ne {X : jX} {cc : ByteArray} {own nm : String} {ret : Option FieldType} {rm : Room} {pc q n ce sl : Nat} {lv : List (Option Value)} {st : List Value} {M : jM} (h : jB X cc own nm ret rm) {a b : Int} {off : Int} {tgt : Nat} (hd : decode cc pc = .ok (.if_icmp .ne off, 3)) (ht : (pc : Int) + off = (tgt : Int)) (hq : pc + 3 = q) (ha : jRng a) (hb2 : jRng b) (k1 : a ≠ b → jJ X tgt lv st n M ce sl) (k2 : ¬ (a ≠ b) → jJ X q lv st n M ce sl) : jJ X pc lv (jI b :: jI a :: st) n M ce sl := by
  obtain ⟨p, l, e, R, s, m, args, below, meth, c, Q, D, b0, nL⟩ := X
  obtain ⟨hx, hb, hml, hown, hts, hK, hb0, hR, hnm, hr, hlk⟩ := h
  intro H locs ls hH hS hL
  subst hq
  refine lv_icmp_ne hx hb hd ht (fun hc => ?_) (fun hc => ?_)
  · exact k1 ((jI_ne ha hb2).mp hc) H locs ls hH hS hL
  · exact k2 ((fun hz => hz ((jI_eq ha hb2).mp hc))) H locs ls hH hS hL

theorem jk_if_lt {X : jX} {cc : ByteArray} {own nm : String} {ret : Option FieldType} {rm : Room} {pc q n ce sl : Nat} {lv : List (Option Value)} {st : List Value} {M : jM} (h : jB X cc own nm ret rm) {a : Int} {off : Int} {tgt : Nat} (hd : decode cc pc = .ok (.ifCond .lt off, 3)) (ht : (pc : Int) + off = (tgt : Int)) (hq : pc + 3 = q) (ha : jRng a) (k1 : a < 0 → jJ X tgt lv st n M ce sl) (k2 : ¬ (a < 0) → jJ X q lv st n M ce sl) : jJ X pc lv (jI a :: st) n M ce sl := by
  obtain ⟨p, l, e, R, s, m, args, below, meth, c, Q, D, b0, nL⟩ := X
  obtain ⟨hx, hb, hml, hown, hts, hK, hb0, hR, hnm, hr, hlk⟩ := h
  intro H locs ls hH hS hL
  subst hq
  refine lv_if_lt hx hb hd ht (fun hc => ?_) (fun hc => ?_)
  · exact k1 ((jI_ltq ha).mp hc) H locs ls hH hS hL
  · exact k2 (fun hz => hc ((jI_ltq ha).mpr hz)) H locs ls hH hS hL

theorem jk_icmp_lt {X : jX} {cc : ByteArray} {own nm : String} {ret : Option FieldType} {rm : Room} {pc q n ce sl : Nat} {lv : List (Option Value)} {st : List Value} {M : jM} (h : jB X cc own nm ret rm) {a b : Int} {off : Int} {tgt : Nat} (hd : decode cc pc = .ok (.if_icmp .lt off, 3)) (ht : (pc : Int) + off = (tgt : Int)) (hq : pc + 3 = q) (ha : jRng a) (hb2 : jRng b) (k1 : a < b → jJ X tgt lv st n M ce sl) (k2 : ¬ (a < b) → jJ X q lv st n M ce sl) : jJ X pc lv (jI b :: jI a :: st) n M ce sl := by
  obtain ⟨p, l, e, R, s, m, args, below, meth, c, Q, D, b0, nL⟩ := X
  obtain ⟨hx, hb, hml, hown, hts, hK, hb0, hR, hnm, hr, hlk⟩ := h
  intro H locs ls hH hS hL
  subst hq
  refine lv_icmp_lt hx hb hd ht (fun hc => ?_) (fun hc => ?_)
  · exact k1 ((jI_lt ha hb2).mp hc) H locs ls hH hS hL
  · exact k2 (fun hz => hc ((jI_lt ha hb2).mpr hz)) H locs ls hH hS hL

theorem jk_if_ge {X : jX} {cc : ByteArray} {own nm : String} {ret : Option FieldType} {rm : Room} {pc q n ce sl : Nat} {lv : List (Option Value)} {st : List Value} {M : jM} (h : jB X cc own nm ret rm) {a : Int} {off : Int} {tgt : Nat} (hd : decode cc pc = .ok (.ifCond .ge off, 3)) (ht : (pc : Int) + off = (tgt : Int)) (hq : pc + 3 = q) (ha : jRng a) (k1 : a ≥ 0 → jJ X tgt lv st n M ce sl) (k2 : ¬ (a ≥ 0) → jJ X q lv st n M ce sl) : jJ X pc lv (jI a :: st) n M ce sl := by
  obtain ⟨p, l, e, R, s, m, args, below, meth, c, Q, D, b0, nL⟩ := X
  obtain ⟨hx, hb, hml, hown, hts, hK, hb0, hR, hnm, hr, hlk⟩ := h
  intro H locs ls hH hS hL
  subst hq
  refine lv_if_ge hx hb hd ht (fun hc => ?_) (fun hc => ?_)
  · exact k1 ((jI_geq ha).mp hc) H locs ls hH hS hL
  · exact k2 (fun hz => hc ((jI_geq ha).mpr hz)) H locs ls hH hS hL

theorem jk_icmp_ge {X : jX} {cc : ByteArray} {own nm : String} {ret : Option FieldType} {rm : Room} {pc q n ce sl : Nat} {lv : List (Option Value)} {st : List Value} {M : jM} (h : jB X cc own nm ret rm) {a b : Int} {off : Int} {tgt : Nat} (hd : decode cc pc = .ok (.if_icmp .ge off, 3)) (ht : (pc : Int) + off = (tgt : Int)) (hq : pc + 3 = q) (ha : jRng a) (hb2 : jRng b) (k1 : a ≥ b → jJ X tgt lv st n M ce sl) (k2 : ¬ (a ≥ b) → jJ X q lv st n M ce sl) : jJ X pc lv (jI b :: jI a :: st) n M ce sl := by
  obtain ⟨p, l, e, R, s, m, args, below, meth, c, Q, D, b0, nL⟩ := X
  obtain ⟨hx, hb, hml, hown, hts, hK, hb0, hR, hnm, hr, hlk⟩ := h
  intro H locs ls hH hS hL
  subst hq
  refine lv_icmp_ge hx hb hd ht (fun hc => ?_) (fun hc => ?_)
  · exact k1 ((jI_ge ha hb2).mp hc) H locs ls hH hS hL
  · exact k2 (fun hz => hc ((jI_ge ha hb2).mpr hz)) H locs ls hH hS hL

theorem jk_if_gt {X : jX} {cc : ByteArray} {own nm : String} {ret : Option FieldType} {rm : Room} {pc q n ce sl : Nat} {lv : List (Option Value)} {st : List Value} {M : jM} (h : jB X cc own nm ret rm) {a : Int} {off : Int} {tgt : Nat} (hd : decode cc pc = .ok (.ifCond .gt off, 3)) (ht : (pc : Int) + off = (tgt : Int)) (hq : pc + 3 = q) (ha : jRng a) (k1 : a > 0 → jJ X tgt lv st n M ce sl) (k2 : ¬ (a > 0) → jJ X q lv st n M ce sl) : jJ X pc lv (jI a :: st) n M ce sl := by
  obtain ⟨p, l, e, R, s, m, args, below, meth, c, Q, D, b0, nL⟩ := X
  obtain ⟨hx, hb, hml, hown, hts, hK, hb0, hR, hnm, hr, hlk⟩ := h
  intro H locs ls hH hS hL
  subst hq
  refine lv_if_gt hx hb hd ht (fun hc => ?_) (fun hc => ?_)
  · exact k1 ((jI_gtq ha).mp hc) H locs ls hH hS hL
  · exact k2 (fun hz => hc ((jI_gtq ha).mpr hz)) H locs ls hH hS hL

theorem jk_icmp_gt {X : jX} {cc : ByteArray} {own nm : String} {ret : Option FieldType} {rm : Room} {pc q n ce sl : Nat} {lv : List (Option Value)} {st : List Value} {M : jM} (h : jB X cc own nm ret rm) {a b : Int} {off : Int} {tgt : Nat} (hd : decode cc pc = .ok (.if_icmp .gt off, 3)) (ht : (pc : Int) + off = (tgt : Int)) (hq : pc + 3 = q) (ha : jRng a) (hb2 : jRng b) (k1 : a > b → jJ X tgt lv st n M ce sl) (k2 : ¬ (a > b) → jJ X q lv st n M ce sl) : jJ X pc lv (jI b :: jI a :: st) n M ce sl := by
  obtain ⟨p, l, e, R, s, m, args, below, meth, c, Q, D, b0, nL⟩ := X
  obtain ⟨hx, hb, hml, hown, hts, hK, hb0, hR, hnm, hr, hlk⟩ := h
  intro H locs ls hH hS hL
  subst hq
  refine lv_icmp_gt hx hb hd ht (fun hc => ?_) (fun hc => ?_)
  · exact k1 ((jI_gt ha hb2).mp hc) H locs ls hH hS hL
  · exact k2 (fun hz => hc ((jI_gt ha hb2).mpr hz)) H locs ls hH hS hL

theorem jk_if_le {X : jX} {cc : ByteArray} {own nm : String} {ret : Option FieldType} {rm : Room} {pc q n ce sl : Nat} {lv : List (Option Value)} {st : List Value} {M : jM} (h : jB X cc own nm ret rm) {a : Int} {off : Int} {tgt : Nat} (hd : decode cc pc = .ok (.ifCond .le off, 3)) (ht : (pc : Int) + off = (tgt : Int)) (hq : pc + 3 = q) (ha : jRng a) (k1 : a ≤ 0 → jJ X tgt lv st n M ce sl) (k2 : ¬ (a ≤ 0) → jJ X q lv st n M ce sl) : jJ X pc lv (jI a :: st) n M ce sl := by
  obtain ⟨p, l, e, R, s, m, args, below, meth, c, Q, D, b0, nL⟩ := X
  obtain ⟨hx, hb, hml, hown, hts, hK, hb0, hR, hnm, hr, hlk⟩ := h
  intro H locs ls hH hS hL
  subst hq
  refine lv_if_le hx hb hd ht (fun hc => ?_) (fun hc => ?_)
  · exact k1 ((jI_leq ha).mp hc) H locs ls hH hS hL
  · exact k2 (fun hz => hc ((jI_leq ha).mpr hz)) H locs ls hH hS hL

theorem jk_icmp_le {X : jX} {cc : ByteArray} {own nm : String} {ret : Option FieldType} {rm : Room} {pc q n ce sl : Nat} {lv : List (Option Value)} {st : List Value} {M : jM} (h : jB X cc own nm ret rm) {a b : Int} {off : Int} {tgt : Nat} (hd : decode cc pc = .ok (.if_icmp .le off, 3)) (ht : (pc : Int) + off = (tgt : Int)) (hq : pc + 3 = q) (ha : jRng a) (hb2 : jRng b) (k1 : a ≤ b → jJ X tgt lv st n M ce sl) (k2 : ¬ (a ≤ b) → jJ X q lv st n M ce sl) : jJ X pc lv (jI b :: jI a :: st) n M ce sl := by
  obtain ⟨p, l, e, R, s, m, args, below, meth, c, Q, D, b0, nL⟩ := X
  obtain ⟨hx, hb, hml, hown, hts, hK, hb0, hR, hnm, hr, hlk⟩ := h
  intro H locs ls hH hS hL
  subst hq
  refine lv_icmp_le hx hb hd ht (fun hc => ?_) (fun hc => ?_)
  · exact k1 ((jI_le ha hb2).mp hc) H locs ls hH hS hL
  · exact k2 (fun hz => hc ((jI_le ha hb2).mpr hz)) H locs ls hH hS hL

theorem jk_goto {X : jX} {cc : ByteArray} {own nm : String} {ret : Option FieldType} {rm : Room} {pc q n ce sl : Nat} {lv : List (Option Value)} {st : List Value} {M : jM} (h : jB X cc own nm ret rm) {off : Int} {tgt : Nat} (hd : decode cc pc = .ok (.goto off, 3)) (ht : (pc : Int) + off = (tgt : Int)) (k : jJ X tgt lv st n M ce sl) : jJ X pc lv (st) n M ce sl := by
  obtain ⟨p, l, e, R, s, m, args, below, meth, c, Q, D, b0, nL⟩ := X
  obtain ⟨hx, hb, hml, hown, hts, hK, hb0, hR, hnm, hr, hlk⟩ := h
  intro H locs ls hH hS hL
  exact lv_goto hx hb hd ht (k H locs ls hH hS hL)

theorem jk_nonnull {X : jX} {cc : ByteArray} {own nm : String} {ret : Option FieldType} {rm : Room} {pc q n ce sl : Nat} {lv : List (Option Value)} {st : List Value} {M : jM} (h : jB X cc own nm ret rm) {a : Nat} {off : Int} {tgt : Nat} (hd : decode cc pc = .ok (.ifnonnull off, 3)) (ht : (pc : Int) + off = (tgt : Int)) (k : jJ X tgt lv st n M ce sl) : jJ X pc lv (.ref a :: st) n M ce sl := by
  obtain ⟨p, l, e, R, s, m, args, below, meth, c, Q, D, b0, nL⟩ := X
  obtain ⟨hx, hb, hml, hown, hts, hK, hb0, hR, hnm, hr, hlk⟩ := h
  intro H locs ls hH hS hL
  exact lv_ifnonnull hx hb hd ht (k H locs ls hH hS hL)

theorem jk_nonnullN {X : jX} {cc : ByteArray} {own nm : String} {ret : Option FieldType} {rm : Room} {pc q n ce sl : Nat} {lv : List (Option Value)} {st : List Value} {M : jM} (h : jB X cc own nm ret rm) {off : Int} (hd : decode cc pc = .ok (.ifnonnull off, 3)) (hq : pc + 3 = q) (k : jJ X q lv (st) n M ce sl) : jJ X pc lv (.null :: st) n M ce sl := by
  obtain ⟨p, l, e, R, s, m, args, below, meth, c, Q, D, b0, nL⟩ := X
  obtain ⟨hx, hb, hml, hown, hts, hK, hb0, hR, hnm, hr, hlk⟩ := h
  intro H locs ls hH hS hL
  subst hq
  exact lv_ifnonnullN hx hb hd (k H locs ls hH hS hL)

theorem jk_null {X : jX} {cc : ByteArray} {own nm : String} {ret : Option FieldType} {rm : Room} {pc q n ce sl : Nat} {lv : List (Option Value)} {st : List Value} {M : jM} (h : jB X cc own nm ret rm) {a : Nat} {off : Int} (hd : decode cc pc = .ok (.ifnull off, 3)) (hq : pc + 3 = q) (k : jJ X q lv (st) n M ce sl) : jJ X pc lv (.ref a :: st) n M ce sl := by
  obtain ⟨p, l, e, R, s, m, args, below, meth, c, Q, D, b0, nL⟩ := X
  obtain ⟨hx, hb, hml, hown, hts, hK, hb0, hR, hnm, hr, hlk⟩ := h
  intro H locs ls hH hS hL
  subst hq
  exact lv_ifnull hx hb hd (k H locs ls hH hS hL)

theorem jk_dup {X : jX} {cc : ByteArray} {own nm : String} {ret : Option FieldType} {rm : Room} {pc q n ce sl : Nat} {lv : List (Option Value)} {st : List Value} {M : jM} (h : jB X cc own nm ret rm) {v : Value} (hd : decode cc pc = .ok (.dup, 1)) (hv : v.category = 1) (hq : pc + 1 = q) (k : jJ X q lv (v :: v :: st) n M ce sl) : jJ X pc lv (v :: st) n M ce sl := by
  obtain ⟨p, l, e, R, s, m, args, below, meth, c, Q, D, b0, nL⟩ := X
  obtain ⟨hx, hb, hml, hown, hts, hK, hb0, hR, hnm, hr, hlk⟩ := h
  intro H locs ls hH hS hL
  subst hq
  exact lv_dup hx hb hd hv (k H locs ls hH hS hL)

theorem jk_dup2 {X : jX} {cc : ByteArray} {own nm : String} {ret : Option FieldType} {rm : Room} {pc q n ce sl : Nat} {lv : List (Option Value)} {st : List Value} {M : jM} (h : jB X cc own nm ret rm) {v w : Value} (hd : decode cc pc = .ok (.dup2, 1)) (hv : v.category = 1) (hw : w.category = 1) (hq : pc + 1 = q) (k : jJ X q lv (v :: w :: v :: w :: st) n M ce sl) : jJ X pc lv (v :: w :: st) n M ce sl := by
  obtain ⟨p, l, e, R, s, m, args, below, meth, c, Q, D, b0, nL⟩ := X
  obtain ⟨hx, hb, hml, hown, hts, hK, hb0, hR, hnm, hr, hlk⟩ := h
  intro H locs ls hH hS hL
  subst hq
  exact lv_dup2_11 hx hb hd hv hw (k H locs ls hH hS hL)

theorem jk_dup_x1 {X : jX} {cc : ByteArray} {own nm : String} {ret : Option FieldType} {rm : Room} {pc q n ce sl : Nat} {lv : List (Option Value)} {st : List Value} {M : jM} (h : jB X cc own nm ret rm) {v w : Value} (hd : decode cc pc = .ok (.dup_x1, 1)) (hv : v.category = 1) (hw : w.category = 1) (hq : pc + 1 = q) (k : jJ X q lv (v :: w :: v :: st) n M ce sl) : jJ X pc lv (v :: w :: st) n M ce sl := by
  obtain ⟨p, l, e, R, s, m, args, below, meth, c, Q, D, b0, nL⟩ := X
  obtain ⟨hx, hb, hml, hown, hts, hK, hb0, hR, hnm, hr, hlk⟩ := h
  intro H locs ls hH hS hL
  subst hq
  exact lv_dup_x1 hx hb hd hv hw (k H locs ls hH hS hL)

theorem jk_dup_x2 {X : jX} {cc : ByteArray} {own nm : String} {ret : Option FieldType} {rm : Room} {pc q n ce sl : Nat} {lv : List (Option Value)} {st : List Value} {M : jM} (h : jB X cc own nm ret rm) {v w z : Value} (hd : decode cc pc = .ok (.dup_x2, 1)) (hv : v.category = 1) (hw : w.category = 1) (hz : z.category = 1) (hq : pc + 1 = q) (k : jJ X q lv (v :: w :: z :: v :: st) n M ce sl) : jJ X pc lv (v :: w :: z :: st) n M ce sl := by
  obtain ⟨p, l, e, R, s, m, args, below, meth, c, Q, D, b0, nL⟩ := X
  obtain ⟨hx, hb, hml, hown, hts, hK, hb0, hR, hnm, hr, hlk⟩ := h
  intro H locs ls hH hS hL
  subst hq
  exact lv_dup_x2 hx hb hd hv hw hz (k H locs ls hH hS hL)

theorem jk_pop {X : jX} {cc : ByteArray} {own nm : String} {ret : Option FieldType} {rm : Room} {pc q n ce sl : Nat} {lv : List (Option Value)} {st : List Value} {M : jM} (h : jB X cc own nm ret rm) {v : Value} (hd : decode cc pc = .ok (.pop, 1)) (hv : v.category = 1) (hq : pc + 1 = q) (k : jJ X q lv (st) n M ce sl) : jJ X pc lv (v :: st) n M ce sl := by
  obtain ⟨p, l, e, R, s, m, args, below, meth, c, Q, D, b0, nL⟩ := X
  obtain ⟨hx, hb, hml, hown, hts, hK, hb0, hR, hnm, hr, hlk⟩ := h
  intro H locs ls hH hS hL
  subst hq
  exact lv_pop hx hb hd hv (k H locs ls hH hS hL)

theorem jk_aconst_null {X : jX} {cc : ByteArray} {own nm : String} {ret : Option FieldType} {rm : Room} {pc q n ce sl : Nat} {lv : List (Option Value)} {st : List Value} {M : jM} (h : jB X cc own nm ret rm) (hd : decode cc pc = .ok (.aconst_null, 1)) (hq : pc + 1 = q) (k : jJ X q lv (.null :: st) n M ce sl) : jJ X pc lv (st) n M ce sl := by
  obtain ⟨p, l, e, R, s, m, args, below, meth, c, Q, D, b0, nL⟩ := X
  obtain ⟨hx, hb, hml, hown, hts, hK, hb0, hR, hnm, hr, hlk⟩ := h
  intro H locs ls hH hS hL
  subst hq
  exact lv_null hx hb hd (k H locs ls hH hS hL)

theorem jk_top {X : jX} {pc n ce sl : Nat} {lv : List (Option Value)} {st st2 : List Value} {M : jM} (he : st = st2) (k : jJ X pc lv st2 n M ce sl) : jJ X pc lv st n M ce sl := he ▸ k

theorem jk_tabIn {X : jX} {cc : ByteArray} {own nm : String} {ret : Option FieldType} {rm : Room} {pc q n ce sl : Nat} {lv : List (Option Value)} {st : List Value} {M : jM} (h : jB X cc own nm ret rm) {a dflt lo hi : Int} {offs : Array Int} {len : Nat} {off : Int} {tgt : Nat} (hd : decode cc pc = .ok (.tableswitch dflt lo hi offs, len)) (ha : jRng a) (h1 : lo ≤ a) (h2 : a ≤ hi) (ho : offs[(a - lo).toNat]? = some off) (ht : (pc : Int) + off = (tgt : Int)) (k : jJ X tgt lv st n M ce sl) : jJ X pc lv (jI a :: st) n M ce sl := by
  obtain ⟨p, l, e, R, s, m, args, below, meth, c, Q, D, b0, nL⟩ := X
  obtain ⟨hx, hb, hml, hown, hts, hK, hb0, hR, hnm, hr, hlk⟩ := h
  intro H locs ls hH hS hL
  have e := jI_toInt ha
  exact lv_tableIn hx hb hd (by rw [e]; omega) (by rw [e]; omega) (by rw [e]; exact ho) ht (k H locs ls hH hS hL)

theorem jk_tabOut {X : jX} {cc : ByteArray} {own nm : String} {ret : Option FieldType} {rm : Room} {pc q n ce sl : Nat} {lv : List (Option Value)} {st : List Value} {M : jM} (h : jB X cc own nm ret rm) {a dflt lo hi : Int} {offs : Array Int} {len : Nat} {tgt : Nat} (hd : decode cc pc = .ok (.tableswitch dflt lo hi offs, len)) (ha : jRng a) (h1 : a < lo ∨ hi < a) (ht : (pc : Int) + dflt = (tgt : Int)) (k : jJ X tgt lv st n M ce sl) : jJ X pc lv (jI a :: st) n M ce sl := by
  obtain ⟨p, l, e, R, s, m, args, below, meth, c, Q, D, b0, nL⟩ := X
  obtain ⟨hx, hb, hml, hown, hts, hK, hb0, hR, hnm, hr, hlk⟩ := h
  intro H locs ls hH hS hL
  have e := jI_toInt ha
  exact lv_tableOut hx hb hd (by rw [e]; exact h1) ht (k H locs ls hH hS hL)

theorem jk_look {X : jX} {cc : ByteArray} {own nm : String} {ret : Option FieldType} {rm : Room} {pc q n ce sl : Nat} {lv : List (Option Value)} {st : List Value} {M : jM} (h : jB X cc own nm ret rm) {a dflt : Int} {ps : Array (Int × Int)} {len : Nat} {off : Int} {tgt : Nat} (hd : decode cc pc = .ok (.lookupswitch dflt ps, len)) (hp : (ps.toList.zip (ps.toList.drop 1)).all (fun (a, next) => a.1 < next.1) = true) (ha : jRng a) (ho : Op.lookupswitch.offset ps.toList dflt a = off) (ht : (pc : Int) + off = (tgt : Int)) (k : jJ X tgt lv st n M ce sl) : jJ X pc lv (jI a :: st) n M ce sl := by
  obtain ⟨p, l, e, R, s, m, args, below, meth, c, Q, D, b0, nL⟩ := X
  obtain ⟨hx, hb, hml, hown, hts, hK, hb0, hR, hnm, hr, hlk⟩ := h
  intro H locs ls hH hS hL
  have e := jI_toInt ha
  exact lv_lookup hx hb hd hp (by rw [e]; exact ho) ht (k H locs ls hH hS hL)

theorem jk_ladd {X : jX} {cc : ByteArray} {own nm : String} {ret : Option FieldType} {rm : Room} {pc q n ce sl : Nat} {lv : List (Option Value)} {st : List Value} {M : jM} (h : jB X cc own nm ret rm) {x y : Int64} (hd : decode cc pc = .ok (.ladd, 1)) (hq : pc + 1 = q) (k : jJ X q lv (.long (x + y) :: st) n M ce sl) : jJ X pc lv (.long y :: .long x :: st) n M ce sl := by
  obtain ⟨p, l, e, R, s, m, args, below, meth, c, Q, D, b0, nL⟩ := X
  obtain ⟨hx, hb, hml, hown, hts, hK, hb0, hR, hnm, hr, hlk⟩ := h
  intro H locs ls hH hS hL
  subst hq
  exact lv_ladd hx hb hd (k H locs ls hH hS hL)

theorem jk_lsub {X : jX} {cc : ByteArray} {own nm : String} {ret : Option FieldType} {rm : Room} {pc q n ce sl : Nat} {lv : List (Option Value)} {st : List Value} {M : jM} (h : jB X cc own nm ret rm) {x y : Int64} (hd : decode cc pc = .ok (.lsub, 1)) (hq : pc + 1 = q) (k : jJ X q lv (.long (x - y) :: st) n M ce sl) : jJ X pc lv (.long y :: .long x :: st) n M ce sl := by
  obtain ⟨p, l, e, R, s, m, args, below, meth, c, Q, D, b0, nL⟩ := X
  obtain ⟨hx, hb, hml, hown, hts, hK, hb0, hR, hnm, hr, hlk⟩ := h
  intro H locs ls hH hS hL
  subst hq
  exact lv_lsub hx hb hd (k H locs ls hH hS hL)

theorem jk_lmul {X : jX} {cc : ByteArray} {own nm : String} {ret : Option FieldType} {rm : Room} {pc q n ce sl : Nat} {lv : List (Option Value)} {st : List Value} {M : jM} (h : jB X cc own nm ret rm) {x y : Int64} (hd : decode cc pc = .ok (.lmul, 1)) (hq : pc + 1 = q) (k : jJ X q lv (.long (x * y) :: st) n M ce sl) : jJ X pc lv (.long y :: .long x :: st) n M ce sl := by
  obtain ⟨p, l, e, R, s, m, args, below, meth, c, Q, D, b0, nL⟩ := X
  obtain ⟨hx, hb, hml, hown, hts, hK, hb0, hR, hnm, hr, hlk⟩ := h
  intro H locs ls hH hS hL
  subst hq
  exact lv_lmul hx hb hd (k H locs ls hH hS hL)

theorem jk_land {X : jX} {cc : ByteArray} {own nm : String} {ret : Option FieldType} {rm : Room} {pc q n ce sl : Nat} {lv : List (Option Value)} {st : List Value} {M : jM} (h : jB X cc own nm ret rm) {x y : Int64} (hd : decode cc pc = .ok (.land, 1)) (hq : pc + 1 = q) (k : jJ X q lv (.long (x &&& y) :: st) n M ce sl) : jJ X pc lv (.long y :: .long x :: st) n M ce sl := by
  obtain ⟨p, l, e, R, s, m, args, below, meth, c, Q, D, b0, nL⟩ := X
  obtain ⟨hx, hb, hml, hown, hts, hK, hb0, hR, hnm, hr, hlk⟩ := h
  intro H locs ls hH hS hL
  subst hq
  exact lv_land hx hb hd (k H locs ls hH hS hL)

theorem jk_lor {X : jX} {cc : ByteArray} {own nm : String} {ret : Option FieldType} {rm : Room} {pc q n ce sl : Nat} {lv : List (Option Value)} {st : List Value} {M : jM} (h : jB X cc own nm ret rm) {x y : Int64} (hd : decode cc pc = .ok (.lor, 1)) (hq : pc + 1 = q) (k : jJ X q lv (.long (x ||| y) :: st) n M ce sl) : jJ X pc lv (.long y :: .long x :: st) n M ce sl := by
  obtain ⟨p, l, e, R, s, m, args, below, meth, c, Q, D, b0, nL⟩ := X
  obtain ⟨hx, hb, hml, hown, hts, hK, hb0, hR, hnm, hr, hlk⟩ := h
  intro H locs ls hH hS hL
  subst hq
  exact lv_lor hx hb hd (k H locs ls hH hS hL)

theorem jk_dmul {X : jX} {cc : ByteArray} {own nm : String} {ret : Option FieldType} {rm : Room} {pc q n ce sl : Nat} {lv : List (Option Value)} {st : List Value} {M : jM} (h : jB X cc own nm ret rm) {x y : UInt64} (hd : decode cc pc = .ok (.dmul, 1)) (hn : vf_n64 (FP.dmul x y)) (hq : pc + 1 = q) (k : jJ X q lv (.double (FP.dmul x y) :: st) n M ce sl) : jJ X pc lv (.double y :: .double x :: st) n M ce sl := by
  obtain ⟨p, l, e, R, s, m, args, below, meth, c, Q, D, b0, nL⟩ := X
  obtain ⟨hx, hb, hml, hown, hts, hK, hb0, hR, hnm, hr, hlk⟩ := h
  intro H locs ls hH hS hL
  subst hq
  exact lv_dmul hx hb hd hn (k H locs ls hH hS hL)

theorem jk_ddiv {X : jX} {cc : ByteArray} {own nm : String} {ret : Option FieldType} {rm : Room} {pc q n ce sl : Nat} {lv : List (Option Value)} {st : List Value} {M : jM} (h : jB X cc own nm ret rm) {x y : UInt64} (hd : decode cc pc = .ok (.ddiv, 1)) (hn : vf_n64 (FP.ddiv x y)) (hq : pc + 1 = q) (k : jJ X q lv (.double (FP.ddiv x y) :: st) n M ce sl) : jJ X pc lv (.double y :: .double x :: st) n M ce sl := by
  obtain ⟨p, l, e, R, s, m, args, below, meth, c, Q, D, b0, nL⟩ := X
  obtain ⟨hx, hb, hml, hown, hts, hK, hb0, hR, hnm, hr, hlk⟩ := h
  intro H locs ls hH hS hL
  subst hq
  exact lv_ddiv hx hb hd hn (k H locs ls hH hS hL)

theorem jk_dsub {X : jX} {cc : ByteArray} {own nm : String} {ret : Option FieldType} {rm : Room} {pc q n ce sl : Nat} {lv : List (Option Value)} {st : List Value} {M : jM} (h : jB X cc own nm ret rm) {x y : UInt64} (hd : decode cc pc = .ok (.dsub, 1)) (hn : vf_n64 (FP.dsub x y)) (hq : pc + 1 = q) (k : jJ X q lv (.double (FP.dsub x y) :: st) n M ce sl) : jJ X pc lv (.double y :: .double x :: st) n M ce sl := by
  obtain ⟨p, l, e, R, s, m, args, below, meth, c, Q, D, b0, nL⟩ := X
  obtain ⟨hx, hb, hml, hown, hts, hK, hb0, hR, hnm, hr, hlk⟩ := h
  intro H locs ls hH hS hL
  subst hq
  exact lv_dsub hx hb hd hn (k H locs ls hH hS hL)

theorem jk_dadd {X : jX} {cc : ByteArray} {own nm : String} {ret : Option FieldType} {rm : Room} {pc q n ce sl : Nat} {lv : List (Option Value)} {st : List Value} {M : jM} (h : jB X cc own nm ret rm) {x y : UInt64} (hd : decode cc pc = .ok (.dadd, 1)) (hn : vf_n64 (FP.dadd x y)) (hq : pc + 1 = q) (k : jJ X q lv (.double (FP.dadd x y) :: st) n M ce sl) : jJ X pc lv (.double y :: .double x :: st) n M ce sl := by
  obtain ⟨p, l, e, R, s, m, args, below, meth, c, Q, D, b0, nL⟩ := X
  obtain ⟨hx, hb, hml, hown, hts, hK, hb0, hR, hnm, hr, hlk⟩ := h
  intro H locs ls hH hS hL
  subst hq
  exact lv_dadd hx hb hd hn (k H locs ls hH hS hL)

theorem jk_i2l {X : jX} {cc : ByteArray} {own nm : String} {ret : Option FieldType} {rm : Room} {pc q n ce sl : Nat} {lv : List (Option Value)} {st : List Value} {M : jM} (h : jB X cc own nm ret rm) {x : Int} (hd : decode cc pc = .ok (.i2l, 1)) (hq : pc + 1 = q) (k : jJ X q lv (.long (Int32.ofInt x).toInt64 :: st) n M ce sl) : jJ X pc lv (jI x :: st) n M ce sl := by
  obtain ⟨p, l, e, R, s, m, args, below, meth, c, Q, D, b0, nL⟩ := X
  obtain ⟨hx, hb, hml, hown, hts, hK, hb0, hR, hnm, hr, hlk⟩ := h
  intro H locs ls hH hS hL
  subst hq
  exact lv_i2l hx hb hd rfl (k H locs ls hH hS hL)

theorem jk_l2i {X : jX} {cc : ByteArray} {own nm : String} {ret : Option FieldType} {rm : Room} {pc q n ce sl : Nat} {lv : List (Option Value)} {st : List Value} {M : jM} (h : jB X cc own nm ret rm) {x : Int64} {z : Int} (hd : decode cc pc = .ok (.l2i, 1)) (hz : x.toInt32 = Int32.ofInt z) (hq : pc + 1 = q) (k : jJ X q lv (jI z :: st) n M ce sl) : jJ X pc lv (.long x :: st) n M ce sl := by
  obtain ⟨p, l, e, R, s, m, args, below, meth, c, Q, D, b0, nL⟩ := X
  obtain ⟨hx, hb, hml, hown, hts, hK, hb0, hR, hnm, hr, hlk⟩ := h
  intro H locs ls hH hS hL
  subst hq
  exact lv_l2i hx hb hd hz (k H locs ls hH hS hL)

theorem jk_i2c {X : jX} {cc : ByteArray} {own nm : String} {ret : Option FieldType} {rm : Room} {pc q n ce sl : Nat} {lv : List (Option Value)} {st : List Value} {M : jM} (h : jB X cc own nm ret rm) {x : Int} (hd : decode cc pc = .ok (.i2c, 1)) (h0 : 0 ≤ x) (h1 : x < 65536) (hq : pc + 1 = q) (k : jJ X q lv (jI x :: st) n M ce sl) : jJ X pc lv (jI x :: st) n M ce sl := by
  obtain ⟨p, l, e, R, s, m, args, below, meth, c, Q, D, b0, nL⟩ := X
  obtain ⟨hx, hb, hml, hown, hts, hK, hb0, hR, hnm, hr, hlk⟩ := h
  intro H locs ls hH hS hL
  subst hq
  exact lv_i2c hx hb hd (jI_i2c h0 h1) (k H locs ls hH hS hL)

theorem jk_lushr {X : jX} {cc : ByteArray} {own nm : String} {ret : Option FieldType} {rm : Room} {pc q n ce sl : Nat} {lv : List (Option Value)} {st : List Value} {M : jM} (h : jB X cc own nm ret rm) {x : Int64} {z : Int} (hd : decode cc pc = .ok (.lushr, 1)) (hq : pc + 1 = q) (k : jJ X q lv (.long ((x.toUInt64 >>> ((Int32.ofInt z).toInt64.toUInt64 &&& Int64.toUInt64 63)).toInt64) :: st) n M ce sl) : jJ X pc lv (jI z :: .long x :: st) n M ce sl := by
  obtain ⟨p, l, e, R, s, m, args, below, meth, c, Q, D, b0, nL⟩ := X
  obtain ⟨hx, hb, hml, hown, hts, hK, hb0, hR, hnm, hr, hlk⟩ := h
  intro H locs ls hH hS hL
  subst hq
  exact lv_lushr hx hb hd rfl (k H locs ls hH hS hL)

theorem jk_lshl {X : jX} {cc : ByteArray} {own nm : String} {ret : Option FieldType} {rm : Room} {pc q n ce sl : Nat} {lv : List (Option Value)} {st : List Value} {M : jM} (h : jB X cc own nm ret rm) {x : Int64} {z : Int} (hd : decode cc pc = .ok (.lshl, 1)) (hq : pc + 1 = q) (k : jJ X q lv (.long (x <<< ((Int32.ofInt z).toInt64 &&& 63)) :: st) n M ce sl) : jJ X pc lv (jI z :: .long x :: st) n M ce sl := by
  obtain ⟨p, l, e, R, s, m, args, below, meth, c, Q, D, b0, nL⟩ := X
  obtain ⟨hx, hb, hml, hown, hts, hK, hb0, hR, hnm, hr, hlk⟩ := h
  intro H locs ls hH hS hL
  subst hq
  exact lv_lshl hx hb hd rfl (k H locs ls hH hS hL)

theorem jk_lshr {X : jX} {cc : ByteArray} {own nm : String} {ret : Option FieldType} {rm : Room} {pc q n ce sl : Nat} {lv : List (Option Value)} {st : List Value} {M : jM} (h : jB X cc own nm ret rm) {x : Int64} {z : Int} (hd : decode cc pc = .ok (.lshr, 1)) (hq : pc + 1 = q) (k : jJ X q lv (.long (x >>> ((Int32.ofInt z).toInt64 &&& 63)) :: st) n M ce sl) : jJ X pc lv (jI z :: .long x :: st) n M ce sl := by
  obtain ⟨p, l, e, R, s, m, args, below, meth, c, Q, D, b0, nL⟩ := X
  obtain ⟨hx, hb, hml, hown, hts, hK, hb0, hR, hnm, hr, hlk⟩ := h
  intro H locs ls hH hS hL
  subst hq
  exact lv_lshr hx hb hd rfl (k H locs ls hH hS hL)

theorem jk_iand {X : jX} {cc : ByteArray} {own nm : String} {ret : Option FieldType} {rm : Room} {pc q n ce sl : Nat} {lv : List (Option Value)} {st : List Value} {M : jM} (h : jB X cc own nm ret rm) {x y : Int} (hd : decode cc pc = .ok (.iand, 1)) {z : Int} (hz : Int32.ofInt x &&& Int32.ofInt y = Int32.ofInt z) (hq : pc + 1 = q) (k : jJ X q lv (jI z :: st) n M ce sl) : jJ X pc lv (jI y :: jI x :: st) n M ce sl := by
  obtain ⟨p, l, e, R, s, m, args, below, meth, c, Q, D, b0, nL⟩ := X
  obtain ⟨hx, hb, hml, hown, hts, hK, hb0, hR, hnm, hr, hlk⟩ := h
  intro H locs ls hH hS hL
  subst hq
  refine lv_iand hx hb hd ?_
  have k := k H locs ls hH hS hL
  rwa [jI, ← hz] at k

theorem jk_lcmp {X : jX} {cc : ByteArray} {own nm : String} {ret : Option FieldType} {rm : Room} {pc q n ce sl : Nat} {lv : List (Option Value)} {st : List Value} {M : jM} (h : jB X cc own nm ret rm) {x y : Int64} {z : Int} (hd : decode cc pc = .ok (.lcmp, 1)) (hz : lg_cmp x y = Int32.ofInt z) (hq : pc + 1 = q) (k : jJ X q lv (jI z :: st) n M ce sl) : jJ X pc lv (.long y :: .long x :: st) n M ce sl := by
  obtain ⟨p, l, e, R, s, m, args, below, meth, c, Q, D, b0, nL⟩ := X
  obtain ⟨hx, hb, hml, hown, hts, hK, hb0, hR, hnm, hr, hlk⟩ := h
  intro H locs ls hH hS hL
  subst hq
  refine W.lcmp hx hb hd ?_
  have k := k H locs ls hH hS hL
  rwa [jI, ← hz] at k

theorem jk_dcmp {X : jX} {cc : ByteArray} {own nm : String} {ret : Option FieldType} {rm : Room} {pc q n ce sl : Nat} {lv : List (Option Value)} {st : List Value} {M : jM} (h : jB X cc own nm ret rm) {x y : UInt64} {op : CmpOp} {z : Int} (hd : decode cc pc = .ok (.dcmp op, 1)) (hz : Op.cmpValue (FP.dcmp x y) op = Int32.ofInt z) (hq : pc + 1 = q) (k : jJ X q lv (jI z :: st) n M ce sl) : jJ X pc lv (.double y :: .double x :: st) n M ce sl := by
  obtain ⟨p, l, e, R, s, m, args, below, meth, c, Q, D, b0, nL⟩ := X
  obtain ⟨hx, hb, hml, hown, hts, hK, hb0, hR, hnm, hr, hlk⟩ := h
  intro H locs ls hH hS hL
  subst hq
  refine lv_dcmp hx hb hd ?_
  have k := k H locs ls hH hS hL
  rwa [jI, ← hz] at k

theorem jk_fcmp {X : jX} {cc : ByteArray} {own nm : String} {ret : Option FieldType} {rm : Room} {pc q n ce sl : Nat} {lv : List (Option Value)} {st : List Value} {M : jM} (h : jB X cc own nm ret rm) {x y : UInt32} {op : CmpOp} {z : Int} (hd : decode cc pc = .ok (.fcmp op, 1)) (hz : Op.cmpValue (FP.fcmp x y) op = Int32.ofInt z) (hq : pc + 1 = q) (k : jJ X q lv (jI z :: st) n M ce sl) : jJ X pc lv (.float y :: .float x :: st) n M ce sl := by
  obtain ⟨p, l, e, R, s, m, args, below, meth, c, Q, D, b0, nL⟩ := X
  obtain ⟨hx, hb, hml, hown, hts, hK, hb0, hR, hnm, hr, hlk⟩ := h
  intro H locs ls hH hS hL
  subst hq
  refine lv_fcmp hx hb hd ?_
  have k := k H locs ls hH hS hL
  rwa [jI, ← hz] at k

theorem jk_i2d {X : jX} {cc : ByteArray} {own nm : String} {ret : Option FieldType} {rm : Room} {pc q n ce sl : Nat} {lv : List (Option Value)} {st : List Value} {M : jM} (h : jB X cc own nm ret rm) {x : Int} (hd : decode cc pc = .ok (.i2d, 1)) (hq : pc + 1 = q) (k : jJ X q lv (.double (FP.i2d (Int32.ofInt x)) :: st) n M ce sl) : jJ X pc lv (jI x :: st) n M ce sl := by
  obtain ⟨p, l, e, R, s, m, args, below, meth, c, Q, D, b0, nL⟩ := X
  obtain ⟨hx, hb, hml, hown, hts, hK, hb0, hR, hnm, hr, hlk⟩ := h
  intro H locs ls hH hS hL
  subst hq
  exact lv_i2d hx hb hd (k H locs ls hH hS hL)

theorem jk_l2d {X : jX} {cc : ByteArray} {own nm : String} {ret : Option FieldType} {rm : Room} {pc q n ce sl : Nat} {lv : List (Option Value)} {st : List Value} {M : jM} (h : jB X cc own nm ret rm) {x : Int64} (hd : decode cc pc = .ok (.l2d, 1)) (hq : pc + 1 = q) (k : jJ X q lv (.double (FP.l2d x) :: st) n M ce sl) : jJ X pc lv (.long x :: st) n M ce sl := by
  obtain ⟨p, l, e, R, s, m, args, below, meth, c, Q, D, b0, nL⟩ := X
  obtain ⟨hx, hb, hml, hown, hts, hK, hb0, hR, hnm, hr, hlk⟩ := h
  intro H locs ls hH hS hL
  subst hq
  exact lv_l2d hx hb hd (k H locs ls hH hS hL)

theorem jk_d2l {X : jX} {cc : ByteArray} {own nm : String} {ret : Option FieldType} {rm : Room} {pc q n ce sl : Nat} {lv : List (Option Value)} {st : List Value} {M : jM} (h : jB X cc own nm ret rm) {x : UInt64} (hd : decode cc pc = .ok (.d2l, 1)) (hq : pc + 1 = q) (k : jJ X q lv (.long (FP.d2l x) :: st) n M ce sl) : jJ X pc lv (.double x :: st) n M ce sl := by
  obtain ⟨p, l, e, R, s, m, args, below, meth, c, Q, D, b0, nL⟩ := X
  obtain ⟨hx, hb, hml, hown, hts, hK, hb0, hR, hnm, hr, hlk⟩ := h
  intro H locs ls hH hS hL
  subst hq
  exact lv_d2l hx hb hd (k H locs ls hH hS hL)

theorem jk_d2f {X : jX} {cc : ByteArray} {own nm : String} {ret : Option FieldType} {rm : Room} {pc q n ce sl : Nat} {lv : List (Option Value)} {st : List Value} {M : jM} (h : jB X cc own nm ret rm) {x : UInt64} (hd : decode cc pc = .ok (.d2f, 1)) (hn : vf_n32 (FP.d2f x)) (hq : pc + 1 = q) (k : jJ X q lv (.float (FP.d2f x) :: st) n M ce sl) : jJ X pc lv (.double x :: st) n M ce sl := by
  obtain ⟨p, l, e, R, s, m, args, below, meth, c, Q, D, b0, nL⟩ := X
  obtain ⟨hx, hb, hml, hown, hts, hK, hb0, hR, hnm, hr, hlk⟩ := h
  intro H locs ls hH hS hL
  subst hq
  exact lv_d2f hx hb hd hn (k H locs ls hH hS hL)

theorem jk_f2d {X : jX} {cc : ByteArray} {own nm : String} {ret : Option FieldType} {rm : Room} {pc q n ce sl : Nat} {lv : List (Option Value)} {st : List Value} {M : jM} (h : jB X cc own nm ret rm) {x : UInt32} (hd : decode cc pc = .ok (.f2d, 1)) (hn : vf_n64 (FP.f2d x)) (hq : pc + 1 = q) (k : jJ X q lv (.double (FP.f2d x) :: st) n M ce sl) : jJ X pc lv (.float x :: st) n M ce sl := by
  obtain ⟨p, l, e, R, s, m, args, below, meth, c, Q, D, b0, nL⟩ := X
  obtain ⟨hx, hb, hml, hown, hts, hK, hb0, hR, hnm, hr, hlk⟩ := h
  intro H locs ls hH hS hL
  subst hq
  exact lv_f2d hx hb hd hn (k H locs ls hH hS hL)

theorem jk_get {X : jX} {cc : ByteArray} {own nm : String} {ret : Option FieldType} {rm : Room} {pc q n ce sl : Nat} {lv : List (Option Value)} {st : List Value} {M : jM} (h : jB X cc own nm ret rm) {ix ci kf o : Nat} {fs : List Value} {v : Value} (hf : jFG own ix ci kf) (hd : decode cc pc = .ok (.getfield ix, 3)) (hM : M o = some (.inr (ci, fs))) (hv : fs[kf]? = some v) (hq : pc + 3 = q) (k : jJ X q lv (v :: st) n M ce sl) : jJ X pc lv (.ref o :: st) n M ce sl := by
  obtain ⟨p, l, e, R, s, m, args, below, meth, c, Q, D, b0, nL⟩ := X
  obtain ⟨hx, hb, hml, hown, hts, hK, hb0, hR, hnm, hr, hlk⟩ := h
  intro H locs ls hH hS hL
  subst hq
  obtain ⟨C, T, N, hC, hin, hlink, hkN⟩ := hf
  refine va_get (D := D) (ci := ci) (T := T) hx hb hts hin hown hK.1 (ws := [(o, .inr (ci, fs))]) (hH.obj hM) 0 rfl hC kf hkN (hts _ hlink) (fun _ h9 => h9) hv hd (k H locs ls hH hS hL)

theorem jk_iald {X : jX} {cc : ByteArray} {own nm : String} {ret : Option FieldType} {rm : Room} {pc q n ce sl : Nat} {lv : List (Option Value)} {st : List Value} {M : jM} (h : jB X cc own nm ret rm) {o len : Nat} {F : Nat → Value} {i : Int} {v : Value} (hd : decode cc pc = .ok (.iaload, 1)) (hM : M o = some (.inl (.int, len, F))) (h0 : 0 ≤ i) (h1 : i < len) (hlen : Nat.ble len 2147483647 = true) (hv : F i.toNat = v) (hq : pc + 1 = q) (k : jJ X q lv (v :: st) n M ce sl) : jJ X pc lv (jI i :: .ref o :: st) n M ce sl := by
  obtain ⟨p, l, e, R, s, m, args, below, meth, c, Q, D, b0, nL⟩ := X
  obtain ⟨hx, hb, hml, hown, hts, hK, hb0, hR, hnm, hr, hlk⟩ := h
  intro H locs ls hH hS hL
  subst hq; subst hv
  obtain ⟨cA, hA, -, hcell⟩ := (hH.2 _ _ hM).2
  obtain ⟨e1, e2⟩ := jI_ix h0 h1 hlen
  exact W.iald (v := F i.toNat) hx hb hcell (hA len F) (fun z => by cases z) (by rw [arrV_size]; exact e1) (by rw [e2]; exact arrV_read _ _ (show i.toNat < len by omega)) rfl rfl hd (k H locs ls hH hS hL)

theorem jk_cald {X : jX} {cc : ByteArray} {own nm : String} {ret : Option FieldType} {rm : Room} {pc q n ce sl : Nat} {lv : List (Option Value)} {st : List Value} {M : jM} (h : jB X cc own nm ret rm) {o len : Nat} {F : Nat → Value} {i : Int} {v : Value} (hd : decode cc pc = .ok (.caload, 1)) (hM : M o = some (.inl (.char, len, F))) (h0 : 0 ≤ i) (h1 : i < len) (hlen : Nat.ble len 2147483647 = true) (hv : F i.toNat = v) (hq : pc + 1 = q) (k : jJ X q lv (v :: st) n M ce sl) : jJ X pc lv (jI i :: .ref o :: st) n M ce sl := by
  obtain ⟨p, l, e, R, s, m, args, below, meth, c, Q, D, b0, nL⟩ := X
  obtain ⟨hx, hb, hml, hown, hts, hK, hb0, hR, hnm, hr, hlk⟩ := h
  intro H locs ls hH hS hL
  subst hq; subst hv
  obtain ⟨cA, hA, -, hcell⟩ := (hH.2 _ _ hM).2
  obtain ⟨e1, e2⟩ := jI_ix h0 h1 hlen
  exact W.cald (v := F i.toNat) hx hb hcell (hA len F) (fun z => by cases z) (by rw [arrV_size]; exact e1) (by rw [e2]; exact arrV_read _ _ (show i.toNat < len by omega)) rfl rfl hd (k H locs ls hH hS hL)

theorem jk_zald {X : jX} {cc : ByteArray} {own nm : String} {ret : Option FieldType} {rm : Room} {pc q n ce sl : Nat} {lv : List (Option Value)} {st : List Value} {M : jM} (h : jB X cc own nm ret rm) {o len : Nat} {F : Nat → Value} {i : Int} {v : Value} (hd : decode cc pc = .ok (.baload, 1)) (hM : M o = some (.inl (.boolean, len, F))) (h0 : 0 ≤ i) (h1 : i < len) (hlen : Nat.ble len 2147483647 = true) (hv : F i.toNat = v) (hq : pc + 1 = q) (k : jJ X q lv (v :: st) n M ce sl) : jJ X pc lv (jI i :: .ref o :: st) n M ce sl := by
  obtain ⟨p, l, e, R, s, m, args, below, meth, c, Q, D, b0, nL⟩ := X
  obtain ⟨hx, hb, hml, hown, hts, hK, hb0, hR, hnm, hr, hlk⟩ := h
  intro H locs ls hH hS hL
  subst hq; subst hv
  obtain ⟨cA, hA, -, hcell⟩ := (hH.2 _ _ hM).2
  obtain ⟨e1, e2⟩ := jI_ix h0 h1 hlen
  exact W.zald (v := F i.toNat) hx hb hcell (hA len F) (fun z => by cases z) (by rw [arrV_size]; exact e1) (by rw [e2]; exact arrV_read _ _ (show i.toNat < len by omega)) rfl rfl hd (k H locs ls hH hS hL)

theorem jk_aald {X : jX} {cc : ByteArray} {own nm : String} {ret : Option FieldType} {rm : Room} {pc q n ce sl : Nat} {lv : List (Option Value)} {st : List Value} {M : jM} (h : jB X cc own nm ret rm) {o len : Nat} {F : Nat → Value} {i : Int} {v : Value} {C : String} (hd : decode cc pc = .ok (.aaload, 1)) (hM : M o = some (.inl (.object C, len, F))) (h0 : 0 ≤ i) (h1 : i < len) (hlen : Nat.ble len 2147483647 = true) (hv : F i.toNat = v) (hq : pc + 1 = q) (k : jJ X q lv (v :: st) n M ce sl) : jJ X pc lv (jI i :: .ref o :: st) n M ce sl := by
  obtain ⟨p, l, e, R, s, m, args, below, meth, c, Q, D, b0, nL⟩ := X
  obtain ⟨hx, hb, hml, hown, hts, hK, hb0, hR, hnm, hr, hlk⟩ := h
  intro H locs ls hH hS hL
  subst hq; subst hv
  obtain ⟨cA, hA, -, hcell⟩ := (hH.2 _ _ hM).2
  obtain ⟨e1, e2⟩ := jI_ix h0 h1 hlen
  exact W.aald (v := F i.toNat) (ty := .object C) hx hb hcell (hA len F) rfl (fun z => by cases z) (by rw [arrV_size]; exact e1) (by rw [e2]; exact arrV_read _ _ (show i.toNat < len by omega)) rfl rfl hd (k H locs ls hH hS hL)

theorem jk_ialdI {X : jX} {cc : ByteArray} {own nm : String} {ret : Option FieldType} {rm : Room} {pc q n ce sl : Nat} {lv : List (Option Value)} {st : List Value} {M : jM} (h : jB X cc own nm ret rm) {o len : Nat} {f : Nat → Int} {i : Int} (hd : decode cc pc = .ok (.iaload, 1)) (hM : M o = some (.inl (.int, len, fun k => jI (f k)))) (h0 : 0 ≤ i) (h1 : i < len) (hlen : Nat.ble len 2147483647 = true) (hq : pc + 1 = q) (k : jJ X q lv (jI (f i.toNat) :: st) n M ce sl) : jJ X pc lv (jI i :: .ref o :: st) n M ce sl := by
  obtain ⟨p, l, e, R, s, m, args, below, meth, c, Q, D, b0, nL⟩ := X
  obtain ⟨hx, hb, hml, hown, hts, hK, hb0, hR, hnm, hr, hlk⟩ := h
  intro H locs ls hH hS hL
  subst hq
  obtain ⟨cA, hA, -, hcell⟩ := (hH.2 _ _ hM).2
  obtain ⟨e1, e2⟩ := jI_ix h0 h1 hlen
  exact W.iald (v := jI (f i.toNat)) hx hb hcell (hA len _) (fun z => by cases z) (by rw [arrV_size]; exact e1) (by rw [e2]; exact arrV_read _ _ (show i.toNat < len by omega)) rfl rfl hd (k H locs ls hH hS hL)

theorem jk_caldI {X : jX} {cc : ByteArray} {own nm : String} {ret : Option FieldType} {rm : Room} {pc q n ce sl : Nat} {lv : List (Option Value)} {st : List Value} {M : jM} (h : jB X cc own nm ret rm) {o len : Nat} {f : Nat → Int} {i : Int} (hd : decode cc pc = .ok (.caload, 1)) (hM : M o = some (.inl (.char, len, fun k => jI (f k)))) (h0 : 0 ≤ i) (h1 : i < len) (hlen : Nat.ble len 2147483647 = true) (hq : pc + 1 = q) (k : jJ X q lv (jI (f i.toNat) :: st) n M ce sl) : jJ X pc lv (jI i :: .ref o :: st) n M ce sl := by
  obtain ⟨p, l, e, R, s, m, args, below, meth, c, Q, D, b0, nL⟩ := X
  obtain ⟨hx, hb, hml, hown, hts, hK, hb0, hR, hnm, hr, hlk⟩ := h
  intro H locs ls hH hS hL
  subst hq
  obtain ⟨cA, hA, -, hcell⟩ := (hH.2 _ _ hM).2
  obtain ⟨e1, e2⟩ := jI_ix h0 h1 hlen
  exact W.cald (v := jI (f i.toNat)) hx hb hcell (hA len _) (fun z => by cases z) (by rw [arrV_size]; exact e1) (by rw [e2]; exact arrV_read _ _ (show i.toNat < len by omega)) rfl rfl hd (k H locs ls hH hS hL)

theorem jk_zaldI {X : jX} {cc : ByteArray} {own nm : String} {ret : Option FieldType} {rm : Room} {pc q n ce sl : Nat} {lv : List (Option Value)} {st : List Value} {M : jM} (h : jB X cc own nm ret rm) {o len : Nat} {f : Nat → Int} {i : Int} (hd : decode cc pc = .ok (.baload, 1)) (hM : M o = some (.inl (.boolean, len, fun k => jI (f k)))) (h0 : 0 ≤ i) (h1 : i < len) (hlen : Nat.ble len 2147483647 = true) (hq : pc + 1 = q) (k : jJ X q lv (jI (f i.toNat) :: st) n M ce sl) : jJ X pc lv (jI i :: .ref o :: st) n M ce sl := by
  obtain ⟨p, l, e, R, s, m, args, below, meth, c, Q, D, b0, nL⟩ := X
  obtain ⟨hx, hb, hml, hown, hts, hK, hb0, hR, hnm, hr, hlk⟩ := h
  intro H locs ls hH hS hL
  subst hq
  obtain ⟨cA, hA, -, hcell⟩ := (hH.2 _ _ hM).2
  obtain ⟨e1, e2⟩ := jI_ix h0 h1 hlen
  exact W.zald (v := jI (f i.toNat)) hx hb hcell (hA len _) (fun z => by cases z) (by rw [arrV_size]; exact e1) (by rw [e2]; exact arrV_read _ _ (show i.toNat < len by omega)) rfl rfl hd (k H locs ls hH hS hL)

theorem jk_if_eqB {X : jX} {cc : ByteArray} {own nm : String} {ret : Option FieldType} {rm : Room} {pc q n ce sl : Nat} {lv : List (Option Value)} {st : List Value} {M : jM} (h : jB X cc own nm ret rm) {p9 : Prop} [Decidable p9] {off : Int} {tgt : Nat} (hd : decode cc pc = .ok (.ifCond .eq off, 3)) (ht : (pc : Int) + off = (tgt : Int)) (hq : pc + 3 = q) (k1 : ¬ p9 → jJ X tgt lv st n M ce sl) (k2 : p9 → jJ X q lv st n M ce sl) : jJ X pc lv (jI (if p9 then 1 else 0) :: st) n M ce sl := by
  obtain ⟨p, l, e, R, s, m, args, below, meth, c, Q, D, b0, nL⟩ := X
  obtain ⟨hx, hb, hml, hown, hts, hK, hb0, hR, hnm, hr, hlk⟩ := h
  intro H locs ls hH hS hL
  subst hq
  by_cases hp9 : p9
  · rw [if_pos hp9]
    exact lv_if_eq hx hb hd ht (fun hc => absurd hc (by decide)) (fun hc => k2 hp9 H locs ls hH hS hL)
  · rw [if_neg hp9]
    exact lv_if_eq hx hb hd ht (fun hc => k1 hp9 H locs ls hH hS hL) (fun hc => absurd rfl hc)

theorem jk_if_neB {X : jX} {cc : ByteArray} {own nm : String} {ret : Option FieldType} {rm : Room} {pc q n ce sl : Nat} {lv : List (Option Value)} {st : List Value} {M : jM} (h : jB X cc own nm ret rm) {p9 : Prop} [Decidable p9] {off : Int} {tgt : Nat} (hd : decode cc pc = .ok (.ifCond .ne off, 3)) (ht : (pc : Int) + off = (tgt : Int)) (hq : pc + 3 = q) (k1 : p9 → jJ X tgt lv st n M ce sl) (k2 : ¬ p9 → jJ X q lv st n M ce sl) : jJ X pc lv (jI (if p9 then 1 else 0) :: st) n M ce sl := by
  obtain ⟨p, l, e, R, s, m, args, below, meth, c, Q, D, b0, nL⟩ := X
  obtain ⟨hx, hb, hml, hown, hts, hK, hb0, hR, hnm, hr, hlk⟩ := h
  intro H locs ls hH hS hL
  subst hq
  by_cases hp9 : p9
  · rw [if_pos hp9]
    exact lv_if_ne hx hb hd ht (fun hc => k1 hp9 H locs ls hH hS hL) (fun hc => absurd hc (by decide))
  · rw [if_neg hp9]
    exact lv_if_ne hx hb hd ht (fun hc => absurd rfl hc) (fun hc => k2 hp9 H locs ls hH hS hL)

theorem jk_alen {X : jX} {cc : ByteArray} {own nm : String} {ret : Option FieldType} {rm : Room} {pc q n ce sl : Nat} {lv : List (Option Value)} {st : List Value} {M : jM} (h : jB X cc own nm ret rm) {o len : Nat} {ty : FieldType} {F : Nat → Value} (hd : decode cc pc = .ok (.arraylength, 1)) (hM : M o = some (.inl (ty, len, F))) (hq : pc + 1 = q) (k : jJ X q lv (jI len :: st) n M ce sl) : jJ X pc lv (.ref o :: st) n M ce sl := by
  obtain ⟨p, l, e, R, s, m, args, below, meth, c, Q, D, b0, nL⟩ := X
  obtain ⟨hx, hb, hml, hown, hts, hK, hb0, hR, hnm, hr, hlk⟩ := h
  intro H locs ls hH hS hL
  subst hq
  obtain ⟨cA, hA, -, hcell⟩ := (hH.2 _ _ hM).2
  exact W.alen (n := Int32.ofInt len) hx hb hcell (hA len F) (by rw [arrV_size]; exact jI_len len) rfl rfl hd (k H locs ls hH hS hL)

theorem jk_iast {X : jX} {cc : ByteArray} {own nm : String} {ret : Option FieldType} {rm : Room} {pc q n ce sl : Nat} {lv : List (Option Value)} {st : List Value} {M : jM} (h : jB X cc own nm ret rm) {o len : Nat} {f : Nat → Int} {i v : Int} (hd : decode cc pc = .ok (.iastore, 1)) (hM : M o = some (.inl (.int, len, fun k => jI (f k)))) (h0 : 0 ≤ i) (h1 : i < len) (hlen : Nat.ble len 2147483647 = true) (hq : pc + 1 = q) (k : ∀ M2, jst M M2 o (.inl (.int, len, fun k => jI (jfup f i.toNat v k))) → jJ X q lv st n M2 ce sl) : jJ X pc lv (jI v :: jI i :: .ref o :: st) n M ce sl := by
  obtain ⟨p, l, e, R, s, m, args, below, meth, c, Q, D, b0, nL⟩ := X
  obtain ⟨hx, hb, hml, hown, hts, hK, hb0, hR, hnm, hr, hlk⟩ := h
  intro H locs ls hH hS hL
  subst hq
  obtain ⟨hbo, cA, hA, hRA, hcell⟩ := hH.2 _ _ hM
  obtain ⟨e1, e2⟩ := jI_ix h0 h1 hlen
  refine W.iast hx hb hcell (hA len _) (fun z => by cases z) (by rw [arrV_size]; exact e1) rfl rfl hd (fun H1 e z oq => ?_)
  rw [e2, arrV_store] at e
  exact k _ (jst_up M o _) H1 _ ls (hH.put hM z oq ⟨cA, hA, hRA, by rw [e]; exact congrArg (fun F => some (arrV cA len F)) (jfup_up f i.toNat v)⟩) (by rw [e2]; exact hS.put z oq hbo) hL

theorem jk_cast {X : jX} {cc : ByteArray} {own nm : String} {ret : Option FieldType} {rm : Room} {pc q n ce sl : Nat} {lv : List (Option Value)} {st : List Value} {M : jM} (h : jB X cc own nm ret rm) {o len : Nat} {f : Nat → Int} {i v : Int} (hd : decode cc pc = .ok (.castore, 1)) (hM : M o = some (.inl (.char, len, fun k => jI (f k)))) (h0 : 0 ≤ i) (h1 : i < len) (hlen : Nat.ble len 2147483647 = true) (hv0 : 0 ≤ v) (hv1 : v < 65536) (hq : pc + 1 = q) (k : ∀ M2, jst M M2 o (.inl (.char, len, fun k => jI (jfup f i.toNat v k))) → jJ X q lv st n M2 ce sl) : jJ X pc lv (jI v :: jI i :: .ref o :: st) n M ce sl := by
  obtain ⟨p, l, e, R, s, m, args, below, meth, c, Q, D, b0, nL⟩ := X
  obtain ⟨hx, hb, hml, hown, hts, hK, hb0, hR, hnm, hr, hlk⟩ := h
  intro H locs ls hH hS hL
  subst hq
  obtain ⟨hbo, cA, hA, hRA, hcell⟩ := hH.2 _ _ hM
  obtain ⟨e1, e2⟩ := jI_ix h0 h1 hlen
  refine W.cast hx hb hcell (hA len _) (fun z => by cases z) (by rw [arrV_size]; exact e1) rfl rfl hd (fun H1 e z oq => ?_)
  rw [jI_narC hv0 hv1] at e
  rw [e2, arrV_store] at e
  exact k _ (jst_up M o _) H1 _ ls (hH.put hM z oq ⟨cA, hA, hRA, by rw [e]; exact congrArg (fun F => some (arrV cA len F)) (jfup_up f i.toNat v)⟩) (by rw [e2]; exact hS.put z oq hbo) hL

theorem jk_zast {X : jX} {cc : ByteArray} {own nm : String} {ret : Option FieldType} {rm : Room} {pc q n ce sl : Nat} {lv : List (Option Value)} {st : List Value} {M : jM} (h : jB X cc own nm ret rm) {o len : Nat} {f : Nat → Int} {i v : Int} (hd : decode cc pc = .ok (.bastore, 1)) (hM : M o = some (.inl (.boolean, len, fun k => jI (f k)))) (h0 : 0 ≤ i) (h1 : i < len) (hlen : Nat.ble len 2147483647 = true) (hv0 : v = 0 ∨ v = 1) (hq : pc + 1 = q) (k : ∀ M2, jst M M2 o (.inl (.boolean, len, fun k => jI (jfup f i.toNat v k))) → jJ X q lv st n M2 ce sl) : jJ X pc lv (jI v :: jI i :: .ref o :: st) n M ce sl := by
  obtain ⟨p, l, e, R, s, m, args, below, meth, c, Q, D, b0, nL⟩ := X
  obtain ⟨hx, hb, hml, hown, hts, hK, hb0, hR, hnm, hr, hlk⟩ := h
  intro H locs ls hH hS hL
  subst hq
  obtain ⟨hbo, cA, hA, hRA, hcell⟩ := hH.2 _ _ hM
  obtain ⟨e1, e2⟩ := jI_ix h0 h1 hlen
  refine W.zast hx hb hcell (hA len _) (fun z => by cases z) (by rw [arrV_size]; exact e1) rfl rfl hd (fun H1 e z oq => ?_)
  rw [jI_narZ hv0] at e
  rw [e2, arrV_store] at e
  exact k _ (jst_up M o _) H1 _ ls (hH.put hM z oq ⟨cA, hA, hRA, by rw [e]; exact congrArg (fun F => some (arrV cA len F)) (jfup_up f i.toNat v)⟩) (by rw [e2]; exact hS.put z oq hbo) hL

theorem jk_aast {X : jX} {cc : ByteArray} {own nm : String} {ret : Option FieldType} {rm : Room} {pc q n ce sl : Nat} {lv : List (Option Value)} {st : List Value} {M : jM} (h : jB X cc own nm ret rm) {o len v ci : Nat} {g : Nat → Option Nat} {fs : List Value} {i : Int} {r : vw_C} (hd : decode cc pc = .ok (.aastore, 1)) (hr9 : vwCl[ci]? = some r) (hM : M o = some (.inl (.object r.1, len, fun k => va_rf (g k)))) (hv : M v = some (.inr (ci, fs))) (h0 : 0 ≤ i) (h1 : i < len) (hlen : Nat.ble len 2147483647 = true) (hq : pc + 1 = q) (k : ∀ M2, jst M M2 o (.inl (.object r.1, len, fun k => va_rf (va_up g i.toNat (some v) k))) → jJ X q lv st n M2 ce sl) : jJ X pc lv (.ref v :: jI i :: .ref o :: st) n M ce sl := by
  obtain ⟨p, l, e, R, s, m, args, below, meth, c, Q, D, b0, nL⟩ := X
  obtain ⟨hx, hb, hml, hown, hts, hK, hb0, hR, hnm, hr, hlk⟩ := h
  intro H locs ls hH hS hL
  subst hq
  obtain ⟨hbo, cA, hA, hRA, hcell⟩ := hH.2 _ _ hM
  obtain ⟨hbv, r', hr', cellV, g1, g2, g3, -⟩ := hH.2 _ _ hv
  obtain ⟨e1, e2⟩ := jI_ix h0 h1 hlen
  have hcls := (hK.1.1 ci r hr9).2
  obtain ⟨kA, comp, k1, k2, k3, -⟩ := id hRA
  have hcomp : comp = D.1 ci := Option.some.inj (k3.symm.trans hcls.1)
  subst hcomp
  obtain ⟨kC, hkC, -⟩ := hcls.2
  refine W.aast hx hb hcell (fun q h => by cases h) (fun h => by cases h) k1 k2 rfl hkC ⟨fun z => e1 (Or.inl z), by rw [arrV_size, e2]; show i.toNat < len; omega⟩ g1 (fun q h => by rw [g3] at h; cases h) (by rw [g2]; exact hkC) (by rw [g2]; exact va_assign hcls) rfl rfl hd (fun H1 e z oq => ?_)
  rw [e2, arrV_store] at e
  exact k _ (jst_up M o _) H1 _ ls (hH.put hM z oq ⟨cA, hA, hRA, by rw [e]; exact congrArg (fun F => some (arrV cA len F)) (jrup_up g i.toNat v)⟩) (by rw [e2]; exact hS.put z oq hbo) hL

theorem jk_put {X : jX} {cc : ByteArray} {own nm : String} {ret : Option FieldType} {rm : Room} {pc q n ce sl : Nat} {lv : List (Option Value)} {st : List Value} {M : jM} (h : jB X cc own nm ret rm) {ix ci kf o : Nat} {fs : List Value} {v : Value} (hf : jFP own ix ci kf false v) (hd : decode cc pc = .ok (.putfield ix, 3)) (hM : M o = some (.inr (ci, fs))) (hlt : kf < fs.length) (hq : pc + 3 = q) (k : ∀ M2, jst M M2 o (.inr (ci, fs.set kf v)) → jJ X q lv st n M2 ce sl) : jJ X pc lv (v :: .ref o :: st) n M ce sl := by
  obtain ⟨p, l, e, R, s, m, args, below, meth, c, Q, D, b0, nL⟩ := X
  obtain ⟨hx, hb, hml, hown, hts, hK, hb0, hR, hnm, hr, hlk⟩ := h
  intro H locs ls hH hS hL
  subst hq
  obtain ⟨C, T, N, ty0, ty, hC, hin, hlink, hkN, hty, hnm2, hfin, hdsc⟩ := hf
  obtain ⟨hbo, r, hr1, cell, q1, q2, q3, q4⟩ := hH.2 _ _ hM
  have hrr : r = (C, T, N) := Option.some.inj (hr1.symm.trans hC)
  subst hrr
  have hap := va_apart (own := own) hts hin ty0 hty hnm2 hK.1 hC
  obtain ⟨hSl, hfc, kC, hkC, hkind⟩ := hK.1.1 ci _ hC
  obtain ⟨cf, kf2, fi, f, hi, hsl⟩ := hSl kf hkN
  have hlay := hts _ (hin _ (u_in_lay hkN))
  unfold u_lay at hlay
  rw [if_neg (by rw [hfin]; decide)] at hlay
  have h6 := u_store hfc hkC hkind hlay hi hdsc.1 hdsc.2.1 hdsc.2.2
  have hst := (u_facts hfc hkC (u_lays hts hin hkN) hi).1
  refine W.putK hx hb (f := f) ⟨hown, hts _ hlink, ⟨_, _, _, hi⟩, hst⟩ (by rw [q2]; exact h6) q1 q3 (by rw [hsl]; exact k2_hasslot (q4 kf hkN)) rfl rfl hd (fun H1 e1 e2 e3 => ?_)
  rw [hsl] at e1 ⊢
  exact k _ (jst_up M o _) H1 _ ls (hH.put hM e2 e3 ⟨_, hC, t_OB.to (V := updV (vp_V fs) kf v) ⟨_, e1, q2, q3, t_set q4 hap hkN v⟩ (fun j _ => vp_updV_set hlt v j)⟩) (hS.put e2 e3 hbo) hL

theorem jk_putF {X : jX} {cc : ByteArray} {own nm : String} {ret : Option FieldType} {rm : Room} {pc q n ce sl : Nat} {lv : List (Option Value)} {st : List Value} {M : jM} (h : jB X cc own nm ret rm) {ix ci kf o : Nat} {fs : List Value} {v : Value} (hf : jFP own ix ci kf true v) (hd : decode cc pc = .ok (.putfield ix, 3)) (hini : nm = "<init>") (hdecl : jdecl ci kf own) (hM : M o = some (.inr (ci, fs))) (hlt : kf < fs.length) (hq : pc + 3 = q) (k : ∀ M2, jst M M2 o (.inr (ci, fs.set kf v)) → jJ X q lv st n M2 ce sl) : jJ X pc lv (v :: .ref o :: st) n M ce sl := by
  obtain ⟨p, l, e, R, s, m, args, below, meth, c, Q, D, b0, nL⟩ := X
  obtain ⟨hx, hb, hml, hown, hts, hK, hb0, hR, hnm, hr, hlk⟩ := h
  intro H locs ls hH hS hL
  subst hq
  obtain ⟨C, T, N, ty0, ty, hC, hin, hlink, hkN, hty, hnm2, hfin, hdsc⟩ := hf
  obtain ⟨hbo, r, hr1, cell, q1, q2, q3, q4⟩ := hH.2 _ _ hM
  have hrr : r = (C, T, N) := Option.some.inj (hr1.symm.trans hC)
  subst hrr
  have hap := va_apart (own := own) hts hin ty0 hty hnm2 hK.1 hC
  obtain ⟨hSl, hfc, kC, hkC, hkind⟩ := hK.1.1 ci _ hC
  obtain ⟨cf, kf2, fi, f, hi, hsl⟩ := hSl kf hkN
  have hlay := hts _ (hin _ (u_in_lay hkN))
  unfold u_lay at hlay
  rw [if_pos hfin] at hlay
  have hst := (u_facts hfc hkC (u_lays hts hin hkN) hi).1
  have hcf : m.cls = cf := by
    obtain ⟨_, _, c', _, _, _, -, -, hf', -, -, -, hown2, -⟩ := Cond.laysFinal_spec hlay
    have e1 : c' = cf := by have := hi.symm.trans hf'; simp at this; exact this.1.symm
    rw [hdecl _ hC] at hown2
    rw [← e1]; exact Option.some.inj (hown.symm.trans hown2)
  have h6 := u_fits hfc hkC hkind (Or.inr hlay) hi hdsc.1 hdsc.2.1 hdsc.2.2
  refine W.putFinK hx hb hown (hts _ hlink) hi hst hcf (hnm.trans hini) (by rw [q2]; exact h6) q1 q3 (by rw [hsl]; exact k2_hasslot (q4 kf hkN)) rfl rfl hd (fun H1 e1 e2 e3 => ?_)
  rw [hsl] at e1 ⊢
  exact k _ (jst_up M o _) H1 _ ls (hH.put hM e2 e3 ⟨_, hC, t_OB.to (V := updV (vp_V fs) kf v) ⟨_, e1, q2, q3, t_set q4 hap hkN v⟩ (fun j _ => vp_updV_set hlt v j)⟩) (hS.put e2 e3 hbo) hL

theorem jk_new {X : jX} {cc : ByteArray} {own nm : String} {ret : Option FieldType} {rm : Room} {pc q n ce sl : Nat} {lv : List (Option Value)} {st : List Value} {M : jM} (h : jB X cc own nm ret rm) {ix ci : Nat} {fs : List Value} (hf : jFN own ix ci fs) (hd : decode cc pc = .ok (.new ix, 3)) (hce : ce + 1 ≤ rm.cells) (hsl : sl + fs.length ≤ rm.slots) (hq : pc + 3 = q) (k : ∀ M2, jst M M2 n (.inr (ci, fs)) → jJ X q lv (.ref n :: st) (n + 1) M2 (ce + 1) (sl + fs.length)) : jJ X pc lv (st) n M ce sl := by
  obtain ⟨p, l, e, R, s, m, args, below, meth, c, Q, D, b0, nL⟩ := X
  obtain ⟨hx, hb, hml, hown, hts, hK, hb0, hR, hnm, hr, hlk⟩ := h
  intro H locs ls hH hS hL
  subst hq; subst hR
  obtain ⟨C, T, N, ty0, hC, hin, hty, hcl, hins, hini, hlen, hfs⟩ := hf
  rw [hlen] at hsl k
  have hKn := hK.1.1 ci _ hC
  have hz0 := hH.1
  refine W.newcK hx hb hown (hts _ hcl) (hts _ hins) (hts _ hini) rfl hd hce hsl hKn.2.1 hz0 (fun H1 kC hkC e1 z1 o1 => ?_)
  refine k _ (jst_up M n _) H1 _ ls (hH.push z1 o1 (by have := hS.1; omega) ⟨_, hC, (u_born ty0 hts hin hKn hkC e1 hty).to hfs⟩) ⟨by have := hS.1; omega, fun x h1 h2 => (o1 x (by have := hS.1; omega)).trans (hS.2.1 x h1 h2), hS.2.2⟩ hL

theorem jk_newa {X : jX} {cc : ByteArray} {own nm : String} {ret : Option FieldType} {rm : Room} {pc q n ce sl : Nat} {lv : List (Option Value)} {st : List Value} {M : jM} (h : jB X cc own nm ret rm) {at9 : ArrayType} {ty : FieldType} {N : Nat} (hd : decode cc pc = .ok (.newarray at9, 2)) (hty : newarray.typeOf at9 = ty) (hw : Cond.arrayClass ty ∈ wsL_law) (hN : Nat.ble N 100000 = true) (hce : ce + 1 ≤ rm.cells) (hsl : sl + N ≤ rm.slots) (hq : pc + 2 = q) (k : ∀ M2, jst M M2 n (.inl (ty, N, fun _ => defaultValue ty)) → jJ X q lv (.ref n :: st) (n + 1) M2 (ce + 1) (sl + N)) : jJ X pc lv (jI N :: st) n M ce sl := by
  obtain ⟨p, l, e, R, s, m, args, below, meth, c, Q, D, b0, nL⟩ := X
  obtain ⟨hx, hb, hml, hown, hts, hK, hb0, hR, hnm, hr, hlk⟩ := h
  intro H locs ls hH hS hL
  subst hq; subst hR; subst hty
  have hz0 := hH.1
  have hN' : N ≤ 100000 := Nat.le_of_ble_eq_true hN
  have hcb : componentBytes (newarray.typeOf at9) ≤ 8 := by cases at9 <;> decide
  refine va_newaK hx hb (hts _ hw) rfl hd rfl (jI_N0 hN') (jI_N1 hN') (Nat.le_trans (Nat.mul_le_mul hN' hcb) (by decide)) hce hsl hz0 (fun H1 cA e1 z1 o1 hAr hNm => ?_)
  refine k _ (jst_up M n _) H1 _ ls (hH.push z1 o1 (by have := hS.1; omega) ⟨cA, hAr, by cases at9 <;> exact hNm, e1⟩) ⟨by have := hS.1; omega, fun x h1 h2 => (o1 x (by have := hS.1; omega)).trans (hS.2.1 x h1 h2), hS.2.2⟩ hL

theorem jk_newq {X : jX} {cc : ByteArray} {own nm : String} {ret : Option FieldType} {rm : Room} {pc q n ce sl : Nat} {lv : List (Option Value)} {st : List Value} {M : jM} (h : jB X cc own nm ret rm) {ix N : Nat} (hd : decode cc pc = .ok (.anewarray ix, 3)) (hw : Cond.classLink own ix "EqualHeights$State" ∈ wsL_law) (hN : Nat.ble N 100000 = true) (hce : ce + 1 ≤ rm.cells) (hsl : sl + N ≤ rm.slots) (hq : pc + 3 = q) (k : ∀ M2, jst M M2 n (.inl (.object "EqualHeights$State", N, fun _ => .null)) → jJ X q lv (.ref n :: st) (n + 1) M2 (ce + 1) (sl + N)) : jJ X pc lv (jI N :: st) n M ce sl := by
  obtain ⟨p, l, e, R, s, m, args, below, meth, c, Q, D, b0, nL⟩ := X
  obtain ⟨hx, hb, hml, hown, hts, hK, hb0, hR, hnm, hr, hlk⟩ := h
  intro H locs ls hH hS hL
  subst hq; subst hR
  have hz0 := hH.1
  have hN' : N ≤ 100000 := Nat.le_of_ble_eq_true hN
  refine W.anew hx hb hown (hts _ hw) (va_AO.use hK.2.1) rfl hd rfl (jI_N0 hN') (by rw [jI_N1 hN']; omega) hce (by rw [jI_N1 hN']; exact hsl) (fun cA kA comp f1 f2 f3 f4 => ?_)
  rw [jI_N1 hN', hz0]
  generalize hH1 : H.push ({ cls := cA, slots := Array.replicate N .null, vm := .none } : Cell) = H1
  have z1 : H1.size = n + 1 := by rw [← hH1, Array.size_push, hz0]
  have e1 : H1[n]? = some (arrV cA N (fun _ => .null)) := by rw [← hH1, ← hz0, Array.getElem?_push_size, ← arrV_new]
  have o1 : ∀ x, x < n → H1[x]? = H[x]? := fun x hx => by
    rw [← hH1, Array.getElem?_push, if_neg (by omega)]
  refine k _ (jst_up M n _) H1 _ ls (hH.push z1 o1 (by have := hS.1; omega) ⟨cA, fun n z => ⟨fun k h => (by cases h), kA, f2, comp, f3⟩, ⟨kA, comp, f2, f3, f4, f1⟩, e1⟩) ⟨by have := hS.1; omega, fun x h1 h2 => (o1 x (by have := hS.1; omega)).trans (hS.2.1 x h1 h2), hS.2.2⟩ hL

theorem jk_objInit {X : jX} {cc : ByteArray} {own nm : String} {ret : Option FieldType} {rm : Room} {pc q n ce sl : Nat} {lv : List (Option Value)} {st : List Value} {M : jM} (h : jB X cc own nm ret rm) {ix a : Nat} (hd : decode cc pc = .ok (.invokespecial ix, 3)) (hl : Cond.methodLink own ix objectInit ∈ wsL_law) (hi : Cond.instanceMethod objectInit ∈ wsL_law) (hcd : Cond.code objectInit ⟨#[0xb1]⟩ 1 none ∈ wsL_law) (hfr : 1 ≤ rm.frames) (hlo : (st.map fun v => v.category).sum + 12 ≤ rm.locals) (hq : pc + 3 = q) (k : jJ X q lv (st) n M ce sl) : jJ X pc lv (.ref a :: st) n M ce sl := by
  obtain ⟨p, l, e, R, s, m, args, below, meth, c, Q, D, b0, nL⟩ := X
  obtain ⟨hx, hb, hml, hown, hts, hK, hb0, hR, hnm, hr, hlk⟩ := h
  intro H locs ls hH hS hL
  subst hq; subst hR
  refine W.objInit hx hb hown (hts _ hl) (hts _ hi) (hts _ hcd) rfl (by rw [hml]; exact hL.1) rfl hd hfr (by show 2 * 0 + _ + 12 ≤ _; omega) ?_
  exact k H locs ls hH hS hL

theorem jk_mmax {X : jX} {cc : ByteArray} {own nm : String} {ret : Option FieldType} {rm : Room} {pc q n ce sl : Nat} {lv : List (Option Value)} {st : List Value} {M : jM} (h : jB X cc own nm ret rm) {ix : Nat} {a b : Int} (hd : decode cc pc = .ok (.invokestatic ix, 3)) (hl : Cond.methodLink own ix Lib.Math.max.name ∈ wsL_law) (hs : Cond.static Lib.Math.max.name ∈ wsL_law) (hi : Cond.initialized "java/lang/Math" ∈ wsL_law) (hcd : Cond.code Lib.Math.max.name Lib.Math.max.code 2 (some .int) ∈ wsL_law) (hfr : 1 ≤ rm.frames) (hlo : (st.map fun v => v.category).sum + 13 ≤ rm.locals) (hce : ce ≤ rm.cells) (hsl : sl ≤ rm.slots) (ha : jRng a) (hb2 : jRng b) (hq : pc + 3 = q) (k : jJ X q lv (jI (if a < b then b else a) :: st) n M ce sl) : jJ X pc lv (jI b :: jI a :: st) n M ce sl := by
  obtain ⟨p, l, e, R, s, m, args, below, meth, c, Q, D, b0, nL⟩ := X
  obtain ⟨hx, hb, hml, hown, hts, hK, hb0, hR, hnm, hr, hlk⟩ := h
  intro H locs ls hH hS hL
  subst hq; subst hR
  refine va_mmax hx hb (hml.trans hL.1.symm) hown (hts _ hl) (hts _ hs) (hts _ hi) (hts _ hcd) hfr hlo hce hsl hd ?_
  have k := k H locs ls hH hS hL
  rwa [jI_max ha hb2] at k

theorem jk_mmin {X : jX} {cc : ByteArray} {own nm : String} {ret : Option FieldType} {rm : Room} {pc q n ce sl : Nat} {lv : List (Option Value)} {st : List Value} {M : jM} (h : jB X cc own nm ret rm) {ix : Nat} {a b : Int} (hd : decode cc pc = .ok (.invokestatic ix, 3)) (hl : Cond.methodLink own ix Lib.Math.min.name ∈ wsL_law) (hs : Cond.static Lib.Math.min.name ∈ wsL_law) (hi : Cond.initialized "java/lang/Math" ∈ wsL_law) (hcd : Cond.code Lib.Math.min.name Lib.Math.min.code 2 (some .int) ∈ wsL_law) (hfr : 1 ≤ rm.frames) (hlo : (st.map fun v => v.category).sum + 13 ≤ rm.locals) (hce : ce ≤ rm.cells) (hsl : sl ≤ rm.slots) (ha : jRng a) (hb2 : jRng b) (hq : pc + 3 = q) (k : jJ X q lv (jI (if b < a then b else a) :: st) n M ce sl) : jJ X pc lv (jI b :: jI a :: st) n M ce sl := by
  obtain ⟨p, l, e, R, s, m, args, below, meth, c, Q, D, b0, nL⟩ := X
  obtain ⟨hx, hb, hml, hown, hts, hK, hb0, hR, hnm, hr, hlk⟩ := h
  intro H locs ls hH hS hL
  subst hq; subst hR
  refine va_mmin hx hb (hml.trans hL.1.symm) hown (hts _ hl) (hts _ hs) (hts _ hi) (hts _ hcd) hfr hlo hce hsl hd ?_
  have k := k H locs ls hH hS hL
  rwa [jI_min ha hb2] at k

theorem jk_mabs {X : jX} {cc : ByteArray} {own nm : String} {ret : Option FieldType} {rm : Room} {pc q n ce sl : Nat} {lv : List (Option Value)} {st : List Value} {M : jM} (h : jB X cc own nm ret rm) {ix : Nat} {a : Int} (hd : decode cc pc = .ok (.invokestatic ix, 3)) (hl : Cond.methodLink own ix Lib.Math.abs.name ∈ wsL_law) (hs : Cond.static Lib.Math.abs.name ∈ wsL_law) (hi : Cond.initialized "java/lang/Math" ∈ wsL_law) (hcd : Cond.code Lib.Math.abs.name Lib.Math.abs.code 1 (some .int) ∈ wsL_law) (hfr : 1 ≤ rm.frames) (hlo : (st.map fun v => v.category).sum + 13 ≤ rm.locals) (hce : ce ≤ rm.cells) (hsl : sl ≤ rm.slots) (ha : jRng a) (hq : pc + 3 = q) (k : jJ X q lv (jI (if 0 ≤ a then a else -a) :: st) n M ce sl) : jJ X pc lv (jI a :: st) n M ce sl := by
  obtain ⟨p, l, e, R, s, m, args, below, meth, c, Q, D, b0, nL⟩ := X
  obtain ⟨hx, hb, hml, hown, hts, hK, hb0, hR, hnm, hr, hlk⟩ := h
  intro H locs ls hH hS hL
  subst hq; subst hR
  refine va_mabs hx hb (hml.trans hL.1.symm) hown (hts _ hl) (hts _ hs) (hts _ hi) (hts _ hcd) hfr hlo hce hsl hd ?_
  have k := k H locs ls hH hS hL
  rwa [jI_abs ha] at k

theorem jk_iret {X : jX} {cc : ByteArray} {own nm : String} {rm : Room} {pc n ce sl mc ms : Nat} {lv : List (Option Value)} {M : jM} {post : Option Value → Nat → jM → Prop} {a : Int} (h : jB X cc own nm (some .int) rm) (hR2 : jR X post mc ms) (hd : decode cc pc = .ok (.ireturn, 1)) (h1 : ce ≤ mc) (h2 : sl ≤ ms) (hp : post (some (jI a)) n M) : jJ X pc lv [jI a] n M ce sl := by
  obtain ⟨p, l, e, R, s, m, args, below, meth, c, Q, D, b0, nL⟩ := X
  obtain ⟨hx, hb, hml, hown, hts, hK, hb0, hR, hnm, hr, hlk⟩ := h
  intro H locs ls hH hS hL
  have hQ : Q = _ := hR2
  subst hQ
  refine W.widen h1 h2 ?_
  exact W.iret hx hb hr (fun t ht hW => ⟨⟨_, n, M, rfl, hp, (hH.moved hW.alike).heap ht⟩, hS.F ht⟩) hS.2.2 hd hlk

theorem jk_lret {X : jX} {cc : ByteArray} {own nm : String} {rm : Room} {pc n ce sl mc ms : Nat} {lv : List (Option Value)} {M : jM} {post : Option Value → Nat → jM → Prop} {a : Int64} (h : jB X cc own nm (some .long) rm) (hR2 : jR X post mc ms) (hd : decode cc pc = .ok (.lreturn, 1)) (h1 : ce ≤ mc) (h2 : sl ≤ ms) (hp : post (some (.long a)) n M) : jJ X pc lv [.long a] n M ce sl := by
  obtain ⟨p, l, e, R, s, m, args, below, meth, c, Q, D, b0, nL⟩ := X
  obtain ⟨hx, hb, hml, hown, hts, hK, hb0, hR, hnm, hr, hlk⟩ := h
  intro H locs ls hH hS hL
  have hQ : Q = _ := hR2
  subst hQ
  refine W.widen h1 h2 ?_
  exact W.lret hx hb hr (fun t ht hW => ⟨⟨_, n, M, rfl, hp, (hH.moved hW.alike).heap ht⟩, hS.F ht⟩) hS.2.2 hd hlk

theorem jk_fret {X : jX} {cc : ByteArray} {own nm : String} {rm : Room} {pc n ce sl mc ms : Nat} {lv : List (Option Value)} {M : jM} {post : Option Value → Nat → jM → Prop} {a : UInt32} (h : jB X cc own nm (some .float) rm) (hR2 : jR X post mc ms) (hd : decode cc pc = .ok (.freturn, 1)) (h1 : ce ≤ mc) (h2 : sl ≤ ms) (hp : post (some (.float a)) n M) : jJ X pc lv [.float a] n M ce sl := by
  obtain ⟨p, l, e, R, s, m, args, below, meth, c, Q, D, b0, nL⟩ := X
  obtain ⟨hx, hb, hml, hown, hts, hK, hb0, hR, hnm, hr, hlk⟩ := h
  intro H locs ls hH hS hL
  have hQ : Q = _ := hR2
  subst hQ
  refine W.widen h1 h2 ?_
  exact W.fret hx hb hr (fun t ht hW => ⟨⟨_, n, M, rfl, hp, (hH.moved hW.alike).heap ht⟩, hS.F ht⟩) hS.2.2 hd hlk

theorem jk_dret {X : jX} {cc : ByteArray} {own nm : String} {rm : Room} {pc n ce sl mc ms : Nat} {lv : List (Option Value)} {M : jM} {post : Option Value → Nat → jM → Prop} {a : UInt64} (h : jB X cc own nm (some .double) rm) (hR2 : jR X post mc ms) (hd : decode cc pc = .ok (.dreturn, 1)) (h1 : ce ≤ mc) (h2 : sl ≤ ms) (hp : post (some (.double a)) n M) : jJ X pc lv [.double a] n M ce sl := by
  obtain ⟨p, l, e, R, s, m, args, below, meth, c, Q, D, b0, nL⟩ := X
  obtain ⟨hx, hb, hml, hown, hts, hK, hb0, hR, hnm, hr, hlk⟩ := h
  intro H locs ls hH hS hL
  have hQ : Q = _ := hR2
  subst hQ
  refine W.widen h1 h2 ?_
  exact W.dret hx hb hr (fun t ht hW => ⟨⟨_, n, M, rfl, hp, (hH.moved hW.alike).heap ht⟩, hS.F ht⟩) hS.2.2 hd hlk

theorem jk_zret {X : jX} {cc : ByteArray} {own nm : String} {rm : Room} {pc n ce sl mc ms : Nat} {lv : List (Option Value)} {M : jM} {post : Option Value → Nat → jM → Prop} {a : Int} (h : jB X cc own nm (some .boolean) rm) (hR2 : jR X post mc ms) (hd : decode cc pc = .ok (.ireturn, 1)) (h1 : ce ≤ mc) (h2 : sl ≤ ms) (ha : a = 0 ∨ a = 1) (hp : post (some (jI a)) n M) : jJ X pc lv [jI a] n M ce sl := by
  obtain ⟨p, l, e, R, s, m, args, below, meth, c, Q, D, b0, nL⟩ := X
  obtain ⟨hx, hb, hml, hown, hts, hK, hb0, hR, hnm, hr, hlk⟩ := h
  intro H locs ls hH hS hL
  have hQ : Q = _ := hR2
  subst hQ
  refine W.widen h1 h2 ?_
  exact W.zret hx hb hr (jI_narZ ha) (fun t ht hW => ⟨⟨_, n, M, rfl, hp, (hH.moved hW.alike).heap ht⟩, hS.F ht⟩) hS.2.2 hd hlk

theorem jk_cret {X : jX} {cc : ByteArray} {own nm : String} {rm : Room} {pc n ce sl mc ms : Nat} {lv : List (Option Value)} {M : jM} {post : Option Value → Nat → jM → Prop} {a : Int} (h : jB X cc own nm (some .char) rm) (hR2 : jR X post mc ms) (hd : decode cc pc = .ok (.ireturn, 1)) (h1 : ce ≤ mc) (h2 : sl ≤ ms) (ha0 : 0 ≤ a) (ha1 : a < 65536) (hp : post (some (jI a)) n M) : jJ X pc lv [jI a] n M ce sl := by
  obtain ⟨p, l, e, R, s, m, args, below, meth, c, Q, D, b0, nL⟩ := X
  obtain ⟨hx, hb, hml, hown, hts, hK, hb0, hR, hnm, hr, hlk⟩ := h
  intro H locs ls hH hS hL
  have hQ : Q = _ := hR2
  subst hQ
  refine W.widen h1 h2 ?_
  exact W.zret hx hb hr (jI_narC ha0 ha1) (fun t ht hW => ⟨⟨_, n, M, rfl, hp, (hH.moved hW.alike).heap ht⟩, hS.F ht⟩) hS.2.2 hd hlk

theorem jk_vret {X : jX} {cc : ByteArray} {own nm : String} {rm : Room} {pc n ce sl mc ms : Nat} {lv : List (Option Value)} {M : jM} {post : Option Value → Nat → jM → Prop} (h : jB X cc own nm none rm) (hR2 : jR X post mc ms) (hd : decode cc pc = .ok (.return_, 1)) (h1 : ce ≤ mc) (h2 : sl ≤ ms) (hp : post none n M) : jJ X pc lv [] n M ce sl := by
  obtain ⟨p, l, e, R, s, m, args, below, meth, c, Q, D, b0, nL⟩ := X
  obtain ⟨hx, hb, hml, hown, hts, hK, hb0, hR, hnm, hr, hlk⟩ := h
  intro H locs ls hH hS hL
  have hQ : Q = _ := hR2
  subst hQ
  refine W.widen h1 h2 ?_
  exact W.vret hx hb hr (fun t ht hW => ⟨⟨_, n, M, rfl, hp, (hH.moved hW.alike).heap ht⟩, hS.F ht⟩) hS.2.2 hd hlk

theorem jk_aret {X : jX} {cc : ByteArray} {own nm C : String} {rm : Room} {pc n ce sl mc ms : Nat} {lv : List (Option Value)} {M : jM} {post : Option Value → Nat → jM → Prop} {a : Nat} (h : jB X cc own nm (some (.object C)) rm) (hR2 : jR X post mc ms) (hd : decode cc pc = .ok (.areturn, 1)) (h1 : ce ≤ mc) (h2 : sl ≤ ms) (hp : post (some (.ref a)) n M) : jJ X pc lv [.ref a] n M ce sl := by
  obtain ⟨p, l, e, R, s, m, args, below, meth, c, Q, D, b0, nL⟩ := X
  obtain ⟨hx, hb, hml, hown, hts, hK, hb0, hR, hnm, hr, hlk⟩ := h
  intro H locs ls hH hS hL
  have hQ : Q = _ := hR2
  subst hQ
  refine W.widen h1 h2 ?_
  exact W.aret hx hb hr (Or.inl ⟨C, rfl⟩) (Or.inr ⟨a, rfl⟩) (fun t ht hW => ⟨⟨_, n, M, rfl, hp, (hH.moved hW.alike).heap ht⟩, hS.F ht⟩) hS.2.2 hd hlk

theorem jk_callS {X : jX} {cc : ByteArray} {own nm : String} {ret : Option FieldType} {rm : Room} {pc q n ce sl : Nat} {lv : List (Option Value)} {st : List Value} {M : jM} (h : jB X cc own nm ret rm) {l9 : Launch} {D9 : va_G} {b9 : Nat} {y : MethodName} {c9 : ByteArray} {nL9 d9 d8 mc ms ix k9 : Nat} {ret9 : Option FieldType} {av rest : List Value} {post : Option Value → Nat → jM → Prop} (hX : jF X l9 D9 b9) (hc : jCtr l9 D9 b9 y c9 nL9 ret9 d9 mc ms (av) n M post) (hy : jMS y c9 nL9 ret9 k9) (hd : decode cc pc = .ok (.invokestatic ix, 3)) (hl : Cond.methodLink own ix y ∈ wsL_law) (hrm : rm.frames = d8 ∧ 33 * d8 ≤ rm.locals) (hdd : Nat.blt d9 d8 = true) (hn9 : Nat.ble nL9 14 = true) (hce : ce + mc ≤ rm.cells) (hsl : sl + ms ≤ rm.slots) (hav : av.length = k9) (hst : av.reverse ++ rest = st) (hcat : (rest.map fun v => v.category).sum ≤ 8) (hq : pc + 3 = q) (k : ∀ v n2 M2, post v n2 M2 → jJ X q lv (v.toList ++ rest) n2 M2 (ce + mc) (sl + ms)) : jJ X pc lv (st) n M ce sl := by
  obtain ⟨p, l, e, R, s, m, args, below, meth, c, Q, D, b0, nL⟩ := X
  obtain ⟨hx, hb, hml, hown, hts, hK, hb0, hR, hnm, hr, hlk⟩ := h
  intro H locs ls hH hS hL
  obtain ⟨hstat, hini, hcode, hy1, hy2, hy3⟩ := hy
  obtain ⟨rfl, rfl, rfl⟩ := hX
  subst hq; subst hst; subst hR
  have hroom : d9 + 1 ≤ R.frames ∧ 8 + (nL9 + 11) + 33 * d9 ≤ R.locals := by
    have h1 := Nat.le_of_ble_eq_true hdd
    have h2 := Nat.le_of_ble_eq_true hn9
    omega
  have hG : GoodIn wsL_law (Cond.code y c9 nL9 ret9 :: wsL_law) := jtGc hcode
  refine jk_run (va_runS (As := av) (n := k9) ⟨hx, hb, hml, hown, hts⟩ hc ⟨callB_of k9 hts hG rfl rfl rfl (hts _ hini) (hts _ hl) ⟨hy1, hy2, hy3⟩ hroom, hts _ hstat⟩ ⟨fun a U g mk z => ⟨z.1, z.2.1.call, z.2.2.1.call, z.2.2.2⟩, fun U hU hW => ⟨rfl, (hH.moved hW.alike).heap hU, hK.moved hW, by rw [hU]; exact Nat.le_trans hb0 hS.1⟩⟩ rfl hav hL.1 rfl (lv_room hcat) hd ⟨hce, hsl⟩) hS (fun v n2 M2 H1 locs1 hp hH1 hS1 => ?_)
  exact k v n2 M2 hp H1 locs1 ls hH1 hS1 hL

theorem jk_callV {X : jX} {cc : ByteArray} {own nm : String} {ret : Option FieldType} {rm : Room} {pc q n ce sl : Nat} {lv : List (Option Value)} {st : List Value} {M : jM} (h : jB X cc own nm ret rm) {o ci : Nat} {fs : List Value} {l9 : Launch} {D9 : va_G} {b9 : Nat} {y : MethodName} {c9 : ByteArray} {nL9 d9 d8 mc ms ix k9 : Nat} {ret9 : Option FieldType} {av rest : List Value} {post : Option Value → Nat → jM → Prop} (hX : jF X l9 D9 b9) (hc : jCtr l9 D9 b9 y c9 nL9 ret9 d9 mc ms (.ref o :: av) n M post) (hy : jMV y c9 nL9 ret9 k9 ci) (hM : M o = some (.inr (ci, fs))) (hd : decode cc pc = .ok (.invokevirtual ix, 3)) (hl : Cond.methodLink own ix y ∈ wsL_law) (hrm : rm.frames = d8 ∧ 33 * d8 ≤ rm.locals) (hdd : Nat.blt d9 d8 = true) (hn9 : Nat.ble nL9 14 = true) (hce : ce + mc ≤ rm.cells) (hsl : sl + ms ≤ rm.slots) (hav : av.length = k9) (hst : av.reverse ++ .ref o :: rest = st) (hcat : (rest.map fun v => v.category).sum ≤ 8) (hq : pc + 3 = q) (k : ∀ v n2 M2, post v n2 M2 → jJ X q lv (v.toList ++ rest) n2 M2 (ce + mc) (sl + ms)) : jJ X pc lv (st) n M ce sl := by
  obtain ⟨p, l, e, R, s, m, args, below, meth, c, Q, D, b0, nL⟩ := X
  obtain ⟨hx, hb, hml, hown, hts, hK, hb0, hR, hnm, hr, hlk⟩ := h
  intro H locs ls hH hS hL
  obtain ⟨hins, hsel, hini, hcode, hy1, hy2, hy3, r9, hr9, hr8⟩ := hy
  obtain ⟨rfl, rfl, rfl⟩ := hX
  subst hq; subst hst; subst hR
  have hroom : d9 + 1 ≤ R.frames ∧ 8 + (nL9 + 11) + 33 * d9 ≤ R.locals := by
    have h1 := Nat.le_of_ble_eq_true hdd
    have h2 := Nat.le_of_ble_eq_true hn9
    omega
  have hG : GoodIn wsL_law (Cond.code y c9 nL9 ret9 :: wsL_law) := jtGc hcode
  refine jk_run (va_runV (As := av) (n := k9) (C := y.cls) ⟨hx, hb, hml, hown, hts⟩ hc ⟨callB_of k9 hts hG rfl rfl rfl (hts _ hini) (hts _ hl) ⟨hy1, hy2, hy3⟩ hroom, hts _ hins, hts _ hsel⟩ ⟨fun a U g mk z => ⟨z.1, z.2.1.call, z.2.2.1.call, z.2.2.2⟩, hr8 ▸ va_recv hK.1 (hH.obj hM) hr9 (q0 := 0) rfl, fun U hU hW => ⟨rfl, (hH.moved hW.alike).heap hU, hK.moved hW, by rw [hU]; exact Nat.le_trans hb0 hS.1⟩⟩ rfl hav hL.1 rfl (lv_room hcat) hd ⟨hce, hsl⟩) hS (fun v n2 M2 H1 locs1 hp hH1 hS1 => ?_)
  exact k v n2 M2 hp H1 locs1 ls hH1 hS1 hL

theorem jk_callI {X : jX} {cc : ByteArray} {own nm : String} {ret : Option FieldType} {rm : Room} {pc q n ce sl : Nat} {lv : List (Option Value)} {st : List Value} {M : jM} (h : jB X cc own nm ret rm) {o : Nat} {l9 : Launch} {D9 : va_G} {b9 : Nat} {y : MethodName} {c9 : ByteArray} {nL9 d9 d8 mc ms ix k9 : Nat} {av rest : List Value} {post : Option Value → Nat → jM → Prop} (hX : jF X l9 D9 b9) (hc : jCtr l9 D9 b9 y c9 nL9 none d9 mc ms (.ref o :: av) n M post) (hy : jMI y c9 nL9 k9) (hd : decode cc pc = .ok (.invokespecial ix, 3)) (hl : Cond.methodLink own ix y ∈ wsL_law) (hrm : rm.frames = d8 ∧ 33 * d8 ≤ rm.locals) (hdd : Nat.blt d9 d8 = true) (hn9 : Nat.ble nL9 14 = true) (hce : ce + mc ≤ rm.cells) (hsl : sl + ms ≤ rm.slots) (hav : av.length = k9) (hst : av.reverse ++ .ref o :: rest = st) (hcat : (rest.map fun v => v.category).sum ≤ 8) (hq : pc + 3 = q) (k : ∀ v n2 M2, post v n2 M2 → jJ X q lv (v.toList ++ rest) n2 M2 (ce + mc) (sl + ms)) : jJ X pc lv (st) n M ce sl := by
  obtain ⟨p, l, e, R, s, m, args, below, meth, c, Q, D, b0, nL⟩ := X
  obtain ⟨hx, hb, hml, hown, hts, hK, hb0, hR, hnm, hr, hlk⟩ := h
  intro H locs ls hH hS hL
  obtain ⟨hins, hnam, hini, hcode, hy1, hy2, hy3⟩ := hy
  obtain ⟨rfl, rfl, rfl⟩ := hX
  subst hq; subst hst; subst hR
  have hroom : d9 + 1 ≤ R.frames ∧ 8 + (nL9 + 11) + 33 * d9 ≤ R.locals := by
    have h1 := Nat.le_of_ble_eq_true hdd
    have h2 := Nat.le_of_ble_eq_true hn9
    omega
  have hG : GoodIn wsL_law (Cond.code y c9 nL9 none :: wsL_law) := jtGc hcode
  refine jk_run (va_runI (As := av) (n := k9) ⟨hx, hb, hml, hown, hts⟩ hc ⟨callB_of k9 hts hG rfl rfl rfl (hts _ hini) (hts _ hl) ⟨hy1, hy2, hy3⟩ hroom, hnam, hts _ hins⟩ ⟨fun a U g mk z => ⟨z.1, z.2.1.call, z.2.2.1.call, z.2.2.2⟩, fun U hU hW => ⟨rfl, (hH.moved hW.alike).heap hU, hK.moved hW, by rw [hU]; exact Nat.le_trans hb0 hS.1⟩⟩ rfl hav hL.1 rfl (lv_room hcat) hd ⟨hce, hsl⟩) hS (fun v n2 M2 H1 locs1 hp hH1 hS1 => ?_)
  exact k v n2 M2 hp H1 locs1 ls hH1 hS1 hL

theorem jk_getN {X : jX} {cc : ByteArray} {own nm : String} {ret : Option FieldType} {rm : Room} {pc q n ce sl : Nat} {lv : List (Option Value)} {st : List Value} {M : jM} (h : jB X cc own nm ret rm) {ix ci kf o : Nat} {fs : List Value} {v : Value} (hf : jFGn own ix ci kf) (hd : decode cc pc = .ok (.getfield ix, 3)) (hM : M o = some (.inr (ci, fs))) (hv : fs[kf]? = some v) (hq : pc + 3 = q) (k : jJ X q lv (v :: st) n M ce sl) : jJ X pc lv (.ref o :: st) n M ce sl := by
  obtain ⟨p, l, e, R, s, m, args, below, meth, c, Q, D, b0, nL⟩ := X
  obtain ⟨hx, hb, hml, hown, hts, hK, hb0, hR, hnm, hr, hlk⟩ := h
  intro H locs ls hH hS hL
  subst hq
  obtain ⟨C, T, N, host, hC, hin, hlink, hkN⟩ := hf
  refine va_getN (D := D) (ci := ci) (T := T) hx hb hts hin hown hK.1 (ws := [(o, .inr (ci, fs))]) (hH.obj hM) 0 rfl hC kf hkN (va_Nw.use rfl (hK.2.2 _ hlink)) (fun _ h9 => h9) hv hd (k H locs ls hH hS hL)

theorem jk_putN {X : jX} {cc : ByteArray} {own nm : String} {ret : Option FieldType} {rm : Room} {pc q n ce sl : Nat} {lv : List (Option Value)} {st : List Value} {M : jM} (h : jB X cc own nm ret rm) {ix ci kf o : Nat} {fs : List Value} {v : Value} (hf : jFPn own ix ci kf v) (hd : decode cc pc = .ok (.putfield ix, 3)) (hM : M o = some (.inr (ci, fs))) (hlt : kf < fs.length) (hq : pc + 3 = q) (k : ∀ M2, jst M M2 o (.inr (ci, fs.set kf v)) → jJ X q lv st n M2 ce sl) : jJ X pc lv (v :: .ref o :: st) n M ce sl := by
  obtain ⟨p, l, e, R, s, m, args, below, meth, c, Q, D, b0, nL⟩ := X
  obtain ⟨hx, hb, hml, hown, hts, hK, hb0, hR, hnm, hr, hlk⟩ := h
  intro H locs ls hH hS hL
  subst hq
  obtain ⟨C, T, N, ty0, ty, host, hC, hin, hlink, hkN, hty, hnm2, hfin, hdsc⟩ := hf
  obtain ⟨hbo, r, hr1, cell, q1, q2, q3, q4⟩ := hH.2 _ _ hM
  have hrr : r = (C, T, N) := Option.some.inj (hr1.symm.trans hC)
  subst hrr
  have hap := va_apart (own := own) hts hin ty0 hty hnm2 hK.1 hC
  obtain ⟨hSl, hfc, kC, hkC, hkind⟩ := hK.1.1 ci _ hC
  obtain ⟨cf, kf2, fi, f, hi, hsl⟩ := hSl kf hkN
  have hlay := hts _ (hin _ (u_in_lay hkN))
  unfold u_lay at hlay
  rw [if_neg (by rw [hfin]; decide)] at hlay
  have h6 := u_store hfc hkC hkind hlay hi hdsc.1 hdsc.2.1 hdsc.2.2
  have hst := (u_facts hfc hkC (u_lays hts hin hkN) hi).1
  refine va_WputK hx hb (f := f) hown (va_Nw.use rfl (hK.2.2 _ hlink)) hi hst (by rw [q2]; exact h6) q1 q3 (by rw [hsl]; exact k2_hasslot (q4 kf hkN)) rfl rfl hd (fun H1 e1 e2 e3 => ?_)
  rw [hsl] at e1 ⊢
  exact k _ (jst_up M o _) H1 _ ls (hH.put hM e2 e3 ⟨_, hC, t_OB.to (V := updV (vp_V fs) kf v) ⟨_, e1, q2, q3, t_set q4 hap hkN v⟩ (fun j _ => vp_updV_set hlt v j)⟩) (hS.put e2 e3 hbo) hL

theorem jk_callSN {X : jX} {cc : ByteArray} {own nm : String} {ret : Option FieldType} {rm : Room} {pc q n ce sl : Nat} {lv : List (Option Value)} {st : List Value} {M : jM} (h : jB X cc own nm ret rm) {l9 : Launch} {D9 : va_G} {b9 : Nat} {y : MethodName} {c9 : ByteArray} {nL9 d9 d8 mc ms ix k9 : Nat} {ret9 : Option FieldType} {av rest : List Value} {post : Option Value → Nat → jM → Prop} (hX : jF X l9 D9 b9) (hc : jCtr l9 D9 b9 y c9 nL9 ret9 d9 mc ms (av) n M post) (hy : jMS y c9 nL9 ret9 k9) (hd : decode cc pc = .ok (.invokestatic ix, 3)) {host : String} (hl : Cond.methodLinkNest own ix y host ∈ jNest) (hrm : rm.frames = d8 ∧ 33 * d8 ≤ rm.locals) (hdd : Nat.blt d9 d8 = true) (hn9 : Nat.ble nL9 14 = true) (hce : ce + mc ≤ rm.cells) (hsl : sl + ms ≤ rm.slots) (hav : av.length = k9) (hst : av.reverse ++ rest = st) (hcat : (rest.map fun v => v.category).sum ≤ 8) (hq : pc + 3 = q) (k : ∀ v n2 M2, post v n2 M2 → jJ X q lv (v.toList ++ rest) n2 M2 (ce + mc) (sl + ms)) : jJ X pc lv (st) n M ce sl := by
  obtain ⟨p, l, e, R, s, m, args, below, meth, c, Q, D, b0, nL⟩ := X
  obtain ⟨hx, hb, hml, hown, hts, hK, hb0, hR, hnm, hr, hlk⟩ := h
  intro H locs ls hH hS hL
  obtain ⟨hstat, hini, hcode, hy1, hy2, hy3⟩ := hy
  obtain ⟨rfl, rfl, rfl⟩ := hX
  subst hq; subst hst; subst hR
  have hroom : d9 + 1 ≤ R.frames ∧ 8 + (nL9 + 11) + 33 * d9 ≤ R.locals := by
    have h1 := Nat.le_of_ble_eq_true hdd
    have h2 := Nat.le_of_ble_eq_true hn9
    omega
  have hG : GoodIn wsL_law (Cond.code y c9 nL9 ret9 :: wsL_law) := jtGc hcode
  refine jk_run (va_runSN (As := av) (n := k9) ⟨hx, hb, hml, hown, hts⟩ hc ⟨va_cnB k9 hts hG rfl rfl rfl (hK.2.2 _ hl) (hts _ hini) ⟨hy1, hy2, hy3⟩ hroom, hts _ hstat, trivial⟩ ⟨fun a U g mk z => ⟨z.1, z.2.1.call, z.2.2.1.call, z.2.2.2⟩, fun U hU hW => ⟨rfl, (hH.moved hW.alike).heap hU, hK.moved hW, by rw [hU]; exact Nat.le_trans hb0 hS.1⟩⟩ rfl hav hL.1 rfl (lv_room hcat) hd ⟨hce, hsl⟩) hS (fun v n2 M2 H1 locs1 hp hH1 hS1 => ?_)
  exact k v n2 M2 hp H1 locs1 ls hH1 hS1 hL

theorem jk_callVN {X : jX} {cc : ByteArray} {own nm : String} {ret : Option FieldType} {rm : Room} {pc q n ce sl : Nat} {lv : List (Option Value)} {st : List Value} {M : jM} (h : jB X cc own nm ret rm) {o ci : Nat} {fs : List Value} {l9 : Launch} {D9 : va_G} {b9 : Nat} {y : MethodName} {c9 : ByteArray} {nL9 d9 d8 mc ms ix k9 : Nat} {ret9 : Option FieldType} {av rest : List Value} {post : Option Value → Nat → jM → Prop} (hX : jF X l9 D9 b9) (hc : jCtr l9 D9 b9 y c9 nL9 ret9 d9 mc ms (.ref o :: av) n M post) (hy : jMV y c9 nL9 ret9 k9 ci) (hM : M o = some (.inr (ci, fs))) (hd : decode cc pc = .ok (.invokevirtual ix, 3)) {host : String} (hl : Cond.methodLinkNest own ix y host ∈ jNest) (hrm : rm.frames = d8 ∧ 33 * d8 ≤ rm.locals) (hdd : Nat.blt d9 d8 = true) (hn9 : Nat.ble nL9 14 = true) (hce : ce + mc ≤ rm.cells) (hsl : sl + ms ≤ rm.slots) (hav : av.length = k9) (hst : av.reverse ++ .ref o :: rest = st) (hcat : (rest.map fun v => v.category).sum ≤ 8) (hq : pc + 3 = q) (k : ∀ v n2 M2, post v n2 M2 → jJ X q lv (v.toList ++ rest) n2 M2 (ce + mc) (sl + ms)) : jJ X pc lv (st) n M ce sl := by
  obtain ⟨p, l, e, R, s, m, args, below, meth, c, Q, D, b0, nL⟩ := X
  obtain ⟨hx, hb, hml, hown, hts, hK, hb0, hR, hnm, hr, hlk⟩ := h
  intro H locs ls hH hS hL
  obtain ⟨hins, hsel, hini, hcode, hy1, hy2, hy3, r9, hr9, hr8⟩ := hy
  obtain ⟨rfl, rfl, rfl⟩ := hX
  subst hq; subst hst; subst hR
  have hroom : d9 + 1 ≤ R.frames ∧ 8 + (nL9 + 11) + 33 * d9 ≤ R.locals := by
    have h1 := Nat.le_of_ble_eq_true hdd
    have h2 := Nat.le_of_ble_eq_true hn9
    omega
  have hG : GoodIn wsL_law (Cond.code y c9 nL9 ret9 :: wsL_law) := jtGc hcode
  refine jk_run (va_runVN (As := av) (n := k9) (C := y.cls) ⟨hx, hb, hml, hown, hts⟩ hc ⟨va_cnB k9 hts hG rfl rfl rfl (hK.2.2 _ hl) (hts _ hini) ⟨hy1, hy2, hy3⟩ hroom, hts _ hins, hts _ hsel⟩ ⟨fun a U g mk z => ⟨z.1, z.2.1.call, z.2.2.1.call, z.2.2.2⟩, hr8 ▸ va_recv hK.1 (hH.obj hM) hr9 (q0 := 0) rfl, fun U hU hW => ⟨rfl, (hH.moved hW.alike).heap hU, hK.moved hW, by rw [hU]; exact Nat.le_trans hb0 hS.1⟩⟩ rfl hav hL.1 rfl (lv_room hcat) hd ⟨hce, hsl⟩) hS (fun v n2 M2 H1 locs1 hp hH1 hS1 => ?_)
  exact k v n2 M2 hp H1 locs1 ls hH1 hS1 hL

theorem jk_callIN {X : jX} {cc : ByteArray} {own nm : String} {ret : Option FieldType} {rm : Room} {pc q n ce sl : Nat} {lv : List (Option Value)} {st : List Value} {M : jM} (h : jB X cc own nm ret rm) {o : Nat} {l9 : Launch} {D9 : va_G} {b9 : Nat} {y : MethodName} {c9 : ByteArray} {nL9 d9 d8 mc ms ix k9 : Nat} {av rest : List Value} {post : Option Value → Nat → jM → Prop} (hX : jF X l9 D9 b9) (hc : jCtr l9 D9 b9 y c9 nL9 none d9 mc ms (.ref o :: av) n M post) (hy : jMI y c9 nL9 k9) (hd : decode cc pc = .ok (.invokespecial ix, 3)) {host : String} (hl : Cond.methodLinkNest own ix y host ∈ jNest) (hrm : rm.frames = d8 ∧ 33 * d8 ≤ rm.locals) (hdd : Nat.blt d9 d8 = true) (hn9 : Nat.ble nL9 14 = true) (hce : ce + mc ≤ rm.cells) (hsl : sl + ms ≤ rm.slots) (hav : av.length = k9) (hst : av.reverse ++ .ref o :: rest = st) (hcat : (rest.map fun v => v.category).sum ≤ 8) (hq : pc + 3 = q) (k : ∀ v n2 M2, post v n2 M2 → jJ X q lv (v.toList ++ rest) n2 M2 (ce + mc) (sl + ms)) : jJ X pc lv (st) n M ce sl := by
  obtain ⟨p, l, e, R, s, m, args, below, meth, c, Q, D, b0, nL⟩ := X
  obtain ⟨hx, hb, hml, hown, hts, hK, hb0, hR, hnm, hr, hlk⟩ := h
  intro H locs ls hH hS hL
  obtain ⟨hins, hnam, hini, hcode, hy1, hy2, hy3⟩ := hy
  obtain ⟨rfl, rfl, rfl⟩ := hX
  subst hq; subst hst; subst hR
  have hroom : d9 + 1 ≤ R.frames ∧ 8 + (nL9 + 11) + 33 * d9 ≤ R.locals := by
    have h1 := Nat.le_of_ble_eq_true hdd
    have h2 := Nat.le_of_ble_eq_true hn9
    omega
  have hG : GoodIn wsL_law (Cond.code y c9 nL9 none :: wsL_law) := jtGc hcode
  refine jk_run (va_runIN (As := av) (n := k9) ⟨hx, hb, hml, hown, hts⟩ hc ⟨va_cnB k9 hts hG rfl rfl rfl (hK.2.2 _ hl) (hts _ hini) ⟨hy1, hy2, hy3⟩ hroom, hnam, hts _ hins⟩ ⟨fun a U g mk z => ⟨z.1, z.2.1.call, z.2.2.1.call, z.2.2.2⟩, fun U hU hW => ⟨rfl, (hH.moved hW.alike).heap hU, hK.moved hW, by rw [hU]; exact Nat.le_trans hb0 hS.1⟩⟩ rfl hav hL.1 rfl (lv_room hcat) hd ⟨hce, hsl⟩) hS (fun v n2 M2 H1 locs1 hp hH1 hS1 => ?_)
  exact k v n2 M2 hp H1 locs1 ls hH1 hS1 hL
end
section
theorem ilX0 : ∀ w ∈ wsX00, w ∈ wsL_law := by
  intro w h
  obtain ⟨k, hk, rfl⟩ := List.mem_map.mp h
  have hk := List.mem_range.mp hk
  rcases (show k = 0 ∨ k = 1 ∨ k = 2 ∨ k = 3 ∨ k = 4 by omega) with rfl | rfl | rfl | rfl | rfl
  · exact kwm 122 (by decide +kernel) (by decide +kernel)
  · exact kwm 124 (by decide +kernel) (by decide +kernel)
  · exact kwm 126 (by decide +kernel) (by decide +kernel)
  · exact kwm 128 (by decide +kernel) (by decide +kernel)
  · exact kwm 130 (by decide +kernel) (by decide +kernel)
theorem ilX2 : ∀ w ∈ wsX20, w ∈ wsL_law := by
  intro w h
  obtain ⟨k, hk, rfl⟩ := List.mem_map.mp h
  have hk := List.mem_range.mp hk
  rcases (show k = 0 ∨ k = 1 ∨ k = 2 ∨ k = 3 ∨ k = 4 ∨ k = 5 ∨ k = 6 ∨ k = 7 ∨ k = 8 by omega) with rfl | rfl | rfl | rfl | rfl | rfl | rfl | rfl | rfl
  · exact kwm 74 (by decide +kernel) (by decide +kernel)
  · exact kwm 76 (by decide +kernel) (by decide +kernel)
  · exact kwm 78 (by decide +kernel) (by decide +kernel)
  · exact kwm 80 (by decide +kernel) (by decide +kernel)
  · exact kwm 82 (by decide +kernel) (by decide +kernel)
  · exact kwm 84 (by decide +kernel) (by decide +kernel)
  · exact kwm 86 (by decide +kernel) (by decide +kernel)
  · exact kwm 88 (by decide +kernel) (by decide +kernel)
  · exact kwm 90 (by decide +kernel) (by decide +kernel)
theorem ilX3 : ∀ w ∈ wsX30, w ∈ wsL_law := by
  intro w h
  obtain ⟨k, hk, rfl⟩ := List.mem_map.mp h
  have hk := List.mem_range.mp hk
  rcases (show k = 0 ∨ k = 1 ∨ k = 2 by omega) with rfl | rfl | rfl
  · exact kwm 157 (by decide +kernel) (by decide +kernel)
  · exact kwm 159 (by decide +kernel) (by decide +kernel)
  · exact kwm 161 (by decide +kernel) (by decide +kernel)
theorem ilX4 : ∀ w ∈ wsX40, w ∈ wsL_law := by
  intro w h
  obtain ⟨k, hk, rfl⟩ := List.mem_map.mp h
  have hk := List.mem_range.mp hk
  rcases (show k = 0 ∨ k = 1 by omega) with rfl | rfl
  · exact kwm 174 (by decide +kernel) (by decide +kernel)
  · exact kwm 176 (by decide +kernel) (by decide +kernel)
theorem ilX5 : ∀ w ∈ wsX50, w ∈ wsL_law := by
  intro w h
  obtain ⟨k, hk, rfl⟩ := List.mem_map.mp h
  have hk := List.mem_range.mp hk
  rcases (show k = 0 ∨ k = 1 ∨ k = 2 ∨ k = 3 by omega) with rfl | rfl | rfl | rfl
  · exact kwm 104 (by decide +kernel) (by decide +kernel)
  · exact kwm 106 (by decide +kernel) (by decide +kernel)
  · exact kwm 108 (by decide +kernel) (by decide +kernel)
  · exact kwm 110 (by decide +kernel) (by decide +kernel)
theorem ilX6 : ∀ w ∈ wsX60, w ∈ wsL_law := by
  intro w h
  obtain ⟨k, hk, rfl⟩ := List.mem_map.mp h
  have hk := List.mem_range.mp hk
  rcases (show k = 0 ∨ k = 1 ∨ k = 2 ∨ k = 3 ∨ k = 4 ∨ k = 5 by omega) with rfl | rfl | rfl | rfl | rfl | rfl
  · exact kwm 196 (by decide +kernel) (by decide +kernel)
  · exact kwm 198 (by decide +kernel) (by decide +kernel)
  · exact kwm 200 (by decide +kernel) (by decide +kernel)
  · exact kwm 202 (by decide +kernel) (by decide +kernel)
  · exact kwm 204 (by decide +kernel) (by decide +kernel)
  · exact kwm 206 (by decide +kernel) (by decide +kernel)
theorem ilX7 : ∀ w ∈ wsX70, w ∈ wsL_law := by
  intro w h
  obtain ⟨k, hk, rfl⟩ := List.mem_map.mp h
  have hk := List.mem_range.mp hk
  rcases (show k = 0 ∨ k = 1 ∨ k = 2 by omega) with rfl | rfl | rfl
  · exact kwm 138 (by decide +kernel) (by decide +kernel)
  · exact kwm 140 (by decide +kernel) (by decide +kernel)
  · exact kwm 142 (by decide +kernel) (by decide +kernel)
theorem ilX8 : ∀ w ∈ wsX80, w ∈ wsL_law := by
  intro w h
  obtain ⟨k, hk, rfl⟩ := List.mem_map.mp h
  have hk := List.mem_range.mp hk
  rcases (show k = 0 ∨ k = 1 ∨ k = 2 by omega) with rfl | rfl | rfl
  · exact kwm 43 (by decide +kernel) (by decide +kernel)
  · exact kwm 45 (by decide +kernel) (by decide +kernel)
  · exact kwm 47 (by decide +kernel) (by decide +kernel)
theorem ilX9 : ∀ w ∈ wsX90, w ∈ wsL_law := by
  intro w h
  obtain ⟨k, hk, rfl⟩ := List.mem_map.mp h
  have hk := List.mem_range.mp hk
  rcases (show k = 0 ∨ k = 1 ∨ k = 2 ∨ k = 3 ∨ k = 4 ∨ k = 5 by omega) with rfl | rfl | rfl | rfl | rfl | rfl
  · exact kwm 217 (by decide +kernel) (by decide +kernel)
  · exact kwm 219 (by decide +kernel) (by decide +kernel)
  · exact kwm 221 (by decide +kernel) (by decide +kernel)
  · exact kwm 223 (by decide +kernel) (by decide +kernel)
  · exact kwm 225 (by decide +kernel) (by decide +kernel)
  · exact kwm 227 (by decide +kernel) (by decide +kernel)
theorem ilX10 : ∀ w ∈ wsX100, w ∈ wsL_law := by
  intro w h
  obtain ⟨k, hk, rfl⟩ := List.mem_map.mp h
  have hk := List.mem_range.mp hk
  rcases (show k = 0 ∨ k = 1 ∨ k = 2 ∨ k = 3 ∨ k = 4 ∨ k = 5 ∨ k = 6 ∨ k = 7 ∨ k = 8 ∨ k = 9 ∨ k = 10 ∨ k = 11 by omega) with rfl | rfl | rfl | rfl | rfl | rfl | rfl | rfl | rfl | rfl | rfl | rfl
  · exact kwm 669 (by decide +kernel) (by decide +kernel)
  · exact kwm 671 (by decide +kernel) (by decide +kernel)
  · exact kwm 673 (by decide +kernel) (by decide +kernel)
  · exact kwm 675 (by decide +kernel) (by decide +kernel)
  · exact kwm 677 (by decide +kernel) (by decide +kernel)
  · exact kwm 679 (by decide +kernel) (by decide +kernel)
  · exact kwm 681 (by decide +kernel) (by decide +kernel)
  · exact kwm 683 (by decide +kernel) (by decide +kernel)
  · exact kwm 685 (by decide +kernel) (by decide +kernel)
  · exact kwm 687 (by decide +kernel) (by decide +kernel)
  · exact kwm 689 (by decide +kernel) (by decide +kernel)
  · exact kwm 691 (by decide +kernel) (by decide +kernel)
theorem ms_Jxe99ae_doubleToLongBits_ccdee : jMS yJxe99ae_doubleToLongBits_ccdee cJxe99ae_doubleToLongBits_ccdee 2 (some .long) 1 := ⟨(kwm 776 (by decide +kernel) (by decide +kernel)), (kwm 14 (by decide +kernel) (by decide +kernel)), (kwm 777 (by decide +kernel) (by decide +kernel)), (by decide +kernel), (by decide +kernel), (by decide +kernel)⟩
theorem ms_Jxe99ae_isNaN_b9ae7 : jMS yJxe99ae_isNaN_b9ae7 cJxe99ae_isNaN_b9ae7 2 (some .boolean) 1 := ⟨(kwm 779 (by decide +kernel) (by decide +kernel)), (kwm 14 (by decide +kernel) (by decide +kernel)), (kwm 780 (by decide +kernel) (by decide +kernel)), (by decide +kernel), (by decide +kernel), (by decide +kernel)⟩
theorem ms_Jxf58ca_floatToIntBits_5c35a : jMS yJxf58ca_floatToIntBits_5c35a cJxf58ca_floatToIntBits_5c35a 1 (some .int) 1 := ⟨(kwm 761 (by decide +kernel) (by decide +kernel)), (kwm 13 (by decide +kernel) (by decide +kernel)), (kwm 762 (by decide +kernel) (by decide +kernel)), (by decide +kernel), (by decide +kernel), (by decide +kernel)⟩
theorem ms_Jxf58ca_isNaN_12338 : jMS yJxf58ca_isNaN_12338 cJxf58ca_isNaN_12338 1 (some .boolean) 1 := ⟨(kwm 764 (by decide +kernel) (by decide +kernel)), (kwm 13 (by decide +kernel) (by decide +kernel)), (kwm 765 (by decide +kernel) (by decide +kernel)), (by decide +kernel), (by decide +kernel), (by decide +kernel)⟩
theorem mv_X0_copyFrom : jMV yX0_copyFrom cX0_copyFrom 2 none 1 0 := ⟨(kwm 252 (by decide +kernel) (by decide +kernel)), (kwm 253 (by decide +kernel) (by decide +kernel)), (kwm 4 (by decide +kernel) (by decide +kernel)), (kwm 254 (by decide +kernel) (by decide +kernel)), (by decide +kernel), (by decide +kernel), (by decide +kernel), (RX0, TX0, 5), rfl, rfl⟩
theorem mv_X0_facts : jMV yX0_facts cX0_facts 2 (some (.object "EqualHeights$ColumnFacts")) 1 0 := ⟨(kwm 417 (by decide +kernel) (by decide +kernel)), (kwm 418 (by decide +kernel) (by decide +kernel)), (kwm 4 (by decide +kernel) (by decide +kernel)), (kwm 419 (by decide +kernel) (by decide +kernel)), (by decide +kernel), (by decide +kernel), (by decide +kernel), (RX0, TX0, 5), rfl, rfl⟩
theorem mv_X0_guessBoth : jMV yX0_guessBoth cX0_guessBoth 11 (some .int) 4 0 := ⟨(kwm 501 (by decide +kernel) (by decide +kernel)), (kwm 502 (by decide +kernel) (by decide +kernel)), (kwm 4 (by decide +kernel) (by decide +kernel)), (kwm 503 (by decide +kernel) (by decide +kernel)), (by decide +kernel), (by decide +kernel), (by decide +kernel), (RX0, TX0, 5), rfl, rfl⟩
theorem mi_X0_init : jMI yX0_init cX0_init 1 0 := ⟨(kwm 54 (by decide +kernel) (by decide +kernel)), rfl, (kwm 4 (by decide +kernel) (by decide +kernel)), (kwm 55 (by decide +kernel) (by decide +kernel)), (by decide +kernel), (by decide +kernel), (by decide +kernel)⟩
theorem mv_X0_isMade : jMV yX0_isMade cX0_isMade 1 (some .boolean) 0 0 := ⟨(kwm 312 (by decide +kernel) (by decide +kernel)), (kwm 313 (by decide +kernel) (by decide +kernel)), (kwm 4 (by decide +kernel) (by decide +kernel)), (kwm 314 (by decide +kernel) (by decide +kernel)), (by decide +kernel), (by decide +kernel), (by decide +kernel), (RX0, TX0, 5), rfl, rfl⟩
theorem mv_X0_isStale : jMV yX0_isStale cX0_isStale 2 (some .boolean) 1 0 := ⟨(kwm 451 (by decide +kernel) (by decide +kernel)), (kwm 452 (by decide +kernel) (by decide +kernel)), (kwm 4 (by decide +kernel) (by decide +kernel)), (kwm 453 (by decide +kernel) (by decide +kernel)), (by decide +kernel), (by decide +kernel), (by decide +kernel), (RX0, TX0, 5), rfl, rfl⟩
theorem mv_X0_learn : jMV yX0_learn cX0_learn 5 none 4 0 := ⟨(kwm 345 (by decide +kernel) (by decide +kernel)), (kwm 346 (by decide +kernel) (by decide +kernel)), (kwm 4 (by decide +kernel) (by decide +kernel)), (kwm 347 (by decide +kernel) (by decide +kernel)), (by decide +kernel), (by decide +kernel), (by decide +kernel), (RX0, TX0, 5), rfl, rfl⟩
theorem mv_X0_noteChange : jMV yX0_noteChange cX0_noteChange 1 none 0 0 := ⟨(kwm 308 (by decide +kernel) (by decide +kernel)), (kwm 309 (by decide +kernel) (by decide +kernel)), (kwm 4 (by decide +kernel) (by decide +kernel)), (kwm 310 (by decide +kernel) (by decide +kernel)), (by decide +kernel), (by decide +kernel), (by decide +kernel), (RX0, TX0, 5), rfl, rfl⟩
theorem mv_X10_analyse : jMV yX10_analyse cX10_analyse 1 (some .int) 0 9 := ⟨(kwm 859 (by decide +kernel) (by decide +kernel)), (kwm 860 (by decide +kernel) (by decide +kernel)), (kwm 10 (by decide +kernel) (by decide +kernel)), (kwm 861 (by decide +kernel) (by decide +kernel)), (by decide +kernel), (by decide +kernel), (by decide +kernel), (RX10, TX10, 12), rfl, rfl⟩
theorem mv_X10_analyses : jMV yX10_analyses cX10_analyses 3 none 1 9 := ⟨(kwm 804 (by decide +kernel) (by decide +kernel)), (kws 21 (by decide +kernel) (by decide +kernel)), (kwm 10 (by decide +kernel) (by decide +kernel)), (kwm 805 (by decide +kernel) (by decide +kernel)), (by decide +kernel), (by decide +kernel), (by decide +kernel), (RX10, TX10, 12), rfl, rfl⟩
theorem ms_X10_areBounds : jMS yX10_areBounds cX10_areBounds 2 (some .boolean) 2 := ⟨(kwm 725 (by decide +kernel) (by decide +kernel)), (kwm 10 (by decide +kernel) (by decide +kernel)), (kwm 726 (by decide +kernel) (by decide +kernel)), (by decide +kernel), (by decide +kernel), (by decide +kernel)⟩
theorem mv_X10_both : jMV yX10_both cX10_both 8 (some .int) 5 9 := ⟨(kwm 745 (by decide +kernel) (by decide +kernel)), (kwm 746 (by decide +kernel) (by decide +kernel)), (kwm 10 (by decide +kernel) (by decide +kernel)), (kwm 747 (by decide +kernel) (by decide +kernel)), (by decide +kernel), (by decide +kernel), (by decide +kernel), (RX10, TX10, 12), rfl, rfl⟩
theorem mv_X10_bothOf : jMV yX10_bothOf cX10_bothOf 9 (some .int) 4 9 := ⟨(kwm 750 (by decide +kernel) (by decide +kernel)), (kws 19 (by decide +kernel) (by decide +kernel)), (kwm 10 (by decide +kernel) (by decide +kernel)), (kwm 751 (by decide +kernel) (by decide +kernel)), (by decide +kernel), (by decide +kernel), (by decide +kernel), (RX10, TX10, 12), rfl, rfl⟩
theorem mv_X10_bucket : jMV yX10_bucket cX10_bucket 4 (some .int) 3 9 := ⟨(kwm 867 (by decide +kernel) (by decide +kernel)), (kwm 868 (by decide +kernel) (by decide +kernel)), (kwm 10 (by decide +kernel) (by decide +kernel)), (kwm 869 (by decide +kernel) (by decide +kernel)), (by decide +kernel), (by decide +kernel), (by decide +kernel), (RX10, TX10, 12), rfl, rfl⟩
theorem ms_X10_byteOf : jMS yX10_byteOf cX10_byteOf 3 (some .int) 2 := ⟨(kwm 890 (by decide +kernel) (by decide +kernel)), (kwm 10 (by decide +kernel) (by decide +kernel)), (kwm 891 (by decide +kernel) (by decide +kernel)), (by decide +kernel), (by decide +kernel), (by decide +kernel)⟩
theorem mv_X10_carryOut : jMV yX10_carryOut cX10_carryOut 2 (some .int) 0 9 := ⟨(kwm 926 (by decide +kernel) (by decide +kernel)), (kwm 927 (by decide +kernel) (by decide +kernel)), (kwm 10 (by decide +kernel) (by decide +kernel)), (kwm 928 (by decide +kernel) (by decide +kernel)), (by decide +kernel), (by decide +kernel), (by decide +kernel), (RX10, TX10, 12), rfl, rfl⟩
theorem mv_X10_chooses : jMV yX10_chooses cX10_chooses 6 none 2 9 := ⟨(kwm 808 (by decide +kernel) (by decide +kernel)), (kws 22 (by decide +kernel) (by decide +kernel)), (kwm 10 (by decide +kernel) (by decide +kernel)), (kwm 809 (by decide +kernel) (by decide +kernel)), (by decide +kernel), (by decide +kernel), (by decide +kernel), (RX10, TX10, 12), rfl, rfl⟩
theorem mv_X10_comeOften : jMV yX10_comeOften cX10_comeOften 5 (some .boolean) 3 9 := ⟨(kwm 935 (by decide +kernel) (by decide +kernel)), (kws 36 (by decide +kernel) (by decide +kernel)), (kwm 10 (by decide +kernel) (by decide +kernel)), (kwm 936 (by decide +kernel) (by decide +kernel)), (by decide +kernel), (by decide +kernel), (by decide +kernel), (RX10, TX10, 12), rfl, rfl⟩
theorem mv_X10_comes : jMV yX10_comes cX10_comes 3 (some .int) 2 9 := ⟨(kwm 844 (by decide +kernel) (by decide +kernel)), (kws 26 (by decide +kernel) (by decide +kernel)), (kwm 10 (by decide +kernel) (by decide +kernel)), (kwm 845 (by decide +kernel) (by decide +kernel)), (by decide +kernel), (by decide +kernel), (by decide +kernel), (RX10, TX10, 12), rfl, rfl⟩
theorem mv_X10_common : jMV yX10_common cX10_common 4 (some .int) 3 9 := ⟨(kwm 871 (by decide +kernel) (by decide +kernel)), (kwm 872 (by decide +kernel) (by decide +kernel)), (kwm 10 (by decide +kernel) (by decide +kernel)), (kwm 873 (by decide +kernel) (by decide +kernel)), (by decide +kernel), (by decide +kernel), (by decide +kernel), (RX10, TX10, 12), rfl, rfl⟩
theorem mv_X10_count : jMV yX10_count cX10_count 3 (some .int) 1 9 := ⟨(kwm 879 (by decide +kernel) (by decide +kernel)), (kwm 880 (by decide +kernel) (by decide +kernel)), (kwm 10 (by decide +kernel) (by decide +kernel)), (kwm 881 (by decide +kernel) (by decide +kernel)), (by decide +kernel), (by decide +kernel), (by decide +kernel), (RX10, TX10, 12), rfl, rfl⟩
theorem mv_X10_cuts : jMV yX10_cuts cX10_cuts 10 none 2 9 := ⟨(kwm 812 (by decide +kernel) (by decide +kernel)), (kws 23 (by decide +kernel) (by decide +kernel)), (kwm 10 (by decide +kernel) (by decide +kernel)), (kwm 813 (by decide +kernel) (by decide +kernel)), (by decide +kernel), (by decide +kernel), (by decide +kernel), (RX10, TX10, 12), rfl, rfl⟩
theorem mv_X10_does : jMV yX10_does cX10_does 6 (some .boolean) 1 9 := ⟨(kwm 931 (by decide +kernel) (by decide +kernel)), (kws 35 (by decide +kernel) (by decide +kernel)), (kwm 10 (by decide +kernel) (by decide +kernel)), (kwm 932 (by decide +kernel) (by decide +kernel)), (by decide +kernel), (by decide +kernel), (by decide +kernel), (RX10, TX10, 12), rfl, rfl⟩
theorem mv_X10_estimate : jMV yX10_estimate cX10_estimate 5 (some .int) 4 9 := ⟨(kwm 718 (by decide +kernel) (by decide +kernel)), (kwm 719 (by decide +kernel) (by decide +kernel)), (kwm 10 (by decide +kernel) (by decide +kernel)), (kwm 720 (by decide +kernel) (by decide +kernel)), (by decide +kernel), (by decide +kernel), (by decide +kernel), (RX10, TX10, 12), rfl, rfl⟩
theorem ms_X10_estimated : jMS yX10_estimated cX10_estimated 13 (some .int) 5 := ⟨(kwm 738 (by decide +kernel) (by decide +kernel)), (kwm 10 (by decide +kernel) (by decide +kernel)), (kwm 739 (by decide +kernel) (by decide +kernel)), (by decide +kernel), (by decide +kernel), (by decide +kernel)⟩
theorem mv_X10_fault : jMV yX10_fault cX10_fault 1 (some .int) 0 9 := ⟨(kwm 898 (by decide +kernel) (by decide +kernel)), (kwm 899 (by decide +kernel) (by decide +kernel)), (kwm 10 (by decide +kernel) (by decide +kernel)), (kwm 900 (by decide +kernel) (by decide +kernel)), (by decide +kernel), (by decide +kernel), (by decide +kernel), (RX10, TX10, 12), rfl, rfl⟩
theorem mv_X10_fewest : jMV yX10_fewest cX10_fewest 4 (some .int) 2 9 := ⟨(kwm 799 (by decide +kernel) (by decide +kernel)), (kwm 800 (by decide +kernel) (by decide +kernel)), (kwm 10 (by decide +kernel) (by decide +kernel)), (kwm 801 (by decide +kernel) (by decide +kernel)), (by decide +kernel), (by decide +kernel), (by decide +kernel), (RX10, TX10, 12), rfl, rfl⟩
theorem mv_X10_goes : jMV yX10_goes cX10_goes 3 (some .int) 1 9 := ⟨(kwm 856 (by decide +kernel) (by decide +kernel)), (kws 28 (by decide +kernel) (by decide +kernel)), (kwm 10 (by decide +kernel) (by decide +kernel)), (kwm 857 (by decide +kernel) (by decide +kernel)), (by decide +kernel), (by decide +kernel), (by decide +kernel), (RX10, TX10, 12), rfl, rfl⟩
theorem ms_X10_had : jMS yX10_had cX10_had 3 (some .int) 3 := ⟨(kwm 796 (by decide +kernel) (by decide +kernel)), (kwm 10 (by decide +kernel) (by decide +kernel)), (kwm 797 (by decide +kernel) (by decide +kernel)), (by decide +kernel), (by decide +kernel), (by decide +kernel)⟩
theorem mv_X10_height : jMV yX10_height cX10_height 4 (some .long) 1 9 := ⟨(kwm 771 (by decide +kernel) (by decide +kernel)), (kwm 772 (by decide +kernel) (by decide +kernel)), (kwm 10 (by decide +kernel) (by decide +kernel)), (kwm 773 (by decide +kernel) (by decide +kernel)), (by decide +kernel), (by decide +kernel), (by decide +kernel), (RX10, TX10, 12), rfl, rfl⟩
theorem ms_X10_in : jMS yX10_in cX10_in 3 (some .boolean) 3 := ⟨(kwm 707 (by decide +kernel) (by decide +kernel)), (kwm 10 (by decide +kernel) (by decide +kernel)), (kwm 708 (by decide +kernel) (by decide +kernel)), (by decide +kernel), (by decide +kernel), (by decide +kernel)⟩
theorem mi_X10_init : jMI yX10_init cX10_init 1 0 := ⟨(kwm 654 (by decide +kernel) (by decide +kernel)), rfl, (kwm 10 (by decide +kernel) (by decide +kernel)), (kwm 655 (by decide +kernel) (by decide +kernel)), (by decide +kernel), (by decide +kernel), (by decide +kernel)⟩
theorem mv_X10_insert : jMV yX10_insert cX10_insert 4 (some .int) 2 9 := ⟨(kwm 835 (by decide +kernel) (by decide +kernel)), (kwm 836 (by decide +kernel) (by decide +kernel)), (kwm 10 (by decide +kernel) (by decide +kernel)), (kwm 837 (by decide +kernel) (by decide +kernel)), (by decide +kernel), (by decide +kernel), (by decide +kernel), (RX10, TX10, 12), rfl, rfl⟩
theorem mv_X10_isAt : jMV yX10_isAt cX10_isAt 3 (some .boolean) 2 9 := ⟨(kwm 919 (by decide +kernel) (by decide +kernel)), (kws 33 (by decide +kernel) (by decide +kernel)), (kwm 10 (by decide +kernel) (by decide +kernel)), (kwm 920 (by decide +kernel) (by decide +kernel)), (by decide +kernel), (by decide +kernel), (by decide +kernel), (RX10, TX10, 12), rfl, rfl⟩
theorem ms_X10_isColumn : jMS yX10_isColumn cX10_isColumn 1 (some .boolean) 1 := ⟨(kwm 722 (by decide +kernel) (by decide +kernel)), (kwm 10 (by decide +kernel) (by decide +kernel)), (kwm 723 (by decide +kernel) (by decide +kernel)), (by decide +kernel), (by decide +kernel), (by decide +kernel)⟩
theorem mv_X10_isComing : jMV yX10_isComing cX10_isComing 1 (some .boolean) 0 9 := ⟨(kwm 911 (by decide +kernel) (by decide +kernel)), (kws 31 (by decide +kernel) (by decide +kernel)), (kwm 10 (by decide +kernel) (by decide +kernel)), (kwm 912 (by decide +kernel) (by decide +kernel)), (by decide +kernel), (by decide +kernel), (by decide +kernel), (RX10, TX10, 12), rfl, rfl⟩
theorem ms_X10_isFor : jMS yX10_isFor cX10_isFor 2 (some .boolean) 2 := ⟨(kwm 828 (by decide +kernel) (by decide +kernel)), (kwm 10 (by decide +kernel) (by decide +kernel)), (kwm 829 (by decide +kernel) (by decide +kernel)), (by decide +kernel), (by decide +kernel), (by decide +kernel)⟩
theorem mv_X10_isNumber : jMV yX10_isNumber cX10_isNumber 3 (some .boolean) 1 9 := ⟨(kwm 915 (by decide +kernel) (by decide +kernel)), (kws 32 (by decide +kernel) (by decide +kernel)), (kwm 10 (by decide +kernel) (by decide +kernel)), (kwm 916 (by decide +kernel) (by decide +kernel)), (by decide +kernel), (by decide +kernel), (by decide +kernel), (RX10, TX10, 12), rfl, rfl⟩
theorem mv_X10_isOrder : jMV yX10_isOrder cX10_isOrder 2 (some .boolean) 0 9 := ⟨(kwm 907 (by decide +kernel) (by decide +kernel)), (kws 30 (by decide +kernel) (by decide +kernel)), (kwm 10 (by decide +kernel) (by decide +kernel)), (kwm 908 (by decide +kernel) (by decide +kernel)), (by decide +kernel), (by decide +kernel), (by decide +kernel), (RX10, TX10, 12), rfl, rfl⟩
theorem ms_X10_isPaired : jMS yX10_isPaired cX10_isPaired 4 (some .boolean) 3 := ⟨(kwm 821 (by decide +kernel) (by decide +kernel)), (kwm 10 (by decide +kernel) (by decide +kernel)), (kwm 822 (by decide +kernel) (by decide +kernel)), (by decide +kernel), (by decide +kernel), (by decide +kernel)⟩
theorem mv_X10_isRow : jMV yX10_isRow cX10_isRow 2 (some .boolean) 1 9 := ⟨(kwm 852 (by decide +kernel) (by decide +kernel)), (kws 27 (by decide +kernel) (by decide +kernel)), (kwm 10 (by decide +kernel) (by decide +kernel)), (kwm 853 (by decide +kernel) (by decide +kernel)), (by decide +kernel), (by decide +kernel), (by decide +kernel), (RX10, TX10, 12), rfl, rfl⟩
theorem mv_X10_isSign : jMV yX10_isSign cX10_isSign 3 (some .boolean) 1 9 := ⟨(kwm 923 (by decide +kernel) (by decide +kernel)), (kws 34 (by decide +kernel) (by decide +kernel)), (kwm 10 (by decide +kernel) (by decide +kernel)), (kwm 924 (by decide +kernel) (by decide +kernel)), (by decide +kernel), (by decide +kernel), (by decide +kernel), (RX10, TX10, 12), rfl, rfl⟩
theorem mv_X10_isText : jMV yX10_isText cX10_isText 2 (some .boolean) 0 9 := ⟨(kwm 903 (by decide +kernel) (by decide +kernel)), (kws 29 (by decide +kernel) (by decide +kernel)), (kwm 10 (by decide +kernel) (by decide +kernel)), (kwm 904 (by decide +kernel) (by decide +kernel)), (by decide +kernel), (by decide +kernel), (by decide +kernel), (RX10, TX10, 12), rfl, rfl⟩
theorem ms_X10_isValue : jMS yX10_isValue cX10_isValue 1 (some .boolean) 1 := ⟨(kwm 728 (by decide +kernel) (by decide +kernel)), (kwm 10 (by decide +kernel) (by decide +kernel)), (kwm 729 (by decide +kernel) (by decide +kernel)), (by decide +kernel), (by decide +kernel), (by decide +kernel)⟩
theorem ms_X10_lays : jMS yX10_lays cX10_lays 5 none 4 := ⟨(kwm 700 (by decide +kernel) (by decide +kernel)), (kwm 10 (by decide +kernel) (by decide +kernel)), (kwm 701 (by decide +kernel) (by decide +kernel)), (by decide +kernel), (by decide +kernel), (by decide +kernel)⟩
theorem mv_X10_mayCome : jMV yX10_mayCome cX10_mayCome 3 (some .int) 2 9 := ⟨(kwm 840 (by decide +kernel) (by decide +kernel)), (kws 25 (by decide +kernel) (by decide +kernel)), (kwm 10 (by decide +kernel) (by decide +kernel)), (kwm 841 (by decide +kernel) (by decide +kernel)), (by decide +kernel), (by decide +kernel), (by decide +kernel), (RX10, TX10, 12), rfl, rfl⟩
theorem ms_X10_of : jMS yX10_of cX10_of 3 (some .int) 3 := ⟨(kwm 735 (by decide +kernel) (by decide +kernel)), (kwm 10 (by decide +kernel) (by decide +kernel)), (kwm 736 (by decide +kernel) (by decide +kernel)), (by decide +kernel), (by decide +kernel), (by decide +kernel)⟩
theorem ms_X10_off : jMS yX10_off cX10_off 4 (some .int) 3 := ⟨(kwm 793 (by decide +kernel) (by decide +kernel)), (kwm 10 (by decide +kernel) (by decide +kernel)), (kwm 794 (by decide +kernel) (by decide +kernel)), (by decide +kernel), (by decide +kernel), (by decide +kernel)⟩
theorem mv_X10_pair : jMV yX10_pair cX10_pair 3 (some .int) 2 9 := ⟨(kwm 875 (by decide +kernel) (by decide +kernel)), (kwm 876 (by decide +kernel) (by decide +kernel)), (kwm 10 (by decide +kernel) (by decide +kernel)), (kwm 877 (by decide +kernel) (by decide +kernel)), (by decide +kernel), (by decide +kernel), (by decide +kernel), (RX10, TX10, 12), rfl, rfl⟩
theorem mv_X10_paired : jMV yX10_paired cX10_paired 8 (some .int) 4 9 := ⟨(kwm 754 (by decide +kernel) (by decide +kernel)), (kws 20 (by decide +kernel) (by decide +kernel)), (kwm 10 (by decide +kernel) (by decide +kernel)), (kwm 755 (by decide +kernel) (by decide +kernel)), (by decide +kernel), (by decide +kernel), (by decide +kernel), (RX10, TX10, 12), rfl, rfl⟩
theorem ms_X10_pairs : jMS yX10_pairs cX10_pairs 8 none 1 := ⟨(kwm 815 (by decide +kernel) (by decide +kernel)), (kwm 10 (by decide +kernel) (by decide +kernel)), (kwm 816 (by decide +kernel) (by decide +kernel)), (by decide +kernel), (by decide +kernel), (by decide +kernel)⟩
theorem mv_X10_put : jMV yX10_put cX10_put 5 (some .int) 1 9 := ⟨(kwm 883 (by decide +kernel) (by decide +kernel)), (kwm 884 (by decide +kernel) (by decide +kernel)), (kwm 10 (by decide +kernel) (by decide +kernel)), (kwm 885 (by decide +kernel) (by decide +kernel)), (by decide +kernel), (by decide +kernel), (by decide +kernel), (RX10, TX10, 12), rfl, rfl⟩
theorem mv_X10_records : jMV yX10_records cX10_records 2 none 0 9 := ⟨(kwm 715 (by decide +kernel) (by decide +kernel)), (kws 16 (by decide +kernel) (by decide +kernel)), (kwm 10 (by decide +kernel) (by decide +kernel)), (kwm 716 (by decide +kernel) (by decide +kernel)), (by decide +kernel), (by decide +kernel), (by decide +kernel), (RX10, TX10, 12), rfl, rfl⟩
theorem mv_X10_remove : jMV yX10_remove cX10_remove 2 (some .int) 1 9 := ⟨(kwm 847 (by decide +kernel) (by decide +kernel)), (kwm 848 (by decide +kernel) (by decide +kernel)), (kwm 10 (by decide +kernel) (by decide +kernel)), (kwm 849 (by decide +kernel) (by decide +kernel)), (by decide +kernel), (by decide +kernel), (by decide +kernel), (RX10, TX10, 12), rfl, rfl⟩
theorem mv_X10_restore : jMV yX10_restore cX10_restore 2 (some .int) 1 9 := ⟨(kwm 710 (by decide +kernel) (by decide +kernel)), (kwm 711 (by decide +kernel) (by decide +kernel)), (kwm 10 (by decide +kernel) (by decide +kernel)), (kwm 712 (by decide +kernel) (by decide +kernel)), (by decide +kernel), (by decide +kernel), (by decide +kernel), (RX10, TX10, 12), rfl, rfl⟩
theorem mv_X10_row : jMV yX10_row cX10_row 3 (some .int) 2 9 := ⟨(kwm 863 (by decide +kernel) (by decide +kernel)), (kwm 864 (by decide +kernel) (by decide +kernel)), (kwm 10 (by decide +kernel) (by decide +kernel)), (kwm 865 (by decide +kernel) (by decide +kernel)), (by decide +kernel), (by decide +kernel), (by decide +kernel), (RX10, TX10, 12), rfl, rfl⟩
theorem ms_X10_rowsWith : jMS yX10_rowsWith cX10_rowsWith 5 (some .int) 3 := ⟨(kwm 818 (by decide +kernel) (by decide +kernel)), (kwm 10 (by decide +kernel) (by decide +kernel)), (kwm 819 (by decide +kernel) (by decide +kernel)), (by decide +kernel), (by decide +kernel), (by decide +kernel)⟩
theorem mv_X10_save : jMV yX10_save cX10_save 2 (some .int) 1 9 := ⟨(kwm 703 (by decide +kernel) (by decide +kernel)), (kwm 704 (by decide +kernel) (by decide +kernel)), (kwm 10 (by decide +kernel) (by decide +kernel)), (kwm 705 (by decide +kernel) (by decide +kernel)), (by decide +kernel), (by decide +kernel), (by decide +kernel), (RX10, TX10, 12), rfl, rfl⟩
theorem mv_X10_scaled : jMV yX10_scaled cX10_scaled 2 (some .int) 1 9 := ⟨(kwm 742 (by decide +kernel) (by decide +kernel)), (kws 18 (by decide +kernel) (by decide +kernel)), (kwm 10 (by decide +kernel) (by decide +kernel)), (kwm 743 (by decide +kernel) (by decide +kernel)), (by decide +kernel), (by decide +kernel), (by decide +kernel), (RX10, TX10, 12), rfl, rfl⟩
theorem mv_X10_set : jMV yX10_set cX10_set 3 (some .int) 2 9 := ⟨(kwm 824 (by decide +kernel) (by decide +kernel)), (kwm 825 (by decide +kernel) (by decide +kernel)), (kwm 10 (by decide +kernel) (by decide +kernel)), (kwm 826 (by decide +kernel) (by decide +kernel)), (by decide +kernel), (by decide +kernel), (by decide +kernel), (RX10, TX10, 12), rfl, rfl⟩
theorem mv_X10_sets : jMV yX10_sets cX10_sets 4 (some .int) 2 9 := ⟨(kwm 832 (by decide +kernel) (by decide +kernel)), (kws 24 (by decide +kernel) (by decide +kernel)), (kwm 10 (by decide +kernel) (by decide +kernel)), (kwm 833 (by decide +kernel) (by decide +kernel)), (by decide +kernel), (by decide +kernel), (by decide +kernel), (RX10, TX10, 12), rfl, rfl⟩
theorem mv_X10_share : jMV yX10_share cX10_share 4 (some .int) 3 9 := ⟨(kwm 757 (by decide +kernel) (by decide +kernel)), (kwm 758 (by decide +kernel) (by decide +kernel)), (kwm 10 (by decide +kernel) (by decide +kernel)), (kwm 759 (by decide +kernel) (by decide +kernel)), (by decide +kernel), (by decide +kernel), (by decide +kernel), (RX10, TX10, 12), rfl, rfl⟩
theorem ms_X10_toldBy : jMS yX10_toldBy cX10_toldBy 4 (some .int) 1 := ⟨(kwm 887 (by decide +kernel) (by decide +kernel)), (kwm 10 (by decide +kernel) (by decide +kernel)), (kwm 888 (by decide +kernel) (by decide +kernel)), (by decide +kernel), (by decide +kernel), (by decide +kernel)⟩
theorem mv_X10_truly : jMV yX10_truly cX10_truly 6 (some .int) 3 9 := ⟨(kwm 732 (by decide +kernel) (by decide +kernel)), (kws 17 (by decide +kernel) (by decide +kernel)), (kwm 10 (by decide +kernel) (by decide +kernel)), (kwm 733 (by decide +kernel) (by decide +kernel)), (by decide +kernel), (by decide +kernel), (by decide +kernel), (RX10, TX10, 12), rfl, rfl⟩
theorem mv_X10_undo : jMV yX10_undo cX10_undo 1 (some .int) 0 9 := ⟨(kwm 696 (by decide +kernel) (by decide +kernel)), (kwm 697 (by decide +kernel) (by decide +kernel)), (kwm 10 (by decide +kernel) (by decide +kernel)), (kwm 698 (by decide +kernel) (by decide +kernel)), (by decide +kernel), (by decide +kernel), (by decide +kernel), (RX10, TX10, 12), rfl, rfl⟩
theorem mv_X10_wipe : jMV yX10_wipe cX10_wipe 2 (some .int) 0 9 := ⟨(kwm 894 (by decide +kernel) (by decide +kernel)), (kwm 895 (by decide +kernel) (by decide +kernel)), (kwm 10 (by decide +kernel) (by decide +kernel)), (kwm 896 (by decide +kernel) (by decide +kernel)), (by decide +kernel), (by decide +kernel), (by decide +kernel), (RX10, TX10, 12), rfl, rfl⟩
theorem mv_X10_worst : jMV yX10_worst cX10_worst 4 (some .int) 2 9 := ⟨(kwm 786 (by decide +kernel) (by decide +kernel)), (kwm 787 (by decide +kernel) (by decide +kernel)), (kwm 10 (by decide +kernel) (by decide +kernel)), (kwm 788 (by decide +kernel) (by decide +kernel)), (by decide +kernel), (by decide +kernel), (by decide +kernel), (RX10, TX10, 12), rfl, rfl⟩
theorem ms_X10_worstOf : jMS yX10_worstOf cX10_worstOf 4 (some .int) 2 := ⟨(kwm 790 (by decide +kernel) (by decide +kernel)), (kwm 10 (by decide +kernel) (by decide +kernel)), (kwm 791 (by decide +kernel) (by decide +kernel)), (by decide +kernel), (by decide +kernel), (by decide +kernel)⟩
theorem ms_X1_bits : jMS yX1_bits cX1_bits 10 (some .long) 3 := ⟨(kwm 519 (by decide +kernel) (by decide +kernel)), (kwm 12 (by decide +kernel) (by decide +kernel)), (kwm 520 (by decide +kernel) (by decide +kernel)), (by decide +kernel), (by decide +kernel), (by decide +kernel)⟩
theorem ms_X1_ofDouble : jMS yX1_ofDouble cX1_ofDouble 2 (some .long) 1 := ⟨(kwm 532 (by decide +kernel) (by decide +kernel)), (kwm 12 (by decide +kernel) (by decide +kernel)), (kwm 533 (by decide +kernel) (by decide +kernel)), (by decide +kernel), (by decide +kernel), (by decide +kernel)⟩
theorem ms_X1_ofFloat : jMS yX1_ofFloat cX1_ofFloat 1 (some .int) 1 := ⟨(kwm 516 (by decide +kernel) (by decide +kernel)), (kwm 12 (by decide +kernel) (by decide +kernel)), (kwm 517 (by decide +kernel) (by decide +kernel)), (by decide +kernel), (by decide +kernel), (by decide +kernel)⟩
theorem mv_X2_addToBucket : jMV yX2_addToBucket cX2_addToBucket 3 none 2 1 := ⟨(kwm 388 (by decide +kernel) (by decide +kernel)), (kws 8 (by decide +kernel) (by decide +kernel)), (kwm 5 (by decide +kernel) (by decide +kernel)), (kwm 389 (by decide +kernel) (by decide +kernel)), (by decide +kernel), (by decide +kernel), (by decide +kernel), (RX2, TX2, 9), rfl, rfl⟩
theorem mv_X2_chooseCommon : jMV yX2_chooseCommon cX2_chooseCommon 4 none 1 1 := ⟨(kwm 362 (by decide +kernel) (by decide +kernel)), (kws 2 (by decide +kernel) (by decide +kernel)), (kwm 5 (by decide +kernel) (by decide +kernel)), (kwm 363 (by decide +kernel) (by decide +kernel)), (by decide +kernel), (by decide +kernel), (by decide +kernel), (RX2, TX2, 9), rfl, rfl⟩
theorem mv_X2_copyFrom : jMV yX2_copyFrom cX2_copyFrom 2 none 1 1 := ⟨(kwm 256 (by decide +kernel) (by decide +kernel)), (kwm 257 (by decide +kernel) (by decide +kernel)), (kwm 5 (by decide +kernel) (by decide +kernel)), (kwm 258 (by decide +kernel) (by decide +kernel)), (by decide +kernel), (by decide +kernel), (by decide +kernel), (RX2, TX2, 9), rfl, rfl⟩
theorem mv_X2_countValues : jMV yX2_countValues cX2_countValues 5 none 2 1 := ⟨(kwm 354 (by decide +kernel) (by decide +kernel)), (kws 1 (by decide +kernel) (by decide +kernel)), (kwm 5 (by decide +kernel) (by decide +kernel)), (kwm 355 (by decide +kernel) (by decide +kernel)), (by decide +kernel), (by decide +kernel), (by decide +kernel), (RX2, TX2, 9), rfl, rfl⟩
theorem mv_X2_cutBuckets : jMV yX2_cutBuckets cX2_cutBuckets 9 none 2 1 := ⟨(kwm 371 (by decide +kernel) (by decide +kernel)), (kws 4 (by decide +kernel) (by decide +kernel)), (kwm 5 (by decide +kernel) (by decide +kernel)), (kwm 372 (by decide +kernel) (by decide +kernel)), (by decide +kernel), (by decide +kernel), (by decide +kernel), (RX2, TX2, 9), rfl, rfl⟩
theorem mv_X2_fullHeight : jMV yX2_fullHeight cX2_fullHeight 3 (some .int) 2 1 := ⟨(kwm 380 (by decide +kernel) (by decide +kernel)), (kws 6 (by decide +kernel) (by decide +kernel)), (kwm 5 (by decide +kernel) (by decide +kernel)), (kwm 381 (by decide +kernel) (by decide +kernel)), (by decide +kernel), (by decide +kernel), (by decide +kernel), (RX2, TX2, 9), rfl, rfl⟩
theorem mv_X2_guess : jMV yX2_guess cX2_guess 7 (some .int) 2 1 := ⟨(kwm 472 (by decide +kernel) (by decide +kernel)), (kwm 473 (by decide +kernel) (by decide +kernel)), (kwm 5 (by decide +kernel) (by decide +kernel)), (kwm 474 (by decide +kernel) (by decide +kernel)), (by decide +kernel), (by decide +kernel), (by decide +kernel), (RX2, TX2, 9), rfl, rfl⟩
theorem mi_X2_init : jMI yX2_init cX2_init 1 0 := ⟨(kwm 60 (by decide +kernel) (by decide +kernel)), rfl, (kwm 5 (by decide +kernel) (by decide +kernel)), (kwm 61 (by decide +kernel) (by decide +kernel)), (by decide +kernel), (by decide +kernel), (by decide +kernel)⟩
theorem mv_X2_isCommon : jMV yX2_isCommon cX2_isCommon 3 (some .boolean) 1 1 := ⟨(kwm 376 (by decide +kernel) (by decide +kernel)), (kws 5 (by decide +kernel) (by decide +kernel)), (kwm 5 (by decide +kernel) (by decide +kernel)), (kwm 377 (by decide +kernel) (by decide +kernel)), (by decide +kernel), (by decide +kernel), (by decide +kernel), (RX2, TX2, 9), rfl, rfl⟩
theorem mv_X2_learn : jMV yX2_learn cX2_learn 5 none 4 1 := ⟨(kwm 349 (by decide +kernel) (by decide +kernel)), (kwm 350 (by decide +kernel) (by decide +kernel)), (kwm 5 (by decide +kernel) (by decide +kernel)), (kwm 351 (by decide +kernel) (by decide +kernel)), (by decide +kernel), (by decide +kernel), (by decide +kernel), (RX2, TX2, 9), rfl, rfl⟩
theorem mv_X2_least : jMV yX2_least cX2_least 5 (some .int) 2 1 := ⟨(kwm 484 (by decide +kernel) (by decide +kernel)), (kwm 485 (by decide +kernel) (by decide +kernel)), (kwm 5 (by decide +kernel) (by decide +kernel)), (kwm 486 (by decide +kernel) (by decide +kernel)), (by decide +kernel), (by decide +kernel), (by decide +kernel), (RX2, TX2, 9), rfl, rfl⟩
theorem mv_X2_miss : jMV yX2_miss cX2_miss 2 (some .int) 1 1 := ⟨(kwm 543 (by decide +kernel) (by decide +kernel)), (kwm 544 (by decide +kernel) (by decide +kernel)), (kwm 5 (by decide +kernel) (by decide +kernel)), (kwm 545 (by decide +kernel) (by decide +kernel)), (by decide +kernel), (by decide +kernel), (by decide +kernel), (RX2, TX2, 9), rfl, rfl⟩
theorem mv_X2_most : jMV yX2_most cX2_most 5 (some .int) 2 1 := ⟨(kwm 488 (by decide +kernel) (by decide +kernel)), (kwm 489 (by decide +kernel) (by decide +kernel)), (kwm 5 (by decide +kernel) (by decide +kernel)), (kwm 490 (by decide +kernel) (by decide +kernel)), (by decide +kernel), (by decide +kernel), (by decide +kernel), (RX2, TX2, 9), rfl, rfl⟩
theorem mv_X2_nextRank : jMV yX2_nextRank cX2_nextRank 5 (some .int) 1 1 := ⟨(kwm 367 (by decide +kernel) (by decide +kernel)), (kws 3 (by decide +kernel) (by decide +kernel)), (kwm 5 (by decide +kernel) (by decide +kernel)), (kwm 368 (by decide +kernel) (by decide +kernel)), (by decide +kernel), (by decide +kernel), (by decide +kernel), (RX2, TX2, 9), rfl, rfl⟩
theorem mv_X2_rowsOfBuckets : jMV yX2_rowsOfBuckets cX2_rowsOfBuckets 3 (some .int) 0 1 := ⟨(kwm 528 (by decide +kernel) (by decide +kernel)), (kwm 529 (by decide +kernel) (by decide +kernel)), (kwm 5 (by decide +kernel) (by decide +kernel)), (kwm 530 (by decide +kernel) (by decide +kernel)), (by decide +kernel), (by decide +kernel), (by decide +kernel), (RX2, TX2, 9), rfl, rfl⟩
theorem mv_X2_rowsOfCommon : jMV yX2_rowsOfCommon cX2_rowsOfCommon 5 (some .int) 2 1 := ⟨(kwm 477 (by decide +kernel) (by decide +kernel)), (kws 10 (by decide +kernel) (by decide +kernel)), (kwm 5 (by decide +kernel) (by decide +kernel)), (kwm 478 (by decide +kernel) (by decide +kernel)), (by decide +kernel), (by decide +kernel), (by decide +kernel), (RX2, TX2, 9), rfl, rfl⟩
theorem mv_X2_startBucket : jMV yX2_startBucket cX2_startBucket 3 none 2 1 := ⟨(kwm 384 (by decide +kernel) (by decide +kernel)), (kws 7 (by decide +kernel) (by decide +kernel)), (kwm 5 (by decide +kernel) (by decide +kernel)), (kwm 385 (by decide +kernel) (by decide +kernel)), (by decide +kernel), (by decide +kernel), (by decide +kernel), (RX2, TX2, 9), rfl, rfl⟩
theorem mv_X2_tellBucket : jMV yX2_tellBucket cX2_tellBucket 3 (some .int) 2 1 := ⟨(kwm 421 (by decide +kernel) (by decide +kernel)), (kwm 422 (by decide +kernel) (by decide +kernel)), (kwm 5 (by decide +kernel) (by decide +kernel)), (kwm 423 (by decide +kernel) (by decide +kernel)), (by decide +kernel), (by decide +kernel), (by decide +kernel), (RX2, TX2, 9), rfl, rfl⟩
theorem mv_X2_tellCommon : jMV yX2_tellCommon cX2_tellCommon 3 (some .int) 2 1 := ⟨(kwm 429 (by decide +kernel) (by decide +kernel)), (kwm 430 (by decide +kernel) (by decide +kernel)), (kwm 5 (by decide +kernel) (by decide +kernel)), (kwm 431 (by decide +kernel) (by decide +kernel)), (by decide +kernel), (by decide +kernel), (by decide +kernel), (RX2, TX2, 9), rfl, rfl⟩
theorem mv_X2_worstValue : jMV yX2_worstValue cX2_worstValue 5 (some .int) 0 1 := ⟨(kwm 539 (by decide +kernel) (by decide +kernel)), (kwm 540 (by decide +kernel) (by decide +kernel)), (kwm 5 (by decide +kernel) (by decide +kernel)), (kwm 541 (by decide +kernel) (by decide +kernel)), (by decide +kernel), (by decide +kernel), (by decide +kernel), (RX2, TX2, 9), rfl, rfl⟩
theorem mv_X3_bringBack : jMV yX3_bringBack cX3_bringBack 4 none 1 2 := ⟨(kwm 639 (by decide +kernel) (by decide +kernel)), (kwm 640 (by decide +kernel) (by decide +kernel)), (kwm 7 (by decide +kernel) (by decide +kernel)), (kwm 641 (by decide +kernel) (by decide +kernel)), (by decide +kernel), (by decide +kernel), (by decide +kernel), (RX3, TX3, 3), rfl, rfl⟩
theorem mi_X3_init : jMI yX3_init cX3_init 1 0 := ⟨(kwm 149 (by decide +kernel) (by decide +kernel)), rfl, (kwm 7 (by decide +kernel) (by decide +kernel)), (kwm 150 (by decide +kernel) (by decide +kernel)), (by decide +kernel), (by decide +kernel), (by decide +kernel)⟩
theorem mv_X3_keep : jMV yX3_keep cX3_keep 1 none 0 2 := ⟨(kwm 280 (by decide +kernel) (by decide +kernel)), (kwm 281 (by decide +kernel) (by decide +kernel)), (kwm 7 (by decide +kernel) (by decide +kernel)), (kwm 282 (by decide +kernel) (by decide +kernel)), (by decide +kernel), (by decide +kernel), (by decide +kernel), (RX3, TX3, 3), rfl, rfl⟩
theorem mv_X3_prepare : jMV yX3_prepare cX3_prepare 3 none 1 2 := ⟨(kwm 235 (by decide +kernel) (by decide +kernel)), (kwm 236 (by decide +kernel) (by decide +kernel)), (kwm 7 (by decide +kernel) (by decide +kernel)), (kwm 237 (by decide +kernel) (by decide +kernel)), (by decide +kernel), (by decide +kernel), (by decide +kernel), (RX3, TX3, 3), rfl, rfl⟩
theorem mv_X4_append : jMV yX4_append cX4_append 7 (some .int) 1 3 := ⟨(kwm 562 (by decide +kernel) (by decide +kernel)), (kwm 563 (by decide +kernel) (by decide +kernel)), (kwm 8 (by decide +kernel) (by decide +kernel)), (kwm 564 (by decide +kernel) (by decide +kernel)), (by decide +kernel), (by decide +kernel), (by decide +kernel), (RX4, TX4, 2), rfl, rfl⟩
theorem mv_X4_clear : jMV yX4_clear cX4_clear 2 (some .int) 0 3 := ⟨(kwm 575 (by decide +kernel) (by decide +kernel)), (kwm 576 (by decide +kernel) (by decide +kernel)), (kwm 8 (by decide +kernel) (by decide +kernel)), (kwm 577 (by decide +kernel) (by decide +kernel)), (by decide +kernel), (by decide +kernel), (by decide +kernel), (RX4, TX4, 2), rfl, rfl⟩
theorem mi_X4_init : jMI yX4_init cX4_init 1 0 := ⟨(kwm 167 (by decide +kernel) (by decide +kernel)), rfl, (kwm 8 (by decide +kernel) (by decide +kernel)), (kwm 168 (by decide +kernel) (by decide +kernel)), (by decide +kernel), (by decide +kernel), (by decide +kernel)⟩
theorem mv_X4_signAt : jMV yX4_signAt cX4_signAt 2 (some .char) 1 3 := ⟨(kwm 595 (by decide +kernel) (by decide +kernel)), (kwm 596 (by decide +kernel) (by decide +kernel)), (kwm 8 (by decide +kernel) (by decide +kernel)), (kwm 597 (by decide +kernel) (by decide +kernel)), (by decide +kernel), (by decide +kernel), (by decide +kernel), (RX4, TX4, 2), rfl, rfl⟩
theorem ms_X4_signsIn : jMS yX4_signsIn cX4_signsIn 7 (some .int) 1 := ⟨(kwm 566 (by decide +kernel) (by decide +kernel)), (kwm 8 (by decide +kernel) (by decide +kernel)), (kwm 567 (by decide +kernel) (by decide +kernel)), (by decide +kernel), (by decide +kernel), (by decide +kernel)⟩
theorem mv_X5_copyFrom : jMV yX5_copyFrom cX5_copyFrom 2 none 1 4 := ⟨(kwm 261 (by decide +kernel) (by decide +kernel)), (kwm 262 (by decide +kernel) (by decide +kernel)), (kwm 6 (by decide +kernel) (by decide +kernel)), (kwm 263 (by decide +kernel) (by decide +kernel)), (by decide +kernel), (by decide +kernel), (by decide +kernel), (RX5, TX5, 4), rfl, rfl⟩
theorem mi_X5_init : jMI yX5_init cX5_init 1 0 := ⟨(kwm 96 (by decide +kernel) (by decide +kernel)), rfl, (kwm 6 (by decide +kernel) (by decide +kernel)), (kwm 97 (by decide +kernel) (by decide +kernel)), (by decide +kernel), (by decide +kernel), (by decide +kernel)⟩
theorem mv_X5_learn : jMV yX5_learn cX5_learn 5 none 2 4 := ⟨(kwm 391 (by decide +kernel) (by decide +kernel)), (kwm 392 (by decide +kernel) (by decide +kernel)), (kwm 6 (by decide +kernel) (by decide +kernel)), (kwm 393 (by decide +kernel) (by decide +kernel)), (by decide +kernel), (by decide +kernel), (by decide +kernel), (RX5, TX5, 4), rfl, rfl⟩
theorem ms_X5_nextRank : jMS yX5_nextRank cX5_nextRank 8 (some .int) 2 := ⟨(kwm 396 (by decide +kernel) (by decide +kernel)), (kwm 6 (by decide +kernel) (by decide +kernel)), (kwm 397 (by decide +kernel) (by decide +kernel)), (by decide +kernel), (by decide +kernel), (by decide +kernel)⟩
theorem mv_X5_rowsInside : jMV yX5_rowsInside cX5_rowsInside 7 (some .int) 4 4 := ⟨(kwm 505 (by decide +kernel) (by decide +kernel)), (kwm 506 (by decide +kernel) (by decide +kernel)), (kwm 6 (by decide +kernel) (by decide +kernel)), (kwm 507 (by decide +kernel) (by decide +kernel)), (by decide +kernel), (by decide +kernel), (by decide +kernel), (RX5, TX5, 4), rfl, rfl⟩
theorem mv_X5_tellPair : jMV yX5_tellPair cX5_tellPair 3 (some .int) 2 4 := ⟨(kwm 437 (by decide +kernel) (by decide +kernel)), (kwm 438 (by decide +kernel) (by decide +kernel)), (kwm 6 (by decide +kernel) (by decide +kernel)), (kwm 439 (by decide +kernel) (by decide +kernel)), (by decide +kernel), (by decide +kernel), (by decide +kernel), (RX5, TX5, 4), rfl, rfl⟩
theorem mv_X6_findFault : jMV yX6_findFault cX6_findFault 2 (some .int) 0 5 := ⟨(kwm 583 (by decide +kernel) (by decide +kernel)), (kwm 584 (by decide +kernel) (by decide +kernel)), (kwm 9 (by decide +kernel) (by decide +kernel)), (kwm 585 (by decide +kernel) (by decide +kernel)), (by decide +kernel), (by decide +kernel), (by decide +kernel), (RX6, TX6, 6), rfl, rfl⟩
theorem mi_X6_init : jMI yX6_init cX6_init 2 1 := ⟨(kwm 183 (by decide +kernel) (by decide +kernel)), rfl, (kwm 9 (by decide +kernel) (by decide +kernel)), (kwm 184 (by decide +kernel) (by decide +kernel)), (by decide +kernel), (by decide +kernel), (by decide +kernel)⟩
theorem mv_X6_passSign : jMV yX6_passSign cX6_passSign 2 (some .boolean) 1 5 := ⟨(kwm 611 (by decide +kernel) (by decide +kernel)), (kwm 612 (by decide +kernel) (by decide +kernel)), (kwm 9 (by decide +kernel) (by decide +kernel)), (kwm 613 (by decide +kernel) (by decide +kernel)), (by decide +kernel), (by decide +kernel), (by decide +kernel), (RX6, TX6, 6), rfl, rfl⟩
theorem mv_X6_readDigit : jMV yX6_readDigit cX6_readDigit 2 (some .int) 0 5 := ⟨(kwm 608 (by decide +kernel) (by decide +kernel)), (kws 13 (by decide +kernel) (by decide +kernel)), (kwm 9 (by decide +kernel) (by decide +kernel)), (kwm 609 (by decide +kernel) (by decide +kernel)), (by decide +kernel), (by decide +kernel), (by decide +kernel), (RX6, TX6, 6), rfl, rfl⟩
theorem mv_X6_readNumber : jMV yX6_readNumber cX6_readNumber 3 (some .int) 0 5 := ⟨(kwm 604 (by decide +kernel) (by decide +kernel)), (kws 12 (by decide +kernel) (by decide +kernel)), (kwm 9 (by decide +kernel) (by decide +kernel)), (kwm 605 (by decide +kernel) (by decide +kernel)), (by decide +kernel), (by decide +kernel), (by decide +kernel), (RX6, TX6, 6), rfl, rfl⟩
theorem mv_X6_readOrder : jMV yX6_readOrder cX6_readOrder 1 (some .boolean) 0 5 := ⟨(kwm 591 (by decide +kernel) (by decide +kernel)), (kwm 592 (by decide +kernel) (by decide +kernel)), (kwm 9 (by decide +kernel) (by decide +kernel)), (kwm 593 (by decide +kernel) (by decide +kernel)), (by decide +kernel), (by decide +kernel), (by decide +kernel), (RX6, TX6, 6), rfl, rfl⟩
theorem mv_X6_readRow : jMV yX6_readRow cX6_readRow 1 (some .boolean) 0 5 := ⟨(kwm 600 (by decide +kernel) (by decide +kernel)), (kws 11 (by decide +kernel) (by decide +kernel)), (kwm 9 (by decide +kernel) (by decide +kernel)), (kwm 601 (by decide +kernel) (by decide +kernel)), (by decide +kernel), (by decide +kernel), (by decide +kernel), (RX6, TX6, 6), rfl, rfl⟩
theorem mv_X6_readTimes : jMV yX6_readTimes cX6_readTimes 1 (some .boolean) 0 5 := ⟨(kwm 616 (by decide +kernel) (by decide +kernel)), (kws 14 (by decide +kernel) (by decide +kernel)), (kwm 9 (by decide +kernel) (by decide +kernel)), (kwm 617 (by decide +kernel) (by decide +kernel)), (by decide +kernel), (by decide +kernel), (by decide +kernel), (RX6, TX6, 6), rfl, rfl⟩
theorem mv_X6_start : jMV yX6_start cX6_start 1 none 0 5 := ⟨(kwm 587 (by decide +kernel) (by decide +kernel)), (kwm 588 (by decide +kernel) (by decide +kernel)), (kwm 9 (by decide +kernel) (by decide +kernel)), (kwm 589 (by decide +kernel) (by decide +kernel)), (by decide +kernel), (by decide +kernel), (by decide +kernel), (RX6, TX6, 6), rfl, rfl⟩
theorem mv_X7_addRow : jMV yX7_addRow cX7_addRow 3 (some .int) 2 6 := ⟨(kwm 291 (by decide +kernel) (by decide +kernel)), (kwm 292 (by decide +kernel) (by decide +kernel)), (kwm 2 (by decide +kernel) (by decide +kernel)), (kwm 293 (by decide +kernel) (by decide +kernel)), (by decide +kernel), (by decide +kernel), (by decide +kernel), (RX7, TX7, 3), rfl, rfl⟩
theorem mv_X7_addRows : jMV yX7_addRows cX7_addRows 6 (some .int) 3 6 := ⟨(kwm 629 (by decide +kernel) (by decide +kernel)), (kwm 630 (by decide +kernel) (by decide +kernel)), (kwm 2 (by decide +kernel) (by decide +kernel)), (kwm 631 (by decide +kernel) (by decide +kernel)), (by decide +kernel), (by decide +kernel), (by decide +kernel), (RX7, TX7, 3), rfl, rfl⟩
theorem mv_X7_change : jMV yX7_change cX7_change 4 (some .int) 2 6 := ⟨(kwm 266 (by decide +kernel) (by decide +kernel)), (kwm 267 (by decide +kernel) (by decide +kernel)), (kwm 2 (by decide +kernel) (by decide +kernel)), (kwm 268 (by decide +kernel) (by decide +kernel)), (by decide +kernel), (by decide +kernel), (by decide +kernel), (RX7, TX7, 3), rfl, rfl⟩
theorem mv_X7_copyFrom : jMV yX7_copyFrom cX7_copyFrom 2 none 1 6 := ⟨(kwm 240 (by decide +kernel) (by decide +kernel)), (kwm 241 (by decide +kernel) (by decide +kernel)), (kwm 2 (by decide +kernel) (by decide +kernel)), (kwm 242 (by decide +kernel) (by decide +kernel)), (by decide +kernel), (by decide +kernel), (by decide +kernel), (RX7, TX7, 3), rfl, rfl⟩
theorem mv_X7_dropRow : jMV yX7_dropRow cX7_dropRow 2 (some .int) 1 6 := ⟨(kwm 320 (by decide +kernel) (by decide +kernel)), (kwm 321 (by decide +kernel) (by decide +kernel)), (kwm 2 (by decide +kernel) (by decide +kernel)), (kwm 322 (by decide +kernel) (by decide +kernel)), (by decide +kernel), (by decide +kernel), (by decide +kernel), (RX7, TX7, 3), rfl, rfl⟩
theorem mi_X7_init : jMI yX7_init cX7_init 1 0 := ⟨(kwm 26 (by decide +kernel) (by decide +kernel)), rfl, (kwm 2 (by decide +kernel) (by decide +kernel)), (kwm 27 (by decide +kernel) (by decide +kernel)), (by decide +kernel), (by decide +kernel), (by decide +kernel)⟩
theorem ms_X7_isInRange : jMS yX7_isInRange cX7_isInRange 2 (some .boolean) 2 := ⟨(kwm 273 (by decide +kernel) (by decide +kernel)), (kwm 2 (by decide +kernel) (by decide +kernel)), (kwm 274 (by decide +kernel) (by decide +kernel)), (by decide +kernel), (by decide +kernel), (by decide +kernel)⟩
theorem mv_X7_makeAnalysis : jMV yX7_makeAnalysis cX7_makeAnalysis 1 (some .int) 0 6 := ⟨(kwm 337 (by decide +kernel) (by decide +kernel)), (kwm 338 (by decide +kernel) (by decide +kernel)), (kwm 2 (by decide +kernel) (by decide +kernel)), (kwm 339 (by decide +kernel) (by decide +kernel)), (by decide +kernel), (by decide +kernel), (by decide +kernel), (RX7, TX7, 3), rfl, rfl⟩
theorem mv_X7_scale : jMV yX7_scale cX7_scale 2 (some .int) 1 6 := ⟨(kwm 492 (by decide +kernel) (by decide +kernel)), (kwm 493 (by decide +kernel) (by decide +kernel)), (kwm 2 (by decide +kernel) (by decide +kernel)), (kwm 494 (by decide +kernel) (by decide +kernel)), (by decide +kernel), (by decide +kernel), (by decide +kernel), (RX7, TX7, 3), rfl, rfl⟩
theorem mv_X7_setting : jMV yX7_setting cX7_setting 2 (some .int) 1 6 := ⟨(kwm 341 (by decide +kernel) (by decide +kernel)), (kwm 342 (by decide +kernel) (by decide +kernel)), (kwm 2 (by decide +kernel) (by decide +kernel)), (kwm 343 (by decide +kernel) (by decide +kernel)), (by decide +kernel), (by decide +kernel), (by decide +kernel), (RX7, TX7, 3), rfl, rfl⟩
theorem mv_X8_add : jMV yX8_add cX8_add 3 none 2 7 := ⟨(kwm 303 (by decide +kernel) (by decide +kernel)), (kwm 304 (by decide +kernel) (by decide +kernel)), (kwm 3 (by decide +kernel) (by decide +kernel)), (kwm 305 (by decide +kernel) (by decide +kernel)), (by decide +kernel), (by decide +kernel), (by decide +kernel), (RX8, TX8, 3), rfl, rfl⟩
theorem mv_X8_copyFrom : jMV yX8_copyFrom cX8_copyFrom 2 none 1 7 := ⟨(kwm 247 (by decide +kernel) (by decide +kernel)), (kwm 248 (by decide +kernel) (by decide +kernel)), (kwm 3 (by decide +kernel) (by decide +kernel)), (kwm 249 (by decide +kernel) (by decide +kernel)), (by decide +kernel), (by decide +kernel), (by decide +kernel), (RX8, TX8, 3), rfl, rfl⟩
theorem mv_X8_drop : jMV yX8_drop cX8_drop 3 none 1 7 := ⟨(kwm 328 (by decide +kernel) (by decide +kernel)), (kwm 329 (by decide +kernel) (by decide +kernel)), (kwm 3 (by decide +kernel) (by decide +kernel)), (kwm 330 (by decide +kernel) (by decide +kernel)), (by decide +kernel), (by decide +kernel), (by decide +kernel), (RX8, TX8, 3), rfl, rfl⟩
theorem mv_X8_hasRow : jMV yX8_hasRow cX8_hasRow 2 (some .boolean) 1 7 := ⟨(kwm 324 (by decide +kernel) (by decide +kernel)), (kwm 325 (by decide +kernel) (by decide +kernel)), (kwm 3 (by decide +kernel) (by decide +kernel)), (kwm 326 (by decide +kernel) (by decide +kernel)), (by decide +kernel), (by decide +kernel), (by decide +kernel), (RX8, TX8, 3), rfl, rfl⟩
theorem mi_X8_init : jMI yX8_init cX8_init 1 0 := ⟨(kwm 32 (by decide +kernel) (by decide +kernel)), rfl, (kwm 3 (by decide +kernel) (by decide +kernel)), (kwm 33 (by decide +kernel) (by decide +kernel)), (by decide +kernel), (by decide +kernel), (by decide +kernel)⟩
theorem mv_X8_isFull : jMV yX8_isFull cX8_isFull 1 (some .boolean) 0 7 := ⟨(kwm 299 (by decide +kernel) (by decide +kernel)), (kwm 300 (by decide +kernel) (by decide +kernel)), (kwm 3 (by decide +kernel) (by decide +kernel)), (kwm 301 (by decide +kernel) (by decide +kernel)), (by decide +kernel), (by decide +kernel), (by decide +kernel), (RX8, TX8, 3), rfl, rfl⟩
theorem mv_X8_rowsInside : jMV yX8_rowsInside cX8_rowsInside 4 (some .int) 3 7 := ⟨(kwm 463 (by decide +kernel) (by decide +kernel)), (kwm 464 (by decide +kernel) (by decide +kernel)), (kwm 3 (by decide +kernel) (by decide +kernel)), (kwm 465 (by decide +kernel) (by decide +kernel)), (by decide +kernel), (by decide +kernel), (by decide +kernel), (RX8, TX8, 3), rfl, rfl⟩
theorem mv_X8_rowsInsideBoth : jMV yX8_rowsInsideBoth cX8_rowsInsideBoth 7 (some .int) 4 7 := ⟨(kwm 467 (by decide +kernel) (by decide +kernel)), (kwm 468 (by decide +kernel) (by decide +kernel)), (kwm 3 (by decide +kernel) (by decide +kernel)), (kwm 469 (by decide +kernel) (by decide +kernel)), (by decide +kernel), (by decide +kernel), (by decide +kernel), (RX8, TX8, 3), rfl, rfl⟩
theorem mv_X8_rowsLike : jMV yX8_rowsLike cX8_rowsLike 4 (some .int) 1 7 := ⟨(kwm 399 (by decide +kernel) (by decide +kernel)), (kwm 400 (by decide +kernel) (by decide +kernel)), (kwm 3 (by decide +kernel) (by decide +kernel)), (kwm 401 (by decide +kernel) (by decide +kernel)), (by decide +kernel), (by decide +kernel), (by decide +kernel), (RX8, TX8, 3), rfl, rfl⟩
theorem mv_X8_value : jMV yX8_value cX8_value 3 (some .int) 2 7 := ⟨(kwm 357 (by decide +kernel) (by decide +kernel)), (kwm 358 (by decide +kernel) (by decide +kernel)), (kwm 3 (by decide +kernel) (by decide +kernel)), (kwm 359 (by decide +kernel) (by decide +kernel)), (by decide +kernel), (by decide +kernel), (by decide +kernel), (RX8, TX8, 3), rfl, rfl⟩
theorem mv_X9_analyse : jMV yX9_analyse cX9_analyse 1 (some .int) 0 8 := ⟨(kwm 333 (by decide +kernel) (by decide +kernel)), (kwm 334 (by decide +kernel) (by decide +kernel)), (kwm 1 (by decide +kernel) (by decide +kernel)), (kwm 335 (by decide +kernel) (by decide +kernel)), (by decide +kernel), (by decide +kernel), (by decide +kernel), (RX9, TX9, 6), rfl, rfl⟩
theorem ms_X9_areBounds : jMS yX9_areBounds cX9_areBounds 2 (some .boolean) 2 := ⟨(kwm 459 (by decide +kernel) (by decide +kernel)), (kwm 1 (by decide +kernel) (by decide +kernel)), (kwm 460 (by decide +kernel) (by decide +kernel)), (by decide +kernel), (by decide +kernel), (by decide +kernel)⟩
theorem mv_X9_both : jMV yX9_both cX9_both 7 (some .int) 5 8 := ⟨(kwm 496 (by decide +kernel) (by decide +kernel)), (kwm 497 (by decide +kernel) (by decide +kernel)), (kwm 1 (by decide +kernel) (by decide +kernel)), (kwm 498 (by decide +kernel) (by decide +kernel)), (by decide +kernel), (by decide +kernel), (by decide +kernel), (RX9, TX9, 6), rfl, rfl⟩
theorem mv_X9_bucket : jMV yX9_bucket cX9_bucket 4 (some .int) 3 8 := ⟨(kwm 413 (by decide +kernel) (by decide +kernel)), (kwm 414 (by decide +kernel) (by decide +kernel)), (kwm 1 (by decide +kernel) (by decide +kernel)), (kwm 415 (by decide +kernel) (by decide +kernel)), (by decide +kernel), (by decide +kernel), (by decide +kernel), (RX9, TX9, 6), rfl, rfl⟩
theorem mv_X9_carryOut : jMV yX9_carryOut cX9_carryOut 2 (some .int) 0 8 := ⟨(kwm 619 (by decide +kernel) (by decide +kernel)), (kwm 620 (by decide +kernel) (by decide +kernel)), (kwm 1 (by decide +kernel) (by decide +kernel)), (kwm 621 (by decide +kernel) (by decide +kernel)), (by decide +kernel), (by decide +kernel), (by decide +kernel), (RX9, TX9, 6), rfl, rfl⟩
theorem mv_X9_common : jMV yX9_common cX9_common 4 (some .int) 3 8 := ⟨(kwm 425 (by decide +kernel) (by decide +kernel)), (kwm 426 (by decide +kernel) (by decide +kernel)), (kwm 1 (by decide +kernel) (by decide +kernel)), (kwm 427 (by decide +kernel) (by decide +kernel)), (by decide +kernel), (by decide +kernel), (by decide +kernel), (RX9, TX9, 6), rfl, rfl⟩
theorem ms_X9_copyNumbers : jMS yX9_copyNumbers cX9_copyNumbers 3 none 2 := ⟨(kwm 244 (by decide +kernel) (by decide +kernel)), (kwm 1 (by decide +kernel) (by decide +kernel)), (kwm 245 (by decide +kernel) (by decide +kernel)), (by decide +kernel), (by decide +kernel), (by decide +kernel)⟩
theorem mv_X9_count : jMV yX9_count cX9_count 3 (some .int) 1 8 := ⟨(kwm 441 (by decide +kernel) (by decide +kernel)), (kwm 442 (by decide +kernel) (by decide +kernel)), (kwm 1 (by decide +kernel) (by decide +kernel)), (kwm 443 (by decide +kernel) (by decide +kernel)), (by decide +kernel), (by decide +kernel), (by decide +kernel), (RX9, TX9, 6), rfl, rfl⟩
theorem mv_X9_estimate : jMV yX9_estimate cX9_estimate 6 (some .int) 4 8 := ⟨(kwm 455 (by decide +kernel) (by decide +kernel)), (kwm 456 (by decide +kernel) (by decide +kernel)), (kwm 1 (by decide +kernel) (by decide +kernel)), (kwm 457 (by decide +kernel) (by decide +kernel)), (by decide +kernel), (by decide +kernel), (by decide +kernel), (RX9, TX9, 6), rfl, rfl⟩
theorem mv_X9_fault : jMV yX9_fault cX9_fault 1 (some .int) 0 8 := ⟨(kwm 579 (by decide +kernel) (by decide +kernel)), (kwm 580 (by decide +kernel) (by decide +kernel)), (kwm 1 (by decide +kernel) (by decide +kernel)), (kwm 581 (by decide +kernel) (by decide +kernel)), (by decide +kernel), (by decide +kernel), (by decide +kernel), (RX9, TX9, 6), rfl, rfl⟩
theorem mv_X9_fewest : jMV yX9_fewest cX9_fewest 4 (some .int) 2 8 := ⟨(kwm 553 (by decide +kernel) (by decide +kernel)), (kwm 554 (by decide +kernel) (by decide +kernel)), (kwm 1 (by decide +kernel) (by decide +kernel)), (kwm 555 (by decide +kernel) (by decide +kernel)), (by decide +kernel), (by decide +kernel), (by decide +kernel), (RX9, TX9, 6), rfl, rfl⟩
theorem mv_X9_followOrder : jMV yX9_followOrder cX9_followOrder 1 (some .int) 0 8 := ⟨(kwm 626 (by decide +kernel) (by decide +kernel)), (kws 15 (by decide +kernel) (by decide +kernel)), (kwm 1 (by decide +kernel) (by decide +kernel)), (kwm 627 (by decide +kernel) (by decide +kernel)), (by decide +kernel), (by decide +kernel), (by decide +kernel), (RX9, TX9, 6), rfl, rfl⟩
theorem mv_X9_height : jMV yX9_height cX9_height 3 (some .long) 1 8 := ⟨(kwm 523 (by decide +kernel) (by decide +kernel)), (kwm 524 (by decide +kernel) (by decide +kernel)), (kwm 1 (by decide +kernel) (by decide +kernel)), (kwm 525 (by decide +kernel) (by decide +kernel)), (by decide +kernel), (by decide +kernel), (by decide +kernel), (RX9, TX9, 6), rfl, rfl⟩
theorem mi_X9_init : jMI yX9_init cX9_init 1 0 := ⟨(kwm 18 (by decide +kernel) (by decide +kernel)), rfl, (kwm 1 (by decide +kernel) (by decide +kernel)), (kwm 19 (by decide +kernel) (by decide +kernel)), (by decide +kernel), (by decide +kernel), (by decide +kernel)⟩
theorem mv_X9_insert : jMV yX9_insert cX9_insert 3 (some .int) 2 8 := ⟨(kwm 287 (by decide +kernel) (by decide +kernel)), (kwm 288 (by decide +kernel) (by decide +kernel)), (kwm 1 (by decide +kernel) (by decide +kernel)), (kwm 289 (by decide +kernel) (by decide +kernel)), (by decide +kernel), (by decide +kernel), (by decide +kernel), (RX9, TX9, 6), rfl, rfl⟩
theorem ms_X9_isBetween : jMS yX9_isBetween cX9_isBetween 3 (some .boolean) 3 := ⟨(kwm 270 (by decide +kernel) (by decide +kernel)), (kwm 1 (by decide +kernel) (by decide +kernel)), (kwm 271 (by decide +kernel) (by decide +kernel)), (by decide +kernel), (by decide +kernel), (by decide +kernel)⟩
theorem ms_X9_isColumn : jMS yX9_isColumn cX9_isColumn 1 (some .boolean) 1 := ⟨(kwm 409 (by decide +kernel) (by decide +kernel)), (kwm 1 (by decide +kernel) (by decide +kernel)), (kwm 410 (by decide +kernel) (by decide +kernel)), (by decide +kernel), (by decide +kernel), (by decide +kernel)⟩
theorem ms_X9_isValue : jMS yX9_isValue cX9_isValue 1 (some .boolean) 1 := ⟨(kwm 295 (by decide +kernel) (by decide +kernel)), (kwm 1 (by decide +kernel) (by decide +kernel)), (kwm 296 (by decide +kernel) (by decide +kernel)), (by decide +kernel), (by decide +kernel), (by decide +kernel)⟩
theorem mv_X9_pair : jMV yX9_pair cX9_pair 3 (some .int) 2 8 := ⟨(kwm 433 (by decide +kernel) (by decide +kernel)), (kwm 434 (by decide +kernel) (by decide +kernel)), (kwm 1 (by decide +kernel) (by decide +kernel)), (kwm 435 (by decide +kernel) (by decide +kernel)), (by decide +kernel), (by decide +kernel), (by decide +kernel), (RX9, TX9, 6), rfl, rfl⟩
theorem mv_X9_put : jMV yX9_put cX9_put 3 (some .int) 1 8 := ⟨(kwm 558 (by decide +kernel) (by decide +kernel)), (kwm 559 (by decide +kernel) (by decide +kernel)), (kwm 1 (by decide +kernel) (by decide +kernel)), (kwm 560 (by decide +kernel) (by decide +kernel)), (by decide +kernel), (by decide +kernel), (by decide +kernel), (RX9, TX9, 6), rfl, rfl⟩
theorem mv_X9_recorded : jMV yX9_recorded cX9_recorded 2 (some .int) 1 8 := ⟨(kwm 277 (by decide +kernel) (by decide +kernel)), (kws 0 (by decide +kernel) (by decide +kernel)), (kwm 1 (by decide +kernel) (by decide +kernel)), (kwm 278 (by decide +kernel) (by decide +kernel)), (by decide +kernel), (by decide +kernel), (by decide +kernel), (RX9, TX9, 6), rfl, rfl⟩
theorem mv_X9_remove : jMV yX9_remove cX9_remove 2 (some .int) 1 8 := ⟨(kwm 316 (by decide +kernel) (by decide +kernel)), (kwm 317 (by decide +kernel) (by decide +kernel)), (kwm 1 (by decide +kernel) (by decide +kernel)), (kwm 318 (by decide +kernel) (by decide +kernel)), (by decide +kernel), (by decide +kernel), (by decide +kernel), (RX9, TX9, 6), rfl, rfl⟩
theorem mv_X9_restore : jMV yX9_restore cX9_restore 3 (some .int) 1 8 := ⟨(kwm 648 (by decide +kernel) (by decide +kernel)), (kwm 649 (by decide +kernel) (by decide +kernel)), (kwm 1 (by decide +kernel) (by decide +kernel)), (kwm 650 (by decide +kernel) (by decide +kernel)), (by decide +kernel), (by decide +kernel), (by decide +kernel), (RX9, TX9, 6), rfl, rfl⟩
theorem mv_X9_row : jMV yX9_row cX9_row 3 (some .int) 2 8 := ⟨(kwm 404 (by decide +kernel) (by decide +kernel)), (kwm 405 (by decide +kernel) (by decide +kernel)), (kwm 1 (by decide +kernel) (by decide +kernel)), (kwm 406 (by decide +kernel) (by decide +kernel)), (by decide +kernel), (by decide +kernel), (by decide +kernel), (RX9, TX9, 6), rfl, rfl⟩
theorem mv_X9_save : jMV yX9_save cX9_save 3 (some .int) 1 8 := ⟨(kwm 643 (by decide +kernel) (by decide +kernel)), (kwm 644 (by decide +kernel) (by decide +kernel)), (kwm 1 (by decide +kernel) (by decide +kernel)), (kwm 645 (by decide +kernel) (by decide +kernel)), (by decide +kernel), (by decide +kernel), (by decide +kernel), (RX9, TX9, 6), rfl, rfl⟩
theorem mv_X9_set : jMV yX9_set cX9_set 3 (some .int) 2 8 := ⟨(kwm 231 (by decide +kernel) (by decide +kernel)), (kwm 232 (by decide +kernel) (by decide +kernel)), (kwm 1 (by decide +kernel) (by decide +kernel)), (kwm 233 (by decide +kernel) (by decide +kernel)), (by decide +kernel), (by decide +kernel), (by decide +kernel), (RX9, TX9, 6), rfl, rfl⟩
theorem mv_X9_share : jMV yX9_share cX9_share 7 (some .int) 3 8 := ⟨(kwm 512 (by decide +kernel) (by decide +kernel)), (kwm 513 (by decide +kernel) (by decide +kernel)), (kwm 1 (by decide +kernel) (by decide +kernel)), (kwm 514 (by decide +kernel) (by decide +kernel)), (by decide +kernel), (by decide +kernel), (by decide +kernel), (RX9, TX9, 6), rfl, rfl⟩
theorem mv_X9_tellStale : jMV yX9_tellStale cX9_tellStale 1 (some .int) 0 8 := ⟨(kwm 446 (by decide +kernel) (by decide +kernel)), (kws 9 (by decide +kernel) (by decide +kernel)), (kwm 1 (by decide +kernel) (by decide +kernel)), (kwm 447 (by decide +kernel) (by decide +kernel)), (by decide +kernel), (by decide +kernel), (by decide +kernel), (RX9, TX9, 6), rfl, rfl⟩
theorem mv_X9_undo : jMV yX9_undo cX9_undo 1 (some .int) 0 8 := ⟨(kwm 635 (by decide +kernel) (by decide +kernel)), (kwm 636 (by decide +kernel) (by decide +kernel)), (kwm 1 (by decide +kernel) (by decide +kernel)), (kwm 637 (by decide +kernel) (by decide +kernel)), (by decide +kernel), (by decide +kernel), (by decide +kernel), (RX9, TX9, 6), rfl, rfl⟩
theorem mv_X9_wipe : jMV yX9_wipe cX9_wipe 1 (some .int) 0 8 := ⟨(kwm 571 (by decide +kernel) (by decide +kernel)), (kwm 572 (by decide +kernel) (by decide +kernel)), (kwm 1 (by decide +kernel) (by decide +kernel)), (kwm 573 (by decide +kernel) (by decide +kernel)), (by decide +kernel), (by decide +kernel), (by decide +kernel), (RX9, TX9, 6), rfl, rfl⟩
theorem mv_X9_worst : jMV yX9_worst cX9_worst 5 (some .int) 2 8 := ⟨(kwm 535 (by decide +kernel) (by decide +kernel)), (kwm 536 (by decide +kernel) (by decide +kernel)), (kwm 1 (by decide +kernel) (by decide +kernel)), (kwm 537 (by decide +kernel) (by decide +kernel)), (by decide +kernel), (by decide +kernel), (by decide +kernel), (RX9, TX9, 6), rfl, rfl⟩
theorem ml_Jxe99ae_122 : Cond.methodLink RJxe99ae 122 yJxe99ae_isNaN_b9ae7 ∈ wsL_law := kwm 778 (by decide +kernel) (by decide +kernel)
theorem ml_Jxe99ae_134 : Cond.methodLink RJxe99ae 134 ⟨"java/lang/Double", "doubleToRawLongBits", "(D)J"⟩ ∈ wsL_law := kwm 781 (by decide +kernel) (by decide +kernel)
theorem kc_Jxe99ae_137 : Cond.constantLong RJxe99ae 137 (9221120237041090560) ∈ wsL_law := kwm 784 (by decide +kernel) (by decide +kernel)
theorem ml_Jxf58ca_59 : Cond.methodLink RJxf58ca 59 yJxf58ca_isNaN_12338 ∈ wsL_law := kwm 763 (by decide +kernel) (by decide +kernel)
theorem ml_Jxf58ca_74 : Cond.methodLink RJxf58ca 74 ⟨"java/lang/Float", "floatToRawIntBits", "(F)I"⟩ ∈ wsL_law := kwm 766 (by decide +kernel) (by decide +kernel)
theorem kc_Jxf58ca_77 : Cond.constant RJxf58ca 77 (Int32.ofInt (2143289344)) ∈ wsL_law := kwm 769 (by decide +kernel) (by decide +kernel)
theorem nw_L_7 : jFN RL 7 8 [.null, .null, .null, .null, .null, .null] := ⟨RX9, TX9, 6, tyX9, rfl, ilX9, tyX9_ok, (kwm 15 (by decide +kernel) (by decide +kernel)), (kwm 16 (by decide +kernel) (by decide +kernel)), (kwm 1 (by decide +kernel) (by decide +kernel)), rfl, fun j hj => by
  rcases (show j = 0 ∨ j = 1 ∨ j = 2 ∨ j = 3 ∨ j = 4 ∨ j = 5 by omega) with rfl | rfl | rfl | rfl | rfl | rfl <;> rfl⟩
theorem ml_L_9 : Cond.methodLink RL 9 yX9_init ∈ wsL_law := kwm 17 (by decide +kernel) (by decide +kernel)
theorem nw_L_10 : jFN RL 10 9 [.null, .null, .null, jI 0, .null, .null, .null, jI 0, jI 0, .null, jI 0, .null] := ⟨RX10, TX10, 12, tyX10, rfl, ilX10, tyX10_ok, (kwm 651 (by decide +kernel) (by decide +kernel)), (kwm 652 (by decide +kernel) (by decide +kernel)), (kwm 10 (by decide +kernel) (by decide +kernel)), rfl, fun j hj => by
  rcases (show j = 0 ∨ j = 1 ∨ j = 2 ∨ j = 3 ∨ j = 4 ∨ j = 5 ∨ j = 6 ∨ j = 7 ∨ j = 8 ∨ j = 9 ∨ j = 10 ∨ j = 11 by omega) with rfl | rfl | rfl | rfl | rfl | rfl | rfl | rfl | rfl | rfl | rfl | rfl <;> rfl⟩
theorem ml_L_12 : Cond.methodLink RL 12 yX10_init ∈ wsL_law := kwm 653 (by decide +kernel) (by decide +kernel)
theorem ml_L_13 : Cond.methodLink RL 13 yX9_set ∈ wsL_law := kwm 230 (by decide +kernel) (by decide +kernel)
theorem ml_L_17 : Cond.methodLink RL 17 yX10_set ∈ wsL_law := kwm 823 (by decide +kernel) (by decide +kernel)
theorem ml_L_18 : Cond.methodLink RL 18 yX9_insert ∈ wsL_law := kwm 286 (by decide +kernel) (by decide +kernel)
theorem ml_L_21 : Cond.methodLink RL 21 yX10_insert ∈ wsL_law := kwm 834 (by decide +kernel) (by decide +kernel)
theorem ml_L_22 : Cond.methodLink RL 22 yX9_remove ∈ wsL_law := kwm 315 (by decide +kernel) (by decide +kernel)
theorem ml_L_26 : Cond.methodLink RL 26 yX10_remove ∈ wsL_law := kwm 846 (by decide +kernel) (by decide +kernel)
theorem ml_L_27 : Cond.methodLink RL 27 yX9_analyse ∈ wsL_law := kwm 332 (by decide +kernel) (by decide +kernel)
theorem ml_L_31 : Cond.methodLink RL 31 yX10_analyse ∈ wsL_law := kwm 858 (by decide +kernel) (by decide +kernel)
theorem ml_L_32 : Cond.methodLink RL 32 yX9_row ∈ wsL_law := kwm 403 (by decide +kernel) (by decide +kernel)
theorem ml_L_35 : Cond.methodLink RL 35 yX10_row ∈ wsL_law := kwm 862 (by decide +kernel) (by decide +kernel)
theorem ml_L_36 : Cond.methodLink RL 36 yX9_bucket ∈ wsL_law := kwm 412 (by decide +kernel) (by decide +kernel)
theorem ml_L_40 : Cond.methodLink RL 40 yX10_bucket ∈ wsL_law := kwm 866 (by decide +kernel) (by decide +kernel)
theorem ml_L_41 : Cond.methodLink RL 41 yX9_common ∈ wsL_law := kwm 424 (by decide +kernel) (by decide +kernel)
theorem ml_L_44 : Cond.methodLink RL 44 yX10_common ∈ wsL_law := kwm 870 (by decide +kernel) (by decide +kernel)
theorem ml_L_45 : Cond.methodLink RL 45 yX9_pair ∈ wsL_law := kwm 432 (by decide +kernel) (by decide +kernel)
theorem ml_L_48 : Cond.methodLink RL 48 yX10_pair ∈ wsL_law := kwm 874 (by decide +kernel) (by decide +kernel)
theorem ml_L_49 : Cond.methodLink RL 49 yX9_count ∈ wsL_law := kwm 440 (by decide +kernel) (by decide +kernel)
theorem ml_L_52 : Cond.methodLink RL 52 yX10_count ∈ wsL_law := kwm 878 (by decide +kernel) (by decide +kernel)
theorem ml_L_53 : Cond.methodLink RL 53 yX9_estimate ∈ wsL_law := kwm 454 (by decide +kernel) (by decide +kernel)
theorem ml_L_57 : Cond.methodLink RL 57 yX10_estimate ∈ wsL_law := kwm 717 (by decide +kernel) (by decide +kernel)
theorem ml_L_58 : Cond.methodLink RL 58 yX9_both ∈ wsL_law := kwm 495 (by decide +kernel) (by decide +kernel)
theorem ml_L_62 : Cond.methodLink RL 62 yX10_both ∈ wsL_law := kwm 744 (by decide +kernel) (by decide +kernel)
theorem ml_L_63 : Cond.methodLink RL 63 yX9_share ∈ wsL_law := kwm 511 (by decide +kernel) (by decide +kernel)
theorem ml_L_66 : Cond.methodLink RL 66 yX10_share ∈ wsL_law := kwm 756 (by decide +kernel) (by decide +kernel)
theorem ml_L_67 : Cond.methodLink RL 67 yX9_height ∈ wsL_law := kwm 522 (by decide +kernel) (by decide +kernel)
theorem ml_L_71 : Cond.methodLink RL 71 yX10_height ∈ wsL_law := kwm 770 (by decide +kernel) (by decide +kernel)
theorem ml_L_72 : Cond.methodLink RL 72 yX9_worst ∈ wsL_law := kwm 534 (by decide +kernel) (by decide +kernel)
theorem ml_L_75 : Cond.methodLink RL 75 yX10_worst ∈ wsL_law := kwm 785 (by decide +kernel) (by decide +kernel)
theorem ml_L_76 : Cond.methodLink RL 76 yX9_fewest ∈ wsL_law := kwm 552 (by decide +kernel) (by decide +kernel)
theorem ml_L_79 : Cond.methodLink RL 79 yX10_fewest ∈ wsL_law := kwm 798 (by decide +kernel) (by decide +kernel)
theorem kc_L_80 : Cond.constantLong RL 80 (4294967295) ∈ wsL_law := kwm 937 (by decide +kernel) (by decide +kernel)
theorem ml_L_82 : Cond.methodLink RL 82 yX9_put ∈ wsL_law := kwm 557 (by decide +kernel) (by decide +kernel)
theorem ml_L_86 : Cond.methodLink RL 86 yX10_put ∈ wsL_law := kwm 882 (by decide +kernel) (by decide +kernel)
theorem ml_L_87 : Cond.methodLink RL 87 yX9_wipe ∈ wsL_law := kwm 570 (by decide +kernel) (by decide +kernel)
theorem ml_L_90 : Cond.methodLink RL 90 yX10_wipe ∈ wsL_law := kwm 893 (by decide +kernel) (by decide +kernel)
theorem ml_L_91 : Cond.methodLink RL 91 yX9_fault ∈ wsL_law := kwm 578 (by decide +kernel) (by decide +kernel)
theorem ml_L_94 : Cond.methodLink RL 94 yX10_fault ∈ wsL_law := kwm 897 (by decide +kernel) (by decide +kernel)
theorem ml_L_95 : Cond.methodLink RL 95 yX9_carryOut ∈ wsL_law := kwm 618 (by decide +kernel) (by decide +kernel)
theorem ml_L_98 : Cond.methodLink RL 98 yX10_carryOut ∈ wsL_law := kwm 925 (by decide +kernel) (by decide +kernel)
theorem ml_L_99 : Cond.methodLink RL 99 yX9_undo ∈ wsL_law := kwm 634 (by decide +kernel) (by decide +kernel)
theorem ml_L_102 : Cond.methodLink RL 102 yX10_undo ∈ wsL_law := kwm 695 (by decide +kernel) (by decide +kernel)
theorem ml_L_103 : Cond.methodLink RL 103 yX9_save ∈ wsL_law := kwm 642 (by decide +kernel) (by decide +kernel)
theorem ml_L_106 : Cond.methodLink RL 106 yX10_save ∈ wsL_law := kwm 702 (by decide +kernel) (by decide +kernel)
theorem ml_L_107 : Cond.methodLink RL 107 yX9_restore ∈ wsL_law := kwm 647 (by decide +kernel) (by decide +kernel)
theorem ml_L_110 : Cond.methodLink RL 110 yX10_restore ∈ wsL_law := kwm 709 (by decide +kernel) (by decide +kernel)
theorem fg_X0_12 : jFG RX0 12 0 0 := ⟨RX0, TX0, 5, rfl, ilX0, (kwm 113 (by decide +kernel) (by decide +kernel)), by decide⟩
theorem ml_X0_64 : Cond.methodLink RX0 64 yX2_copyFrom ∈ wsL_law := kwm 255 (by decide +kernel) (by decide +kernel)
theorem fg_X0_18 : jFG RX0 18 0 1 := ⟨RX0, TX0, 5, rfl, ilX0, (kwm 114 (by decide +kernel) (by decide +kernel)), by decide⟩
theorem fg_X0_24 : jFG RX0 24 0 2 := ⟨RX0, TX0, 5, rfl, ilX0, (kwm 115 (by decide +kernel) (by decide +kernel)), by decide⟩
theorem ml_X0_68 : Cond.methodLink RX0 68 yX5_copyFrom ∈ wsL_law := kwm 260 (by decide +kernel) (by decide +kernel)
theorem fg_X0_28 : jFG RX0 28 0 3 := ⟨RX0, TX0, 5, rfl, ilX0, (kwm 117 (by decide +kernel) (by decide +kernel)), by decide⟩
theorem fp_X0_28 (z : Int) : jFP RX0 28 0 3 false (jI z) := ⟨RX0, TX0, 5, tyX0, .int, rfl, ilX0, (kwm 117 (by decide +kernel) (by decide +kernel)), by decide, tyX0_ok, nmX0, rfl, by decide +kernel, rfl, rfl⟩
theorem fg_X0_44 : jFG RX0 44 0 4 := ⟨RX0, TX0, 5, rfl, ilX0, (kwm 120 (by decide +kernel) (by decide +kernel)), by decide⟩
theorem fp_X0_44 (z : Int) : jFP RX0 44 0 4 false (jI z) := ⟨RX0, TX0, 5, tyX0, .int, rfl, ilX0, (kwm 120 (by decide +kernel) (by decide +kernel)), by decide, tyX0_ok, nmX0, rfl, by decide +kernel, rfl, rfl⟩
theorem ml_X0_51 : Cond.methodLink RX0 51 yX5_rowsInside ∈ wsL_law := kwm 504 (by decide +kernel) (by decide +kernel)
theorem ml_X0_55 : Cond.methodLink RX0 55 yX2_guess ∈ wsL_law := kwm 509 (by decide +kernel) (by decide +kernel)
theorem ml_X0_59 : Cond.methodLink RX0 59 Lib.Math.max.name ∈ wsL_law := kwm 510 (by decide +kernel) (by decide +kernel)
theorem ml_X0_3 : Cond.methodLink RX0 3 objectInit ∈ wsL_law := kwm 56 (by decide +kernel) (by decide +kernel)
theorem nw_X0_9 : jFN RX0 9 1 [.null, .null, .null, jI 0, .null, .null, .null, .null, jI 0] := ⟨RX2, TX2, 9, tyX2, rfl, ilX2, tyX2_ok, (kwm 57 (by decide +kernel) (by decide +kernel)), (kwm 58 (by decide +kernel) (by decide +kernel)), (kwm 5 (by decide +kernel) (by decide +kernel)), rfl, fun j hj => by
  rcases (show j = 0 ∨ j = 1 ∨ j = 2 ∨ j = 3 ∨ j = 4 ∨ j = 5 ∨ j = 6 ∨ j = 7 ∨ j = 8 by omega) with rfl | rfl | rfl | rfl | rfl | rfl | rfl | rfl | rfl <;> rfl⟩
theorem ml_X0_11 : Cond.methodLinkNest RX0 11 yX2_init "EqualHeights" ∈ jNest := kwn 59 (by decide +kernel) (by decide +kernel)
theorem fp_X0_12 (a : Nat) : jFP RX0 12 0 0 true (.ref a) := ⟨RX0, TX0, 5, tyX0, .object "EqualHeights$ColumnFacts", rfl, ilX0, (kwm 113 (by decide +kernel) (by decide +kernel)), by decide, tyX0_ok, nmX0, rfl, by decide +kernel, rfl, rfl⟩
theorem fd_X0_0 : jdecl 0 0 RX0 := fun r h => by cases h; rfl
theorem fp_X0_18 (a : Nat) : jFP RX0 18 0 1 true (.ref a) := ⟨RX0, TX0, 5, tyX0, .object "EqualHeights$ColumnFacts", rfl, ilX0, (kwm 114 (by decide +kernel) (by decide +kernel)), by decide, tyX0_ok, nmX0, rfl, by decide +kernel, rfl, rfl⟩
theorem fd_X0_1 : jdecl 0 1 RX0 := fun r h => by cases h; rfl
theorem nw_X0_21 : jFN RX0 21 4 [.null, .null, .null, jI 0] := ⟨RX5, TX5, 4, tyX5, rfl, ilX5, tyX5_ok, (kwm 93 (by decide +kernel) (by decide +kernel)), (kwm 94 (by decide +kernel) (by decide +kernel)), (kwm 6 (by decide +kernel) (by decide +kernel)), rfl, fun j hj => by
  rcases (show j = 0 ∨ j = 1 ∨ j = 2 ∨ j = 3 by omega) with rfl | rfl | rfl | rfl <;> rfl⟩
theorem ml_X0_23 : Cond.methodLinkNest RX0 23 yX5_init "EqualHeights" ∈ jNest := kwn 95 (by decide +kernel) (by decide +kernel)
theorem fp_X0_24 (a : Nat) : jFP RX0 24 0 2 true (.ref a) := ⟨RX0, TX0, 5, tyX0, .object "EqualHeights$PairFacts", rfl, ilX0, (kwm 115 (by decide +kernel) (by decide +kernel)), by decide, tyX0_ok, nmX0, rfl, by decide +kernel, rfl, rfl⟩
theorem fd_X0_2 : jdecl 0 2 RX0 := fun r h => by cases h; rfl
theorem ml_X0_32 : Cond.methodLink RX0 32 yX2_learn ∈ wsL_law := kwm 348 (by decide +kernel) (by decide +kernel)
theorem ml_X0_36 : Cond.methodLink RX0 36 yX5_learn ∈ wsL_law := kwm 390 (by decide +kernel) (by decide +kernel)
theorem fg_X0_39 : jFGn RX0 39 7 2 := ⟨RX8, TX8, 3, "EqualHeights", rfl, ilX8, (kwn 40 (by decide +kernel) (by decide +kernel)), by decide⟩
theorem ml_X0_47 : Cond.methodLink RX0 47 yX0_isMade ∈ wsL_law := kwm 311 (by decide +kernel) (by decide +kernel)
theorem fg_X10_7 : jFG RX10 7 9 0 := ⟨RX10, TX10, 12, rfl, ilX10, (kwm 657 (by decide +kernel) (by decide +kernel)), by decide⟩
theorem ml_X10_47 : Cond.methodLink RX10 47 yX10_records ∈ wsL_law := kwm 713 (by decide +kernel) (by decide +kernel)
theorem ml_X10_126 : Cond.methodLink RX10 126 yX10_analyses ∈ wsL_law := kwm 802 (by decide +kernel) (by decide +kernel)
theorem ml_X10_54 : Cond.methodLink RX10 54 yX10_of ∈ wsL_law := kwm 734 (by decide +kernel) (by decide +kernel)
theorem ml_X10_64 : Cond.methodLink RX10 64 yX10_chooses ∈ wsL_law := kwm 806 (by decide +kernel) (by decide +kernel)
theorem ml_X10_68 : Cond.methodLink RX10 68 yX10_cuts ∈ wsL_law := kwm 810 (by decide +kernel) (by decide +kernel)
theorem ml_X10_71 : Cond.methodLink RX10 71 yX10_pairs ∈ wsL_law := kwm 814 (by decide +kernel) (by decide +kernel)
theorem ml_X10_75 : Cond.methodLink RX10 75 yX10_isValue ∈ wsL_law := kwm 727 (by decide +kernel) (by decide +kernel)
theorem ml_X10_35 : Cond.methodLink RX10 35 yX10_in ∈ wsL_law := kwm 706 (by decide +kernel) (by decide +kernel)
theorem ml_X10_82 : Cond.methodLink RX10 82 yX10_areBounds ∈ wsL_law := kwm 724 (by decide +kernel) (by decide +kernel)
theorem ml_X10_102 : Cond.methodLink RX10 102 yX10_bothOf ∈ wsL_law := kwm 748 (by decide +kernel) (by decide +kernel)
theorem ml_X10_94 : Cond.methodLink RX10 94 yX10_scaled ∈ wsL_law := kwm 740 (by decide +kernel) (by decide +kernel)
theorem ml_X10_90 : Cond.methodLink RX10 90 yX10_estimated ∈ wsL_law := kwm 737 (by decide +kernel) (by decide +kernel)
theorem ml_X10_98 : Cond.methodLink RX10 98 yX10_paired ∈ wsL_law := kwm 752 (by decide +kernel) (by decide +kernel)
theorem ml_X10_79 : Cond.methodLink RX10 79 yX10_isColumn ∈ wsL_law := kwm 721 (by decide +kernel) (by decide +kernel)
theorem kc_X10_151 : Cond.constantLong RX10 151 (255) ∈ wsL_law := kwm 892 (by decide +kernel) (by decide +kernel)
theorem ml_X10_183 : Cond.methodLink RX10 183 yX10_isText ∈ wsL_law := kwm 901 (by decide +kernel) (by decide +kernel)
theorem fp_X10_148 (z : Int) : jFP RX10 148 9 7 false (jI z) := ⟨RX10, TX10, 12, tyX10, .int, rfl, ilX10, (kwm 664 (by decide +kernel) (by decide +kernel)), by decide, tyX10_ok, nmX10, rfl, by decide +kernel, rfl, rfl⟩
theorem fg_X10_167 : jFG RX10 167 9 10 := ⟨RX10, TX10, 12, rfl, ilX10, (kwm 667 (by decide +kernel) (by decide +kernel)), by decide⟩
theorem ml_X10_189 : Cond.methodLink RX10 189 yX10_does ∈ wsL_law := kwm 929 (by decide +kernel) (by decide +kernel)
theorem fg_X10_32 : jFG RX10 32 9 11 := ⟨RX10, TX10, 12, rfl, ilX10, (kwm 668 (by decide +kernel) (by decide +kernel)), by decide⟩
theorem ml_X10_50 : Cond.methodLink RX10 50 yX10_had ∈ wsL_law := kwm 795 (by decide +kernel) (by decide +kernel)
theorem ml_X10_136 : Cond.methodLink RX10 136 yX10_mayCome ∈ wsL_law := kwm 838 (by decide +kernel) (by decide +kernel)
theorem ml_X10_139 : Cond.methodLink RX10 139 yX10_comes ∈ wsL_law := kwm 842 (by decide +kernel) (by decide +kernel)
theorem fg_X10_148 : jFG RX10 148 9 7 := ⟨RX10, TX10, 12, rfl, ilX10, (kwm 664 (by decide +kernel) (by decide +kernel)), by decide⟩
theorem fg_X10_39 : jFG RX10 39 9 3 := ⟨RX10, TX10, 12, rfl, ilX10, (kwm 660 (by decide +kernel) (by decide +kernel)), by decide⟩
theorem fg_X10_29 : jFG RX10 29 9 9 := ⟨RX10, TX10, 12, rfl, ilX10, (kwm 666 (by decide +kernel) (by decide +kernel)), by decide⟩
theorem ml_X10_186 : Cond.methodLink RX10 186 yX10_comeOften ∈ wsL_law := kwm 933 (by decide +kernel) (by decide +kernel)
theorem ml_X10_142 : Cond.methodLink RX10 142 yX10_isRow ∈ wsL_law := kwm 850 (by decide +kernel) (by decide +kernel)
theorem ml_X10_129 : Cond.methodLink RX10 129 yX10_isFor ∈ wsL_law := kwm 827 (by decide +kernel) (by decide +kernel)
theorem ml_X10_145 : Cond.methodLink RX10 145 yX10_goes ∈ wsL_law := kwm 854 (by decide +kernel) (by decide +kernel)
theorem ml_X10_132 : Cond.methodLink RX10 132 yX10_sets ∈ wsL_law := kwm 830 (by decide +kernel) (by decide +kernel)
theorem ml_X10_86 : Cond.methodLink RX10 86 yX10_truly ∈ wsL_law := kwm 730 (by decide +kernel) (by decide +kernel)
theorem fg_X10_161 : jFG RX10 161 9 8 := ⟨RX10, TX10, 12, rfl, ilX10, (kwm 665 (by decide +kernel) (by decide +kernel)), by decide⟩
theorem fg_X10_13 : jFG RX10 13 9 1 := ⟨RX10, TX10, 12, rfl, ilX10, (kwm 658 (by decide +kernel) (by decide +kernel)), by decide⟩
theorem ml_X10_43 : Cond.methodLink RX10 43 yX10_lays ∈ wsL_law := kwm 699 (by decide +kernel) (by decide +kernel)
theorem ml_X10_122 : Cond.methodLink RX10 122 yX10_worstOf ∈ wsL_law := kwm 789 (by decide +kernel) (by decide +kernel)
theorem ml_X10_119 : Cond.methodLink RX10 119 yX10_off ∈ wsL_law := kwm 792 (by decide +kernel) (by decide +kernel)
theorem kc_X10_111 : Cond.constantLong RX10 111 (-2) ∈ wsL_law := kwm 774 (by decide +kernel) (by decide +kernel)
theorem ml_X10_113 : Cond.methodLink RX10 113 yJxe99ae_doubleToLongBits_ccdee ∈ wsL_law := kwm 775 (by decide +kernel) (by decide +kernel)
theorem ml_X10_1 : Cond.methodLink RX10 1 objectInit ∈ wsL_law := kwm 656 (by decide +kernel) (by decide +kernel)
theorem fp_X10_7 (a : Nat) : jFP RX10 7 9 0 true (.ref a) := ⟨RX10, TX10, 12, tyX10, .array .int, rfl, ilX10, (kwm 657 (by decide +kernel) (by decide +kernel)), by decide, tyX10_ok, nmX10, rfl, by decide +kernel, rfl, rfl⟩
theorem fd_X10_0 : jdecl 9 0 RX10 := fun r h => by cases h; rfl
theorem fp_X10_13 (a : Nat) : jFP RX10 13 9 1 true (.ref a) := ⟨RX10, TX10, 12, tyX10, .array .int, rfl, ilX10, (kwm 658 (by decide +kernel) (by decide +kernel)), by decide, tyX10_ok, nmX10, rfl, by decide +kernel, rfl, rfl⟩
theorem fd_X10_1 : jdecl 9 1 RX10 := fun r h => by cases h; rfl
theorem fp_X10_16 (a : Nat) : jFP RX10 16 9 2 true (.ref a) := ⟨RX10, TX10, 12, tyX10, .array .int, rfl, ilX10, (kwm 659 (by decide +kernel) (by decide +kernel)), by decide, tyX10_ok, nmX10, rfl, by decide +kernel, rfl, rfl⟩
theorem fd_X10_2 : jdecl 9 2 RX10 := fun r h => by cases h; rfl
theorem fp_X10_19 (a : Nat) : jFP RX10 19 9 4 true (.ref a) := ⟨RX10, TX10, 12, tyX10, .array .int, rfl, ilX10, (kwm 661 (by decide +kernel) (by decide +kernel)), by decide, tyX10_ok, nmX10, rfl, by decide +kernel, rfl, rfl⟩
theorem fd_X10_4 : jdecl 9 4 RX10 := fun r h => by cases h; rfl
theorem fp_X10_22 (a : Nat) : jFP RX10 22 9 5 true (.ref a) := ⟨RX10, TX10, 12, tyX10, .array .boolean, rfl, ilX10, (kwm 662 (by decide +kernel) (by decide +kernel)), by decide, tyX10_ok, nmX10, rfl, by decide +kernel, rfl, rfl⟩
theorem fd_X10_5 : jdecl 9 5 RX10 := fun r h => by cases h; rfl
theorem fp_X10_26 (a : Nat) : jFP RX10 26 9 6 true (.ref a) := ⟨RX10, TX10, 12, tyX10, .array .int, rfl, ilX10, (kwm 663 (by decide +kernel) (by decide +kernel)), by decide, tyX10_ok, nmX10, rfl, by decide +kernel, rfl, rfl⟩
theorem fd_X10_6 : jdecl 9 6 RX10 := fun r h => by cases h; rfl
theorem fp_X10_29 (a : Nat) : jFP RX10 29 9 9 true (.ref a) := ⟨RX10, TX10, 12, tyX10, .array .int, rfl, ilX10, (kwm 666 (by decide +kernel) (by decide +kernel)), by decide, tyX10_ok, nmX10, rfl, by decide +kernel, rfl, rfl⟩
theorem fd_X10_9 : jdecl 9 9 RX10 := fun r h => by cases h; rfl
theorem fp_X10_32 (a : Nat) : jFP RX10 32 9 11 true (.ref a) := ⟨RX10, TX10, 12, tyX10, .array .int, rfl, ilX10, (kwm 668 (by decide +kernel) (by decide +kernel)), by decide, tyX10_ok, nmX10, rfl, by decide +kernel, rfl, rfl⟩
theorem fd_X10_11 : jdecl 9 11 RX10 := fun r h => by cases h; rfl
theorem fg_X10_26 : jFG RX10 26 9 6 := ⟨RX10, TX10, 12, rfl, ilX10, (kwm 663 (by decide +kernel) (by decide +kernel)), by decide⟩
theorem ml_X10_170 : Cond.methodLink RX10 170 yX10_isNumber ∈ wsL_law := kwm 913 (by decide +kernel) (by decide +kernel)
theorem ml_X10_173 : Cond.methodLink RX10 173 yX10_isSign ∈ wsL_law := kwm 921 (by decide +kernel) (by decide +kernel)
theorem ml_X10_164 : Cond.methodLink RX10 164 yX10_isAt ∈ wsL_law := kwm 917 (by decide +kernel) (by decide +kernel)
theorem fp_X10_161 (z : Int) : jFP RX10 161 9 8 false (jI z) := ⟨RX10, TX10, 12, tyX10, .int, rfl, ilX10, (kwm 665 (by decide +kernel) (by decide +kernel)), by decide, tyX10_ok, nmX10, rfl, by decide +kernel, rfl, rfl⟩
theorem ml_X10_176 : Cond.methodLink RX10 176 yX10_isComing ∈ wsL_law := kwm 909 (by decide +kernel) (by decide +kernel)
theorem fp_X10_167 (z : Int) : jFP RX10 167 9 10 false (jI z) := ⟨RX10, TX10, 12, tyX10, .int, rfl, ilX10, (kwm 667 (by decide +kernel) (by decide +kernel)), by decide, tyX10_ok, nmX10, rfl, by decide +kernel, rfl, rfl⟩
theorem ml_X10_180 : Cond.methodLink RX10 180 yX10_isOrder ∈ wsL_law := kwm 905 (by decide +kernel) (by decide +kernel)
theorem ml_X10_57 : Cond.methodLink RX10 57 yX10_rowsWith ∈ wsL_law := kwm 817 (by decide +kernel) (by decide +kernel)
theorem ml_X10_60 : Cond.methodLink RX10 60 yX10_isPaired ∈ wsL_law := kwm 820 (by decide +kernel) (by decide +kernel)
theorem ml_X10_157 : Cond.methodLink RX10 157 yX10_toldBy ∈ wsL_law := kwm 886 (by decide +kernel) (by decide +kernel)
theorem ml_X10_153 : Cond.methodLink RX10 153 yX10_byteOf ∈ wsL_law := kwm 889 (by decide +kernel) (by decide +kernel)
theorem fg_X10_16 : jFG RX10 16 9 2 := ⟨RX10, TX10, 12, rfl, ilX10, (kwm 659 (by decide +kernel) (by decide +kernel)), by decide⟩
theorem fp_X10_39 (z : Int) : jFP RX10 39 9 3 false (jI z) := ⟨RX10, TX10, 12, tyX10, .int, rfl, ilX10, (kwm 660 (by decide +kernel) (by decide +kernel)), by decide, tyX10_ok, nmX10, rfl, by decide +kernel, rfl, rfl⟩
theorem fg_X10_22 : jFG RX10 22 9 5 := ⟨RX10, TX10, 12, rfl, ilX10, (kwm 662 (by decide +kernel) (by decide +kernel)), by decide⟩
theorem fg_X10_19 : jFG RX10 19 9 4 := ⟨RX10, TX10, 12, rfl, ilX10, (kwm 661 (by decide +kernel) (by decide +kernel)), by decide⟩
theorem ml_X10_105 : Cond.methodLink RX10 105 yJxf58ca_floatToIntBits_5c35a ∈ wsL_law := kwm 760 (by decide +kernel) (by decide +kernel)
theorem kc_X1_13 : Cond.constantDouble RX1 13 (4611686018427387904) ∈ wsL_law := kwm 521 (by decide +kernel) (by decide +kernel)
theorem ml_X1_7 : Cond.methodLink RX1 7 yX1_bits ∈ wsL_law := kwm 518 (by decide +kernel) (by decide +kernel)
theorem fg_X2_68 : jFG RX2 68 1 8 := ⟨RX2, TX2, 9, rfl, ilX2, (kwm 72 (by decide +kernel) (by decide +kernel)), by decide⟩
theorem fg_X2_24 : jFG RX2 24 1 5 := ⟨RX2, TX2, 9, rfl, ilX2, (kwm 69 (by decide +kernel) (by decide +kernel)), by decide⟩
theorem fg_X2_30 : jFG RX2 30 1 7 := ⟨RX2, TX2, 9, rfl, ilX2, (kwm 71 (by decide +kernel) (by decide +kernel)), by decide⟩
theorem fg_X2_27 : jFG RX2 27 1 6 := ⟨RX2, TX2, 9, rfl, ilX2, (kwm 70 (by decide +kernel) (by decide +kernel)), by decide⟩
theorem fp_X2_55 (z : Int) : jFP RX2 55 1 3 false (jI z) := ⟨RX2, TX2, 9, tyX2, .int, rfl, ilX2, (kwm 66 (by decide +kernel) (by decide +kernel)), by decide, tyX2_ok, nmX2, rfl, by decide +kernel, rfl, rfl⟩
theorem kc_X2_58 : Cond.constant RX2 58 (Int32.ofInt (1000000)) ∈ wsL_law := kwm 364 (by decide +kernel) (by decide +kernel)
theorem ml_X2_59 : Cond.methodLink RX2 59 yX2_nextRank ∈ wsL_law := kwm 365 (by decide +kernel) (by decide +kernel)
theorem fg_X2_15 : jFG RX2 15 1 1 := ⟨RX2, TX2, 9, rfl, ilX2, (kwm 64 (by decide +kernel) (by decide +kernel)), by decide⟩
theorem fg_X2_18 : jFG RX2 18 1 2 := ⟨RX2, TX2, 9, rfl, ilX2, (kwm 65 (by decide +kernel) (by decide +kernel)), by decide⟩
theorem fg_X2_55 : jFG RX2 55 1 3 := ⟨RX2, TX2, 9, rfl, ilX2, (kwm 66 (by decide +kernel) (by decide +kernel)), by decide⟩
theorem fg_X2_9 : jFG RX2 9 1 0 := ⟨RX2, TX2, 9, rfl, ilX2, (kwm 63 (by decide +kernel) (by decide +kernel)), by decide⟩
theorem ml_X2_106 : Cond.methodLinkNest RX2 106 yX9_copyNumbers "EqualHeights" ∈ jNest := kwn 259 (by decide +kernel) (by decide +kernel)
theorem fg_X2_21 : jFG RX2 21 1 4 := ⟨RX2, TX2, 9, rfl, ilX2, (kwm 68 (by decide +kernel) (by decide +kernel)), by decide⟩
theorem fp_X2_68 (z : Int) : jFP RX2 68 1 8 false (jI z) := ⟨RX2, TX2, 9, tyX2, .int, rfl, ilX2, (kwm 72 (by decide +kernel) (by decide +kernel)), by decide, tyX2_ok, nmX2, rfl, by decide +kernel, rfl, rfl⟩
theorem fg_X2_41 : jFGn RX2 41 7 2 := ⟨RX8, TX8, 3, "EqualHeights", rfl, ilX8, (kwn 38 (by decide +kernel) (by decide +kernel)), by decide⟩
theorem ml_X2_51 : Cond.methodLink RX2 51 yX8_value ∈ wsL_law := kwm 356 (by decide +kernel) (by decide +kernel)
theorem ml_X2_63 : Cond.methodLink RX2 63 Lib.Math.min.name ∈ wsL_law := kwm 373 (by decide +kernel) (by decide +kernel)
theorem ml_X2_71 : Cond.methodLink RX2 71 yX2_isCommon ∈ wsL_law := kwm 374 (by decide +kernel) (by decide +kernel)
theorem ml_X2_75 : Cond.methodLink RX2 75 yX2_fullHeight ∈ wsL_law := kwm 378 (by decide +kernel) (by decide +kernel)
theorem ml_X2_78 : Cond.methodLink RX2 78 yX2_startBucket ∈ wsL_law := kwm 382 (by decide +kernel) (by decide +kernel)
theorem ml_X2_81 : Cond.methodLink RX2 81 yX2_addToBucket ∈ wsL_law := kwm 386 (by decide +kernel) (by decide +kernel)
theorem ml_X2_88 : Cond.methodLink RX2 88 yX2_rowsOfCommon ∈ wsL_law := kwm 475 (by decide +kernel) (by decide +kernel)
theorem ml_X2_91 : Cond.methodLink RX2 91 Lib.Math.max.name ∈ wsL_law := kwm 480 (by decide +kernel) (by decide +kernel)
theorem ml_X2_3 : Cond.methodLink RX2 3 objectInit ∈ wsL_law := kwm 62 (by decide +kernel) (by decide +kernel)
theorem fp_X2_9 (a : Nat) : jFP RX2 9 1 0 true (.ref a) := ⟨RX2, TX2, 9, tyX2, .array .int, rfl, ilX2, (kwm 63 (by decide +kernel) (by decide +kernel)), by decide, tyX2_ok, nmX2, rfl, by decide +kernel, rfl, rfl⟩
theorem fd_X2_0 : jdecl 1 0 RX2 := fun r h => by cases h; rfl
theorem fp_X2_15 (a : Nat) : jFP RX2 15 1 1 true (.ref a) := ⟨RX2, TX2, 9, tyX2, .array .int, rfl, ilX2, (kwm 64 (by decide +kernel) (by decide +kernel)), by decide, tyX2_ok, nmX2, rfl, by decide +kernel, rfl, rfl⟩
theorem fd_X2_1 : jdecl 1 1 RX2 := fun r h => by cases h; rfl
theorem fp_X2_18 (a : Nat) : jFP RX2 18 1 2 true (.ref a) := ⟨RX2, TX2, 9, tyX2, .array .int, rfl, ilX2, (kwm 65 (by decide +kernel) (by decide +kernel)), by decide, tyX2_ok, nmX2, rfl, by decide +kernel, rfl, rfl⟩
theorem fd_X2_2 : jdecl 1 2 RX2 := fun r h => by cases h; rfl
theorem fp_X2_21 (a : Nat) : jFP RX2 21 1 4 true (.ref a) := ⟨RX2, TX2, 9, tyX2, .array .int, rfl, ilX2, (kwm 68 (by decide +kernel) (by decide +kernel)), by decide, tyX2_ok, nmX2, rfl, by decide +kernel, rfl, rfl⟩
theorem fd_X2_4 : jdecl 1 4 RX2 := fun r h => by cases h; rfl
theorem fp_X2_24 (a : Nat) : jFP RX2 24 1 5 true (.ref a) := ⟨RX2, TX2, 9, tyX2, .array .int, rfl, ilX2, (kwm 69 (by decide +kernel) (by decide +kernel)), by decide, tyX2_ok, nmX2, rfl, by decide +kernel, rfl, rfl⟩
theorem fd_X2_5 : jdecl 1 5 RX2 := fun r h => by cases h; rfl
theorem fp_X2_27 (a : Nat) : jFP RX2 27 1 6 true (.ref a) := ⟨RX2, TX2, 9, tyX2, .array .int, rfl, ilX2, (kwm 70 (by decide +kernel) (by decide +kernel)), by decide, tyX2_ok, nmX2, rfl, by decide +kernel, rfl, rfl⟩
theorem fd_X2_6 : jdecl 1 6 RX2 := fun r h => by cases h; rfl
theorem fp_X2_30 (a : Nat) : jFP RX2 30 1 7 true (.ref a) := ⟨RX2, TX2, 9, tyX2, .array .int, rfl, ilX2, (kwm 71 (by decide +kernel) (by decide +kernel)), by decide, tyX2_ok, nmX2, rfl, by decide +kernel, rfl, rfl⟩
theorem fd_X2_7 : jdecl 1 7 RX2 := fun r h => by cases h; rfl
theorem ml_X2_33 : Cond.methodLink RX2 33 yX2_countValues ∈ wsL_law := kwm 352 (by decide +kernel) (by decide +kernel)
theorem ml_X2_37 : Cond.methodLink RX2 37 yX2_chooseCommon ∈ wsL_law := kwm 360 (by decide +kernel) (by decide +kernel)
theorem ml_X2_47 : Cond.methodLink RX2 47 yX2_cutBuckets ∈ wsL_law := kwm 369 (by decide +kernel) (by decide +kernel)
theorem ml_X2_94 : Cond.methodLinkNest RX2 94 yX9_isValue "EqualHeights" ∈ jNest := kwn 546 (by decide +kernel) (by decide +kernel)
theorem ml_X2_97 : Cond.methodLink RX2 97 yX2_guess ∈ wsL_law := kwm 547 (by decide +kernel) (by decide +kernel)
theorem ml_X2_100 : Cond.methodLink RX2 100 Lib.Math.abs.name ∈ wsL_law := kwm 548 (by decide +kernel) (by decide +kernel)
theorem ml_X2_84 : Cond.methodLinkNest RX2 84 yX9_isBetween "EqualHeights" ∈ jNest := kwn 479 (by decide +kernel) (by decide +kernel)
theorem ml_X2_103 : Cond.methodLink RX2 103 yX2_miss ∈ wsL_law := kwm 542 (by decide +kernel) (by decide +kernel)
theorem fg_X3_17 : jFG RX3 17 2 1 := ⟨RX3, TX3, 3, rfl, ilX3, (kwm 154 (by decide +kernel) (by decide +kernel)), by decide⟩
theorem fg_X3_26 : jFG RX3 26 2 2 := ⟨RX3, TX3, 3, rfl, ilX3, (kwm 155 (by decide +kernel) (by decide +kernel)), by decide⟩
theorem fg_X3_13 : jFG RX3 13 2 0 := ⟨RX3, TX3, 3, rfl, ilX3, (kwm 153 (by decide +kernel) (by decide +kernel)), by decide⟩
theorem ml_X3_22 : Cond.methodLink RX3 22 yX7_copyFrom ∈ wsL_law := kwm 239 (by decide +kernel) (by decide +kernel)
theorem fp_X3_17 (z : Int) : jFP RX3 17 2 1 false (jI z) := ⟨RX3, TX3, 3, tyX3, .int, rfl, ilX3, (kwm 154 (by decide +kernel) (by decide +kernel)), by decide, tyX3_ok, nmX3, rfl, by decide +kernel, rfl, rfl⟩
theorem fp_X3_26 (z : Int) : jFP RX3 26 2 2 false (jI z) := ⟨RX3, TX3, 3, tyX3, .int, rfl, ilX3, (kwm 155 (by decide +kernel) (by decide +kernel)), by decide, tyX3_ok, nmX3, rfl, by decide +kernel, rfl, rfl⟩
theorem ml_X3_3 : Cond.methodLink RX3 3 objectInit ∈ wsL_law := kwm 151 (by decide +kernel) (by decide +kernel)
theorem kq_X3_11 : Cond.classLink RX3 11 "EqualHeights$State" ∈ wsL_law := kwm 152 (by decide +kernel) (by decide +kernel)
theorem fp_X3_13 (a : Nat) : jFP RX3 13 2 0 true (.ref a) := ⟨RX3, TX3, 3, tyX3, .array (.object "EqualHeights$State"), rfl, ilX3, (kwm 153 (by decide +kernel) (by decide +kernel)), by decide, tyX3_ok, nmX3, rfl, by decide +kernel, rfl, rfl⟩
theorem fd_X3_0 : jdecl 2 0 RX3 := fun r h => by cases h; rfl
theorem ml_X3_29 : Cond.methodLink RX3 29 Lib.Math.min.name ∈ wsL_law := kwm 283 (by decide +kernel) (by decide +kernel)
theorem nw_X3_11 : jFN RX3 11 6 [.null, .null, .null] := ⟨RX7, TX7, 3, tyX7, rfl, ilX7, tyX7_ok, (kwm 152 (by decide +kernel) (by decide +kernel)), (kwm 24 (by decide +kernel) (by decide +kernel)), (kwm 2 (by decide +kernel) (by decide +kernel)), rfl, fun j hj => by
  rcases (show j = 0 ∨ j = 1 ∨ j = 2 by omega) with rfl | rfl | rfl <;> rfl⟩
theorem ml_X3_21 : Cond.methodLinkNest RX3 21 yX7_init "EqualHeights" ∈ jNest := kwn 238 (by decide +kernel) (by decide +kernel)
theorem ml_X4_15 : Cond.methodLink RX4 15 yX4_signsIn ∈ wsL_law := kwm 565 (by decide +kernel) (by decide +kernel)
theorem fg_X4_19 : jFG RX4 19 3 1 := ⟨RX4, TX4, 2, rfl, ilX4, (kwm 171 (by decide +kernel) (by decide +kernel)), by decide⟩
theorem fg_X4_9 : jFG RX4 9 3 0 := ⟨RX4, TX4, 2, rfl, ilX4, (kwm 170 (by decide +kernel) (by decide +kernel)), by decide⟩
theorem kc_X4_23 : Cond.constantLong RX4 23 (255) ∈ wsL_law := kwm 568 (by decide +kernel) (by decide +kernel)
theorem fp_X4_19 (z : Int) : jFP RX4 19 3 1 false (jI z) := ⟨RX4, TX4, 2, tyX4, .int, rfl, ilX4, (kwm 171 (by decide +kernel) (by decide +kernel)), by decide, tyX4_ok, nmX4, rfl, by decide +kernel, rfl, rfl⟩
theorem ml_X4_3 : Cond.methodLink RX4 3 objectInit ∈ wsL_law := kwm 169 (by decide +kernel) (by decide +kernel)
theorem fp_X4_9 (a : Nat) : jFP RX4 9 3 0 true (.ref a) := ⟨RX4, TX4, 2, tyX4, .array .char, rfl, ilX4, (kwm 170 (by decide +kernel) (by decide +kernel)), by decide, tyX4_ok, nmX4, rfl, by decide +kernel, rfl, rfl⟩
theorem fd_X4_0 : jdecl 3 0 RX4 := fun r h => by cases h; rfl
theorem ml_X4_25 : Cond.methodLinkNest RX4 25 yX9_isBetween "EqualHeights" ∈ jNest := kwn 569 (by decide +kernel) (by decide +kernel)
theorem fg_X5_9 : jFG RX5 9 4 0 := ⟨RX5, TX5, 4, rfl, ilX5, (kwm 99 (by decide +kernel) (by decide +kernel)), by decide⟩
theorem ml_X5_47 : Cond.methodLinkNest RX5 47 yX9_copyNumbers "EqualHeights" ∈ jNest := kwn 264 (by decide +kernel) (by decide +kernel)
theorem fg_X5_15 : jFG RX5 15 4 1 := ⟨RX5, TX5, 4, rfl, ilX5, (kwm 100 (by decide +kernel) (by decide +kernel)), by decide⟩
theorem fg_X5_18 : jFG RX5 18 4 2 := ⟨RX5, TX5, 4, rfl, ilX5, (kwm 101 (by decide +kernel) (by decide +kernel)), by decide⟩
theorem fg_X5_21 : jFG RX5 21 4 3 := ⟨RX5, TX5, 4, rfl, ilX5, (kwm 102 (by decide +kernel) (by decide +kernel)), by decide⟩
theorem fp_X5_21 (z : Int) : jFP RX5 21 4 3 false (jI z) := ⟨RX5, TX5, 4, tyX5, .int, rfl, ilX5, (kwm 102 (by decide +kernel) (by decide +kernel)), by decide, tyX5_ok, nmX5, rfl, by decide +kernel, rfl, rfl⟩
theorem ml_X5_3 : Cond.methodLink RX5 3 objectInit ∈ wsL_law := kwm 98 (by decide +kernel) (by decide +kernel)
theorem fp_X5_9 (a : Nat) : jFP RX5 9 4 0 true (.ref a) := ⟨RX5, TX5, 4, tyX5, .array .int, rfl, ilX5, (kwm 99 (by decide +kernel) (by decide +kernel)), by decide, tyX5_ok, nmX5, rfl, by decide +kernel, rfl, rfl⟩
theorem fd_X5_0 : jdecl 4 0 RX5 := fun r h => by cases h; rfl
theorem fp_X5_15 (a : Nat) : jFP RX5 15 4 1 true (.ref a) := ⟨RX5, TX5, 4, tyX5, .array .int, rfl, ilX5, (kwm 100 (by decide +kernel) (by decide +kernel)), by decide, tyX5_ok, nmX5, rfl, by decide +kernel, rfl, rfl⟩
theorem fd_X5_1 : jdecl 4 1 RX5 := fun r h => by cases h; rfl
theorem fp_X5_18 (a : Nat) : jFP RX5 18 4 2 true (.ref a) := ⟨RX5, TX5, 4, tyX5, .array .int, rfl, ilX5, (kwm 101 (by decide +kernel) (by decide +kernel)), by decide, tyX5_ok, nmX5, rfl, by decide +kernel, rfl, rfl⟩
theorem fd_X5_2 : jdecl 4 2 RX5 := fun r h => by cases h; rfl
theorem kc_X5_25 : Cond.constant RX5 25 (Int32.ofInt (1000000)) ∈ wsL_law := kwm 394 (by decide +kernel) (by decide +kernel)
theorem ml_X5_26 : Cond.methodLink RX5 26 yX5_nextRank ∈ wsL_law := kwm 395 (by decide +kernel) (by decide +kernel)
theorem fg_X5_30 : jFGn RX5 30 7 2 := ⟨RX8, TX8, 3, "EqualHeights", rfl, ilX8, (kwn 39 (by decide +kernel) (by decide +kernel)), by decide⟩
theorem ml_X5_35 : Cond.methodLink RX5 35 yX8_rowsLike ∈ wsL_law := kwm 398 (by decide +kernel) (by decide +kernel)
theorem ml_X5_39 : Cond.methodLink RX5 39 yX8_value ∈ wsL_law := kwm 402 (by decide +kernel) (by decide +kernel)
theorem ml_X5_43 : Cond.methodLinkNest RX5 43 yX9_isBetween "EqualHeights" ∈ jNest := kwn 508 (by decide +kernel) (by decide +kernel)
theorem ml_X6_19 : Cond.methodLink RX6 19 yX6_start ∈ wsL_law := kwm 586 (by decide +kernel) (by decide +kernel)
theorem ml_X6_22 : Cond.methodLink RX6 22 yX6_readOrder ∈ wsL_law := kwm 590 (by decide +kernel) (by decide +kernel)
theorem fg_X6_15 : jFG RX6 15 5 1 := ⟨RX6, TX6, 6, rfl, ilX6, (kwm 187 (by decide +kernel) (by decide +kernel)), by decide⟩
theorem fg_X6_9 : jFG RX6 9 5 0 := ⟨RX6, TX6, 6, rfl, ilX6, (kwm 186 (by decide +kernel) (by decide +kernel)), by decide⟩
theorem fg_X6_26 : jFGn RX6 26 3 1 := ⟨RX4, TX4, 2, "EqualHeights", rfl, ilX4, (kwn 172 (by decide +kernel) (by decide +kernel)), by decide⟩
theorem ml_X6_31 : Cond.methodLink RX6 31 yX6_passSign ∈ wsL_law := kwm 610 (by decide +kernel) (by decide +kernel)
theorem ml_X6_3 : Cond.methodLink RX6 3 objectInit ∈ wsL_law := kwm 185 (by decide +kernel) (by decide +kernel)
theorem fp_X6_9 (a : Nat) : jFP RX6 9 5 0 true (.ref a) := ⟨RX6, TX6, 6, tyX6, .object "EqualHeights$Pad", rfl, ilX6, (kwm 186 (by decide +kernel) (by decide +kernel)), by decide, tyX6_ok, nmX6, rfl, by decide +kernel, rfl, rfl⟩
theorem fd_X6_0 : jdecl 5 0 RX6 := fun r h => by cases h; rfl
theorem ml_X6_35 : Cond.methodLink RX6 35 yX4_signAt ∈ wsL_law := kwm 594 (by decide +kernel) (by decide +kernel)
theorem fp_X6_15 (z : Int) : jFP RX6 15 5 1 false (jI z) := ⟨RX6, TX6, 6, tyX6, .int, rfl, ilX6, (kwm 187 (by decide +kernel) (by decide +kernel)), by decide, tyX6_ok, nmX6, rfl, by decide +kernel, rfl, rfl⟩
theorem ml_X6_62 : Cond.methodLink RX6 62 yX6_readDigit ∈ wsL_law := kwm 606 (by decide +kernel) (by decide +kernel)
theorem fp_X6_39 {z : Int} (h0 : 0 ≤ z) (h1 : z < 65536) : jFP RX6 39 5 2 false (jI z) := ⟨RX6, TX6, 6, tyX6, .char, rfl, ilX6, (kwm 188 (by decide +kernel) (by decide +kernel)), by decide, tyX6_ok, nmX6, rfl, by decide +kernel, jI_narC h0 h1, jI_fitC h0 h1⟩
theorem fg_X6_39 : jFG RX6 39 5 2 := ⟨RX6, TX6, 6, rfl, ilX6, (kwm 188 (by decide +kernel) (by decide +kernel)), by decide⟩
theorem ml_X6_43 : Cond.methodLink RX6 43 yX6_readRow ∈ wsL_law := kwm 598 (by decide +kernel) (by decide +kernel)
theorem ml_X6_46 : Cond.methodLink RX6 46 yX6_readNumber ∈ wsL_law := kwm 602 (by decide +kernel) (by decide +kernel)
theorem fp_X6_50 (z : Int) : jFP RX6 50 5 3 false (jI z) := ⟨RX6, TX6, 6, tyX6, .int, rfl, ilX6, (kwm 190 (by decide +kernel) (by decide +kernel)), by decide, tyX6_ok, nmX6, rfl, by decide +kernel, rfl, rfl⟩
theorem fg_X6_50 : jFG RX6 50 5 3 := ⟨RX6, TX6, 6, rfl, ilX6, (kwm 190 (by decide +kernel) (by decide +kernel)), by decide⟩
theorem fp_X6_53 (z : Int) : jFP RX6 53 5 4 false (jI z) := ⟨RX6, TX6, 6, tyX6, .int, rfl, ilX6, (kwm 192 (by decide +kernel) (by decide +kernel)), by decide, tyX6_ok, nmX6, rfl, by decide +kernel, rfl, rfl⟩
theorem fg_X6_53 : jFG RX6 53 5 4 := ⟨RX6, TX6, 6, rfl, ilX6, (kwm 192 (by decide +kernel) (by decide +kernel)), by decide⟩
theorem ml_X6_56 : Cond.methodLink RX6 56 yX6_readTimes ∈ wsL_law := kwm 614 (by decide +kernel) (by decide +kernel)
theorem fp_X6_59 (z : Int) : jFP RX6 59 5 5 false (jI z) := ⟨RX6, TX6, 6, tyX6, .int, rfl, ilX6, (kwm 194 (by decide +kernel) (by decide +kernel)), by decide, tyX6_ok, nmX6, rfl, by decide +kernel, rfl, rfl⟩
theorem fg_X6_59 : jFG RX6 59 5 5 := ⟨RX6, TX6, 6, rfl, ilX6, (kwm 194 (by decide +kernel) (by decide +kernel)), by decide⟩
theorem ml_X7_37 : Cond.methodLinkNest RX7 37 yX9_isValue "EqualHeights" ∈ jNest := kwn 294 (by decide +kernel) (by decide +kernel)
theorem fg_X7_18 : jFG RX7 18 6 1 := ⟨RX7, TX7, 3, rfl, ilX7, (kwm 134 (by decide +kernel) (by decide +kernel)), by decide⟩
theorem ml_X7_41 : Cond.methodLink RX7 41 yX8_isFull ∈ wsL_law := kwm 298 (by decide +kernel) (by decide +kernel)
theorem ml_X7_45 : Cond.methodLink RX7 45 yX8_add ∈ wsL_law := kwm 302 (by decide +kernel) (by decide +kernel)
theorem fg_X7_25 : jFG RX7 25 6 2 := ⟨RX7, TX7, 3, rfl, ilX7, (kwm 136 (by decide +kernel) (by decide +kernel)), by decide⟩
theorem ml_X7_49 : Cond.methodLink RX7 49 yX0_noteChange ∈ wsL_law := kwm 307 (by decide +kernel) (by decide +kernel)
theorem fg_X7_52 : jFGn RX7 52 7 2 := ⟨RX8, TX8, 3, "EqualHeights", rfl, ilX8, (kwn 41 (by decide +kernel) (by decide +kernel)), by decide⟩
theorem ml_X7_56 : Cond.methodLink RX7 56 yX7_addRow ∈ wsL_law := kwm 632 (by decide +kernel) (by decide +kernel)
theorem ml_X7_29 : Cond.methodLinkNest RX7 29 yX9_isBetween "EqualHeights" ∈ jNest := kwn 269 (by decide +kernel) (by decide +kernel)
theorem ml_X7_33 : Cond.methodLink RX7 33 yX7_isInRange ∈ wsL_law := kwm 272 (by decide +kernel) (by decide +kernel)
theorem fg_X7_9 : jFG RX7 9 6 0 := ⟨RX7, TX7, 3, rfl, ilX7, (kwm 133 (by decide +kernel) (by decide +kernel)), by decide⟩
theorem ml_X7_78 : Cond.methodLinkNest RX7 78 yX9_copyNumbers "EqualHeights" ∈ jNest := kwn 243 (by decide +kernel) (by decide +kernel)
theorem ml_X7_82 : Cond.methodLink RX7 82 yX8_copyFrom ∈ wsL_law := kwm 246 (by decide +kernel) (by decide +kernel)
theorem ml_X7_86 : Cond.methodLink RX7 86 yX0_copyFrom ∈ wsL_law := kwm 251 (by decide +kernel) (by decide +kernel)
theorem ml_X7_60 : Cond.methodLink RX7 60 yX8_hasRow ∈ wsL_law := kwm 323 (by decide +kernel) (by decide +kernel)
theorem ml_X7_63 : Cond.methodLink RX7 63 yX8_drop ∈ wsL_law := kwm 327 (by decide +kernel) (by decide +kernel)
theorem ml_X7_3 : Cond.methodLink RX7 3 objectInit ∈ wsL_law := kwm 28 (by decide +kernel) (by decide +kernel)
theorem fp_X7_9 (a : Nat) : jFP RX7 9 6 0 true (.ref a) := ⟨RX7, TX7, 3, tyX7, .array .int, rfl, ilX7, (kwm 133 (by decide +kernel) (by decide +kernel)), by decide, tyX7_ok, nmX7, rfl, by decide +kernel, rfl, rfl⟩
theorem fd_X7_0 : jdecl 6 0 RX7 := fun r h => by cases h; rfl
theorem nw_X7_15 : jFN RX7 15 7 [.null, .null, jI 0] := ⟨RX8, TX8, 3, tyX8, rfl, ilX8, tyX8_ok, (kwm 29 (by decide +kernel) (by decide +kernel)), (kwm 30 (by decide +kernel) (by decide +kernel)), (kwm 3 (by decide +kernel) (by decide +kernel)), rfl, fun j hj => by
  rcases (show j = 0 ∨ j = 1 ∨ j = 2 by omega) with rfl | rfl | rfl <;> rfl⟩
theorem ml_X7_17 : Cond.methodLinkNest RX7 17 yX8_init "EqualHeights" ∈ jNest := kwn 31 (by decide +kernel) (by decide +kernel)
theorem fp_X7_18 (a : Nat) : jFP RX7 18 6 1 true (.ref a) := ⟨RX7, TX7, 3, tyX7, .object "EqualHeights$Table", rfl, ilX7, (kwm 134 (by decide +kernel) (by decide +kernel)), by decide, tyX7_ok, nmX7, rfl, by decide +kernel, rfl, rfl⟩
theorem fd_X7_1 : jdecl 6 1 RX7 := fun r h => by cases h; rfl
theorem nw_X7_22 : jFN RX7 22 0 [.null, .null, .null, jI 0, jI 0] := ⟨RX0, TX0, 5, tyX0, rfl, ilX0, tyX0_ok, (kwm 51 (by decide +kernel) (by decide +kernel)), (kwm 52 (by decide +kernel) (by decide +kernel)), (kwm 4 (by decide +kernel) (by decide +kernel)), rfl, fun j hj => by
  rcases (show j = 0 ∨ j = 1 ∨ j = 2 ∨ j = 3 ∨ j = 4 by omega) with rfl | rfl | rfl | rfl | rfl <;> rfl⟩
theorem ml_X7_24 : Cond.methodLinkNest RX7 24 yX0_init "EqualHeights" ∈ jNest := kwn 53 (by decide +kernel) (by decide +kernel)
theorem fp_X7_25 (a : Nat) : jFP RX7 25 6 2 true (.ref a) := ⟨RX7, TX7, 3, tyX7, .object "EqualHeights$Analysis", rfl, ilX7, (kwm 136 (by decide +kernel) (by decide +kernel)), by decide, tyX7_ok, nmX7, rfl, by decide +kernel, rfl, rfl⟩
theorem fd_X7_2 : jdecl 6 2 RX7 := fun r h => by cases h; rfl
theorem ml_X7_67 : Cond.methodLink RX7 67 yX7_setting ∈ wsL_law := kwm 340 (by decide +kernel) (by decide +kernel)
theorem ml_X7_71 : Cond.methodLink RX7 71 yX0_learn ∈ wsL_law := kwm 344 (by decide +kernel) (by decide +kernel)
theorem fg_X7_75 : jFGn RX7 75 0 3 := ⟨RX0, TX0, 5, "EqualHeights", rfl, ilX0, (kwn 118 (by decide +kernel) (by decide +kernel)), by decide⟩
theorem fg_X8_18 : jFG RX8 18 7 2 := ⟨RX8, TX8, 3, rfl, ilX8, (kwm 37 (by decide +kernel) (by decide +kernel)), by decide⟩
theorem ml_X8_22 : Cond.methodLink RX8 22 yX8_isFull ∈ wsL_law := kwm 306 (by decide +kernel) (by decide +kernel)
theorem fg_X8_9 : jFG RX8 9 7 0 := ⟨RX8, TX8, 3, rfl, ilX8, (kwm 35 (by decide +kernel) (by decide +kernel)), by decide⟩
theorem fg_X8_15 : jFG RX8 15 7 1 := ⟨RX8, TX8, 3, rfl, ilX8, (kwm 36 (by decide +kernel) (by decide +kernel)), by decide⟩
theorem fp_X8_18 (z : Int) : jFP RX8 18 7 2 false (jI z) := ⟨RX8, TX8, 3, tyX8, .int, rfl, ilX8, (kwm 37 (by decide +kernel) (by decide +kernel)), by decide, tyX8_ok, nmX8, rfl, by decide +kernel, rfl, rfl⟩
theorem ml_X8_38 : Cond.methodLinkNest RX8 38 yX9_copyNumbers "EqualHeights" ∈ jNest := kwn 250 (by decide +kernel) (by decide +kernel)
theorem ml_X8_26 : Cond.methodLink RX8 26 yX8_hasRow ∈ wsL_law := kwm 331 (by decide +kernel) (by decide +kernel)
theorem ml_X8_3 : Cond.methodLink RX8 3 objectInit ∈ wsL_law := kwm 34 (by decide +kernel) (by decide +kernel)
theorem fp_X8_9 (a : Nat) : jFP RX8 9 7 0 true (.ref a) := ⟨RX8, TX8, 3, tyX8, .array .int, rfl, ilX8, (kwm 35 (by decide +kernel) (by decide +kernel)), by decide, tyX8_ok, nmX8, rfl, by decide +kernel, rfl, rfl⟩
theorem fd_X8_0 : jdecl 7 0 RX8 := fun r h => by cases h; rfl
theorem fp_X8_15 (a : Nat) : jFP RX8 15 7 1 true (.ref a) := ⟨RX8, TX8, 3, tyX8, .array .int, rfl, ilX8, (kwm 36 (by decide +kernel) (by decide +kernel)), by decide, tyX8_ok, nmX8, rfl, by decide +kernel, rfl, rfl⟩
theorem fd_X8_1 : jdecl 7 1 RX8 := fun r h => by cases h; rfl
theorem ml_X8_30 : Cond.methodLink RX8 30 yX8_rowsInsideBoth ∈ wsL_law := kwm 466 (by decide +kernel) (by decide +kernel)
theorem ml_X8_34 : Cond.methodLinkNest RX8 34 yX9_isBetween "EqualHeights" ∈ jNest := kwn 470 (by decide +kernel) (by decide +kernel)
theorem fg_X9_23 : jFG RX9 23 8 2 := ⟨RX9, TX9, 6, rfl, ilX9, (kwm 213 (by decide +kernel) (by decide +kernel)), by decide⟩
theorem fg_X9_12 : jFG RX9 12 8 0 := ⟨RX9, TX9, 6, rfl, ilX9, (kwm 211 (by decide +kernel) (by decide +kernel)), by decide⟩
theorem ml_X9_50 : Cond.methodLink RX9 50 yX3_prepare ∈ wsL_law := kwm 234 (by decide +kernel) (by decide +kernel)
theorem ml_X9_68 : Cond.methodLink RX9 68 yX7_makeAnalysis ∈ wsL_law := kwm 336 (by decide +kernel) (by decide +kernel)
theorem ml_X9_58 : Cond.methodLink RX9 58 yX9_recorded ∈ wsL_law := kwm 275 (by decide +kernel) (by decide +kernel)
theorem ml_X9_254 : Cond.methodLink RX9 254 yX9_isValue ∈ wsL_law := kwm 461 (by decide +kernel) (by decide +kernel)
theorem ml_X9_154 : Cond.methodLink RX9 154 yX9_areBounds ∈ wsL_law := kwm 458 (by decide +kernel) (by decide +kernel)
theorem ml_X9_88 : Cond.methodLink RX9 88 yX9_isBetween ∈ wsL_law := kwm 297 (by decide +kernel) (by decide +kernel)
theorem fg_X9_72 : jFGn RX9 72 6 1 := ⟨RX7, TX7, 3, "EqualHeights", rfl, ilX7, (kwn 135 (by decide +kernel) (by decide +kernel)), by decide⟩
theorem ml_X9_174 : Cond.methodLink RX9 174 yX8_rowsInsideBoth ∈ wsL_law := kwm 499 (by decide +kernel) (by decide +kernel)
theorem fg_X9_92 : jFGn RX9 92 6 2 := ⟨RX7, TX7, 3, "EqualHeights", rfl, ilX7, (kwn 137 (by decide +kernel) (by decide +kernel)), by decide⟩
theorem ml_X9_147 : Cond.methodLink RX9 147 yX0_isMade ∈ wsL_law := kwm 448 (by decide +kernel) (by decide +kernel)
theorem ml_X9_178 : Cond.methodLink RX9 178 yX0_guessBoth ∈ wsL_law := kwm 500 (by decide +kernel) (by decide +kernel)
theorem ml_X9_171 : Cond.methodLink RX9 171 yX7_scale ∈ wsL_law := kwm 491 (by decide +kernel) (by decide +kernel)
theorem ml_X9_82 : Cond.methodLink RX9 82 yX9_isColumn ∈ wsL_law := kwm 408 (by decide +kernel) (by decide +kernel)
theorem ml_X9_96 : Cond.methodLink RX9 96 yX0_facts ∈ wsL_law := kwm 416 (by decide +kernel) (by decide +kernel)
theorem ml_X9_102 : Cond.methodLink RX9 102 yX2_tellBucket ∈ wsL_law := kwm 420 (by decide +kernel) (by decide +kernel)
theorem fg_X9_39 : jFG RX9 39 8 4 := ⟨RX9, TX9, 6, rfl, ilX9, (kwm 215 (by decide +kernel) (by decide +kernel)), by decide⟩
theorem ml_X9_213 : Cond.methodLink RX9 213 yX6_findFault ∈ wsL_law := kwm 582 (by decide +kernel) (by decide +kernel)
theorem ml_X9_216 : Cond.methodLink RX9 216 yX6_start ∈ wsL_law := kwm 622 (by decide +kernel) (by decide +kernel)
theorem ml_X9_219 : Cond.methodLink RX9 219 yX6_readOrder ∈ wsL_law := kwm 623 (by decide +kernel) (by decide +kernel)
theorem ml_X9_222 : Cond.methodLink RX9 222 yX9_followOrder ∈ wsL_law := kwm 624 (by decide +kernel) (by decide +kernel)
theorem ml_X9_225 : Cond.methodLink RX9 225 yX6_passSign ∈ wsL_law := kwm 633 (by decide +kernel) (by decide +kernel)
theorem fg_X9_30 : jFG RX9 30 8 3 := ⟨RX9, TX9, 6, rfl, ilX9, (kwm 214 (by decide +kernel) (by decide +kernel)), by decide⟩
theorem ml_X9_210 : Cond.methodLink RX9 210 yX4_clear ∈ wsL_law := kwm 574 (by decide +kernel) (by decide +kernel)
theorem ml_X9_105 : Cond.methodLink RX9 105 yX2_tellCommon ∈ wsL_law := kwm 428 (by decide +kernel) (by decide +kernel)
theorem fg_X9_117 : jFGn RX9 117 7 2 := ⟨RX8, TX8, 3, "EqualHeights", rfl, ilX8, (kwn 42 (by decide +kernel) (by decide +kernel)), by decide⟩
theorem fg_X9_121 : jFGn RX9 121 0 3 := ⟨RX0, TX0, 5, "EqualHeights", rfl, ilX0, (kwn 119 (by decide +kernel) (by decide +kernel)), by decide⟩
theorem fg_X9_124 : jFGn RX9 124 0 4 := ⟨RX0, TX0, 5, "EqualHeights", rfl, ilX0, (kwn 121 (by decide +kernel) (by decide +kernel)), by decide⟩
theorem ml_X9_127 : Cond.methodLink RX9 127 yX9_tellStale ∈ wsL_law := kwm 444 (by decide +kernel) (by decide +kernel)
theorem fg_X9_130 : jFGn RX9 130 1 8 := ⟨RX2, TX2, 9, "EqualHeights", rfl, ilX2, (kwn 73 (by decide +kernel) (by decide +kernel)), by decide⟩
theorem fg_X9_133 : jFGn RX9 133 1 3 := ⟨RX2, TX2, 9, "EqualHeights", rfl, ilX2, (kwn 67 (by decide +kernel) (by decide +kernel)), by decide⟩
theorem fg_X9_108 : jFGn RX9 108 0 2 := ⟨RX0, TX0, 5, "EqualHeights", rfl, ilX0, (kwn 116 (by decide +kernel) (by decide +kernel)), by decide⟩
theorem fg_X9_136 : jFGn RX9 136 4 3 := ⟨RX5, TX5, 4, "EqualHeights", rfl, ilX5, (kwn 103 (by decide +kernel) (by decide +kernel)), by decide⟩
theorem ml_X9_138 : Cond.methodLink RX9 138 yX7_setting ∈ wsL_law := kwm 449 (by decide +kernel) (by decide +kernel)
theorem fg_X9_141 : jFGn RX9 141 3 1 := ⟨RX4, TX4, 2, "EqualHeights", rfl, ilX4, (kwn 173 (by decide +kernel) (by decide +kernel)), by decide⟩
theorem fg_X9_144 : jFGn RX9 144 2 2 := ⟨RX3, TX3, 3, "EqualHeights", rfl, ilX3, (kwn 156 (by decide +kernel) (by decide +kernel)), by decide⟩
theorem ml_X9_158 : Cond.methodLink RX9 158 yX8_rowsInside ∈ wsL_law := kwm 462 (by decide +kernel) (by decide +kernel)
theorem ml_X9_162 : Cond.methodLink RX9 162 yX2_guess ∈ wsL_law := kwm 471 (by decide +kernel) (by decide +kernel)
theorem ml_X9_165 : Cond.methodLink RX9 165 yX2_least ∈ wsL_law := kwm 483 (by decide +kernel) (by decide +kernel)
theorem ml_X9_168 : Cond.methodLink RX9 168 yX2_most ∈ wsL_law := kwm 487 (by decide +kernel) (by decide +kernel)
theorem fg_X9_46 : jFG RX9 46 8 5 := ⟨RX9, TX9, 6, rfl, ilX9, (kwm 216 (by decide +kernel) (by decide +kernel)), by decide⟩
theorem ml_X9_202 : Cond.methodLink RX9 202 yX2_learn ∈ wsL_law := kwm 556 (by decide +kernel) (by decide +kernel)
theorem ml_X9_196 : Cond.methodLink RX9 196 yX2_worstValue ∈ wsL_law := kwm 538 (by decide +kernel) (by decide +kernel)
theorem ml_X9_199 : Cond.methodLink RX9 199 yX2_miss ∈ wsL_law := kwm 551 (by decide +kernel) (by decide +kernel)
theorem fg_X9_229 : jFGn RX9 229 5 2 := ⟨RX6, TX6, 6, "EqualHeights", rfl, ilX6, (kwn 189 (by decide +kernel) (by decide +kernel)), by decide⟩
theorem fg_X9_233 : jFGn RX9 233 5 3 := ⟨RX6, TX6, 6, "EqualHeights", rfl, ilX6, (kwn 191 (by decide +kernel) (by decide +kernel)), by decide⟩
theorem fg_X9_236 : jFGn RX9 236 5 4 := ⟨RX6, TX6, 6, "EqualHeights", rfl, ilX6, (kwn 193 (by decide +kernel) (by decide +kernel)), by decide⟩
theorem fg_X9_239 : jFGn RX9 239 5 5 := ⟨RX6, TX6, 6, "EqualHeights", rfl, ilX6, (kwn 195 (by decide +kernel) (by decide +kernel)), by decide⟩
theorem ml_X9_242 : Cond.methodLink RX9 242 yX7_addRows ∈ wsL_law := kwm 628 (by decide +kernel) (by decide +kernel)
theorem ml_X9_65 : Cond.methodLink RX9 65 yX7_dropRow ∈ wsL_law := kwm 319 (by decide +kernel) (by decide +kernel)
theorem ml_X9_54 : Cond.methodLink RX9 54 yX7_change ∈ wsL_law := kwm 265 (by decide +kernel) (by decide +kernel)
theorem kc_X9_187 : Cond.constantLong RX9 187 (-2) ∈ wsL_law := kwm 526 (by decide +kernel) (by decide +kernel)
theorem ml_X9_189 : Cond.methodLink RX9 189 yX2_rowsOfBuckets ∈ wsL_law := kwm 527 (by decide +kernel) (by decide +kernel)
theorem ml_X9_192 : Cond.methodLink RX9 192 yX1_ofDouble ∈ wsL_law := kwm 531 (by decide +kernel) (by decide +kernel)
theorem ml_X9_3 : Cond.methodLink RX9 3 objectInit ∈ wsL_law := kwm 20 (by decide +kernel) (by decide +kernel)
theorem nw_X9_9 : jFN RX9 9 6 [.null, .null, .null] := ⟨RX7, TX7, 3, tyX7, rfl, ilX7, tyX7_ok, (kwm 23 (by decide +kernel) (by decide +kernel)), (kwm 24 (by decide +kernel) (by decide +kernel)), (kwm 2 (by decide +kernel) (by decide +kernel)), rfl, fun j hj => by
  rcases (show j = 0 ∨ j = 1 ∨ j = 2 by omega) with rfl | rfl | rfl <;> rfl⟩
theorem ml_X9_11 : Cond.methodLinkNest RX9 11 yX7_init "EqualHeights" ∈ jNest := kwn 25 (by decide +kernel) (by decide +kernel)
theorem fp_X9_12 (a : Nat) : jFP RX9 12 8 0 true (.ref a) := ⟨RX9, TX9, 6, tyX9, .object "EqualHeights$State", rfl, ilX9, (kwm 211 (by decide +kernel) (by decide +kernel)), by decide, tyX9_ok, nmX9, rfl, by decide +kernel, rfl, rfl⟩
theorem fd_X9_0 : jdecl 8 0 RX9 := fun r h => by cases h; rfl
theorem kq_X9_9 : Cond.classLink RX9 9 "EqualHeights$State" ∈ wsL_law := kwm 23 (by decide +kernel) (by decide +kernel)
theorem fp_X9_16 (a : Nat) : jFP RX9 16 8 1 true (.ref a) := ⟨RX9, TX9, 6, tyX9, .array (.object "EqualHeights$State"), rfl, ilX9, (kwm 212 (by decide +kernel) (by decide +kernel)), by decide, tyX9_ok, nmX9, rfl, by decide +kernel, rfl, rfl⟩
theorem fd_X9_1 : jdecl 8 1 RX9 := fun r h => by cases h; rfl
theorem nw_X9_20 : jFN RX9 20 2 [.null, jI 0, jI 0] := ⟨RX3, TX3, 3, tyX3, rfl, ilX3, tyX3_ok, (kwm 146 (by decide +kernel) (by decide +kernel)), (kwm 147 (by decide +kernel) (by decide +kernel)), (kwm 7 (by decide +kernel) (by decide +kernel)), rfl, fun j hj => by
  rcases (show j = 0 ∨ j = 1 ∨ j = 2 by omega) with rfl | rfl | rfl <;> rfl⟩
theorem ml_X9_22 : Cond.methodLinkNest RX9 22 yX3_init "EqualHeights" ∈ jNest := kwn 148 (by decide +kernel) (by decide +kernel)
theorem fp_X9_23 (a : Nat) : jFP RX9 23 8 2 true (.ref a) := ⟨RX9, TX9, 6, tyX9, .object "EqualHeights$History", rfl, ilX9, (kwm 213 (by decide +kernel) (by decide +kernel)), by decide, tyX9_ok, nmX9, rfl, by decide +kernel, rfl, rfl⟩
theorem fd_X9_2 : jdecl 8 2 RX9 := fun r h => by cases h; rfl
theorem nw_X9_27 : jFN RX9 27 3 [.null, jI 0] := ⟨RX4, TX4, 2, tyX4, rfl, ilX4, tyX4_ok, (kwm 164 (by decide +kernel) (by decide +kernel)), (kwm 165 (by decide +kernel) (by decide +kernel)), (kwm 8 (by decide +kernel) (by decide +kernel)), rfl, fun j hj => by
  rcases (show j = 0 ∨ j = 1 by omega) with rfl | rfl <;> rfl⟩
theorem ml_X9_29 : Cond.methodLinkNest RX9 29 yX4_init "EqualHeights" ∈ jNest := kwn 166 (by decide +kernel) (by decide +kernel)
theorem fp_X9_30 (a : Nat) : jFP RX9 30 8 3 true (.ref a) := ⟨RX9, TX9, 6, tyX9, .object "EqualHeights$Pad", rfl, ilX9, (kwm 214 (by decide +kernel) (by decide +kernel)), by decide, tyX9_ok, nmX9, rfl, by decide +kernel, rfl, rfl⟩
theorem fd_X9_3 : jdecl 8 3 RX9 := fun r h => by cases h; rfl
theorem nw_X9_34 : jFN RX9 34 5 [.null, jI 0, jI 0, jI 0, jI 0, jI 0] := ⟨RX6, TX6, 6, tyX6, rfl, ilX6, tyX6_ok, (kwm 180 (by decide +kernel) (by decide +kernel)), (kwm 181 (by decide +kernel) (by decide +kernel)), (kwm 9 (by decide +kernel) (by decide +kernel)), rfl, fun j hj => by
  rcases (show j = 0 ∨ j = 1 ∨ j = 2 ∨ j = 3 ∨ j = 4 ∨ j = 5 by omega) with rfl | rfl | rfl | rfl | rfl | rfl <;> rfl⟩
theorem ml_X9_36 : Cond.methodLink RX9 36 yX6_init ∈ wsL_law := kwm 182 (by decide +kernel) (by decide +kernel)
theorem fp_X9_39 (a : Nat) : jFP RX9 39 8 4 true (.ref a) := ⟨RX9, TX9, 6, tyX9, .object "EqualHeights$Reader", rfl, ilX9, (kwm 215 (by decide +kernel) (by decide +kernel)), by decide, tyX9_ok, nmX9, rfl, by decide +kernel, rfl, rfl⟩
theorem fd_X9_4 : jdecl 8 4 RX9 := fun r h => by cases h; rfl
theorem nw_X9_43 : jFN RX9 43 1 [.null, .null, .null, jI 0, .null, .null, .null, .null, jI 0] := ⟨RX2, TX2, 9, tyX2, rfl, ilX2, tyX2_ok, (kwm 209 (by decide +kernel) (by decide +kernel)), (kwm 58 (by decide +kernel) (by decide +kernel)), (kwm 5 (by decide +kernel) (by decide +kernel)), rfl, fun j hj => by
  rcases (show j = 0 ∨ j = 1 ∨ j = 2 ∨ j = 3 ∨ j = 4 ∨ j = 5 ∨ j = 6 ∨ j = 7 ∨ j = 8 by omega) with rfl | rfl | rfl | rfl | rfl | rfl | rfl | rfl | rfl <;> rfl⟩
theorem ml_X9_45 : Cond.methodLinkNest RX9 45 yX2_init "EqualHeights" ∈ jNest := kwn 210 (by decide +kernel) (by decide +kernel)
theorem fp_X9_46 (a : Nat) : jFP RX9 46 8 5 true (.ref a) := ⟨RX9, TX9, 6, tyX9, .object "EqualHeights$ColumnFacts", rfl, ilX9, (kwm 216 (by decide +kernel) (by decide +kernel)), by decide, tyX9_ok, nmX9, rfl, by decide +kernel, rfl, rfl⟩
theorem fd_X9_5 : jdecl 8 5 RX9 := fun r h => by cases h; rfl
theorem ml_X9_62 : Cond.methodLink RX9 62 yX7_addRow ∈ wsL_law := kwm 290 (by decide +kernel) (by decide +kernel)
theorem ml_X9_112 : Cond.methodLink RX9 112 yX5_tellPair ∈ wsL_law := kwm 436 (by decide +kernel) (by decide +kernel)
theorem ml_X9_206 : Cond.methodLink RX9 206 yX4_append ∈ wsL_law := kwm 561 (by decide +kernel) (by decide +kernel)
theorem ml_X9_251 : Cond.methodLink RX9 251 yX3_keep ∈ wsL_law := kwm 279 (by decide +kernel) (by decide +kernel)
theorem fg_X9_16 : jFG RX9 16 8 1 := ⟨RX9, TX9, 6, rfl, ilX9, (kwm 212 (by decide +kernel) (by decide +kernel)), by decide⟩
theorem ml_X9_248 : Cond.methodLink RX9 248 yX7_copyFrom ∈ wsL_law := kwm 646 (by decide +kernel) (by decide +kernel)
theorem ml_X9_76 : Cond.methodLink RX9 76 yX8_hasRow ∈ wsL_law := kwm 407 (by decide +kernel) (by decide +kernel)
theorem ml_X9_85 : Cond.methodLink RX9 85 yX8_value ∈ wsL_law := kwm 411 (by decide +kernel) (by decide +kernel)
theorem ml_X9_181 : Cond.methodLink RX9 181 yX1_ofFloat ∈ wsL_law := kwm 515 (by decide +kernel) (by decide +kernel)
theorem ml_X9_151 : Cond.methodLink RX9 151 yX0_isStale ∈ wsL_law := kwm 450 (by decide +kernel) (by decide +kernel)
theorem ml_X9_245 : Cond.methodLink RX9 245 yX3_bringBack ∈ wsL_law := kwm 638 (by decide +kernel) (by decide +kernel)
theorem ka_int : Cond.arrayClass .int ∈ wsL_law := kwm 50 (by decide +kernel) (by decide +kernel)
theorem ka_char : Cond.arrayClass .char ∈ wsL_law := kwm 179 (by decide +kernel) (by decide +kernel)
theorem ka_boolean : Cond.arrayClass .boolean ∈ wsL_law := kwm 694 (by decide +kernel) (by decide +kernel)
theorem km_max_s : Cond.static Lib.Math.max.name ∈ wsL_law := (kwm 481 (by decide +kernel) (by decide +kernel))
theorem km_max_c : Cond.code Lib.Math.max.name Lib.Math.max.code 2 (some .int) ∈ wsL_law := kwm 482 (by decide +kernel) (by decide +kernel)
theorem km_min_s : Cond.static Lib.Math.min.name ∈ wsL_law := (kwm 284 (by decide +kernel) (by decide +kernel))
theorem km_min_c : Cond.code Lib.Math.min.name Lib.Math.min.code 2 (some .int) ∈ wsL_law := kwm 285 (by decide +kernel) (by decide +kernel)
theorem km_abs_s : Cond.static Lib.Math.abs.name ∈ wsL_law := (kwm 549 (by decide +kernel) (by decide +kernel))
theorem km_abs_c : Cond.code Lib.Math.abs.name Lib.Math.abs.code 1 (some .int) ∈ wsL_law := kwm 550 (by decide +kernel) (by decide +kernel)
theorem km_i : Cond.initialized "java/lang/Math" ∈ wsL_law := (kwm 11 (by decide +kernel) (by decide +kernel))
theorem ko_i : Cond.instanceMethod objectInit ∈ wsL_law := (kwm 21 (by decide +kernel) (by decide +kernel))
theorem ko_c : Cond.code objectInit ⟨#[0xb1]⟩ 1 none ∈ wsL_law := kwm 22 (by decide +kernel) (by decide +kernel)
theorem kn_floatToRawIntBits : Cond.native ⟨"java/lang/Float", "floatToRawIntBits", "(F)I"⟩ ∈ wsL_law := (kwm 768 (by decide +kernel) (by decide +kernel))
theorem kt_floatToRawIntBits : Cond.static ⟨"java/lang/Float", "floatToRawIntBits", "(F)I"⟩ ∈ wsL_law := (kwm 767 (by decide +kernel) (by decide +kernel))
theorem kn_doubleToRawLongBits : Cond.native ⟨"java/lang/Double", "doubleToRawLongBits", "(D)J"⟩ ∈ wsL_law := (kwm 783 (by decide +kernel) (by decide +kernel))
theorem kt_doubleToRawLongBits : Cond.static ⟨"java/lang/Double", "doubleToRawLongBits", "(D)J"⟩ ∈ wsL_law := (kwm 782 (by decide +kernel) (by decide +kernel))
end
section
theorem jk_case {X : jX} {pc n ce sl : Nat} {lv : List (Option Value)} {st : List Value} {M : jM} {a : Int} (z : Int) (k1 : a = z → jJ X pc lv (jI a :: st) n M ce sl) (k2 : a ≠ z → jJ X pc lv (jI a :: st) n M ce sl) : jJ X pc lv (jI a :: st) n M ce sl := by
  by_cases h : a = z
  · exact k1 h
  · exact k2 h
theorem jl_ne {a k o d : Int} {r : List (Int × Int)} (h : a ≠ k) : Op.lookupswitch.offset ((k, o) :: r) d a = Op.lookupswitch.offset r d a := by
  rw [Op.lookupswitch.offset_cons, if_neg (fun q => h q.symm)]
theorem jl_nil {a d : Int} : Op.lookupswitch.offset [] d a = d := rfl
/-- a row's contents count up to its length -/
theorem jk_ext {X : jX} {pc n ce sl o len : Nat} {lv : List (Option Value)} {st : List Value} {M : jM} {ty : FieldType} {F G : Nat → Value} (hM : M o = some (.inl (ty, len, F))) (he : ∀ k, k < len → F k = G k) (k : ∀ M2, jst M M2 o (.inl (ty, len, G)) → jJ X pc lv st n M2 ce sl) : jJ X pc lv st n M ce sl := by
  obtain ⟨p, l, e, R, s, m, args, below, meth, c, Q, D, b0, nL⟩ := X
  intro H locs ls hH hS hL
  refine k _ (jst_up M o _) H locs ls ⟨hH.1, fun q x hq => ?_⟩ hS hL
  unfold jup at hq
  by_cases hqo : q = o
  · rw [if_pos hqo] at hq
    cases hq
    subst hqo
    obtain ⟨h1, cA, h2, h3, h4⟩ := hH.2 _ _ hM
    refine ⟨h1, cA, h2, h3, ?_⟩
    rw [h4]
    congr 1
    simp only [arrV]
    congr 1
    apply Array.ext
    · simp
    · intro i h5 h6
      simp only [Array.getElem_ofFn]
      exact he i (by simpa using h5)
  · rw [if_neg hqo] at hq
    exact hH.2 _ _ hq
theorem jst.tr {M M2 M3 : jM} {o : Nat} {e e2 : jC} (h : jst M M2 o e) (h2 : jst M2 M3 o e2) : jst M M3 o e2 := ⟨h2.1, fun q hq => (h2.2 q hq).trans (h.2 q hq)⟩
theorem jst.out {M M2 : jM} {o : Nat} {e : jC} (h : jst M M2 o e) : jout M M2 o 1 := fun q hq => h.2 q (by omega)
theorem jst.keep {M M2 : jM} {o b k : Nat} {e : jC} {L : List jC} (h : jst M M2 o e) (hp : jPic M b L) (hk : L.length = k) (hq : o < b ∨ b + k ≤ o) : jPic M2 b L := hp.other h k hk hq
abbrev jz : Nat → Int := fun _ => 0
abbrev aI (len : Nat) (f : Nat → Int) : jC := .inl (.int, len, fun k => jI (f k))
abbrev aC (len : Nat) (f : Nat → Int) : jC := .inl (.char, len, fun k => jI (f k))
abbrev aZ (len : Nat) (f : Nat → Int) : jC := .inl (.boolean, len, fun k => jI (f k))
abbrev aS (len : Nat) (g : Nat → Option Nat) : jC := .inl (.object "EqualHeights$State", len, fun k => va_rf (g k))
abbrev oB (ci : Nat) (fs : List Value) : jC := .inr (ci, fs)
-- the pictures
def tbL (t : Nat) (a b : Nat → Int) (sz : Int) : List jC := [oB 7 [.ref (t + 1), .ref (t + 2), jI sz], aI 60 a, aI 60 b]
def cfL (c : Nat) (had cv cr : Nat → Int) (cn : Int) (lo hi br un : Nat → Int) (bn : Int) : List jC :=
  [oB 1 [.ref (c + 1), .ref (c + 2), .ref (c + 3), jI cn, .ref (c + 4), .ref (c + 5), .ref (c + 6), .ref (c + 7), jI bn], aI 100 had, aI 6 cv, aI 6 cr, aI 10 lo, aI 10 hi, aI 10 br, aI 10 un]
def pfL (c : Nat) (pa pb pr : Nat → Int) (pn : Int) : List jC := [oB 4 [.ref (c + 1), .ref (c + 2), .ref (c + 3), jI pn], aI 6 pa, aI 6 pb, aI 6 pr]
def anL (a : Nat) (rows ch : Int) : List jC := [oB 0 [.ref (a + 1), .ref (a + 9), .ref (a + 17), jI rows, jI ch]]
def stL (b : Nat) (set : Nat → Int) : List jC := [oB 6 [.ref (b + 1), .ref (b + 2), .ref (b + 5)], aI 4 set]
def pdL (p : Nat) (sg : Nat → Int) (len : Int) : List jC := [oB 3 [.ref (p + 1), jI len], aC 80 sg]
def rdL (p : Nat) (at9 kd fi se ti : Int) : List jC := [oB 5 [.ref p, jI at9, jI kd, jI fi, jI se, jI ti]]
def hsL (r : Nat) (g : Nat → Option Nat) (nx hl : Int) : List jC := [oB 2 [.ref (r + 1), jI nx, jI hl], aS 7 g]
-- numbers in a range
abbrev jrF (f : Nat → Int) (lo hi : Int) : Prop := ∀ k : Nat, lo ≤ f k ∧ f k ≤ hi
theorem jrF_up {f : Nat → Int} {lo hi v : Int} {i : Nat} (h : jrF f lo hi) (h1 : lo ≤ v) (h2 : v ≤ hi) : jrF (jfup f i v) lo hi := fun k => by
  unfold jfup
  by_cases hk : k = i
  · rw [if_pos hk]; exact ⟨h1, h2⟩
  · rw [if_neg hk]; exact h k
-- sums
def sm (f : Nat → Int) : Nat → Int
  | 0 => 0
  | n + 1 => sm f n + f n
def smI (f : Nat → Int) (z : Int) : Int := sm f z.toNat
theorem smI_0 (f : Nat → Int) : smI f 0 = 0 := rfl
theorem smI_s {f : Nat → Int} {z : Int} (h : 0 ≤ z) : smI f (z + 1) = smI f z + f z.toNat := by
  unfold smI
  rw [show (z + 1).toNat = z.toNat + 1 by omega]
  rfl
theorem smI_t {f : Nat → Int} {z v r : Int} (h0 : 0 ≤ z) (hr : r = smI f z) (hv : f z.toNat = v) : r + v = smI f (z + 1) := by
  rw [smI_s h0, hr, hv]
theorem smI_t0 {f : Nat → Int} {z r : Int} (h0 : 0 ≤ z) (hr : r = smI f z) (hv : f z.toNat = 0) : r = smI f (z + 1) := by
  rw [smI_s h0, hr, hv, Int.add_zero]
theorem sm_cong {f g : Nat → Int} : ∀ {n : Nat}, (∀ k, k < n → f k = g k) → sm f n = sm g n
  | 0, _ => rfl
  | n + 1, h => by rw [sm, sm, sm_cong (fun k hk => h k (by omega)), h n (by omega)]
theorem sm_bd {f : Nat → Int} {c : Int} : ∀ {n : Nat}, (∀ k, k < n → 0 ≤ f k ∧ f k ≤ c) → 0 ≤ sm f n ∧ sm f n ≤ c * n
  | 0, _ => by simp [sm]
  | n + 1, h => by
    have h1 := sm_bd (n := n) (fun k hk => h k (by omega))
    have h2 := h n (by omega)
    simp only [sm]
    have h3 : c * ((n + 1 : Nat) : Int) = c * n + c := by rw [Int.natCast_add, Int.mul_add]; simp
    omega
theorem smI_bd {f : Nat → Int} {c z : Int} {N : Nat} (hz : 0 ≤ z) (hN : z ≤ N) (hc : 0 ≤ c) (h : ∀ k : Nat, (k : Int) < z → 0 ≤ f k ∧ f k ≤ c) : 0 ≤ smI f z ∧ smI f z ≤ c * N := by
  have h1 := sm_bd (f := f) (c := c) (n := z.toNat) (fun k hk => h k (by omega))
  refine ⟨h1.1, Int.le_trans h1.2 (Int.mul_le_mul_of_nonneg_left (by omega) hc)⟩
end
section
set_option maxHeartbeats 4000000 in
set_option maxRecDepth 100000 in
theorem c_X9_isBetween {l : Launch} {D : va_G} {b0 : Nat} {n : Nat} {M : jM} {a b c : Int} (ha : jRng a) (hb : jRng b) (hc : jRng c) : jCtr l D b0 yX9_isBetween cX9_isBetween 3 (some .boolean) 0 0 0 [jI a, jI b, jI c] n M (jrd n M (if b ≤ a ∧ a ≤ c then 1 else 0)) := by
  refine jctr (lv := [some (jI a), some (jI b), some (jI c)]) RX9 "isBetween" rfl rfl (by decide) (Nat.le_of_ble_eq_true rfl) rfl ?_
  intro X h hR hX
  have ha := id ha
  have hb := id hb
  have hc := id hc
  refine jk_iload_n (q := 1) h dX9_isBetween_0 rfl rfl ?_
  refine jk_iload_n (q := 2) h dX9_isBetween_1 rfl rfl ?_
  refine jk_icmp_gt (q := 5) (tgt := 14) h dX9_isBetween_2 (by decide) rfl ⟨by omega, by omega⟩ ⟨by omega, by omega⟩ (fun c2 => ?_) (fun c2 => ?_)
  · refine jk_iconst (q := 15) h dX9_isBetween_14 rfl ?_
    exact jk_zret h hR dX9_isBetween_15 (Nat.le_of_ble_eq_true rfl) (Nat.le_of_ble_eq_true rfl) (by first | exact Or.inl rfl | exact Or.inr rfl | omega) (jrd_of (by first | rfl | exact (if_pos (by omega)).symm | exact if_pos (by omega) | exact if_neg (by omega)))
  · refine jk_iload_n (q := 6) h dX9_isBetween_5 rfl rfl ?_
    refine jk_iload_n (q := 7) h dX9_isBetween_6 rfl rfl ?_
    refine jk_icmp_gt (q := 10) (tgt := 14) h dX9_isBetween_7 (by decide) rfl ⟨by omega, by omega⟩ ⟨by omega, by omega⟩ (fun c7 => ?_) (fun c7 => ?_)
    · refine jk_iconst (q := 15) h dX9_isBetween_14 rfl ?_
      exact jk_zret h hR dX9_isBetween_15 (Nat.le_of_ble_eq_true rfl) (Nat.le_of_ble_eq_true rfl) (by first | exact Or.inl rfl | exact Or.inr rfl | omega) (jrd_of (by first | rfl | exact (if_pos (by omega)).symm | exact if_pos (by omega) | exact if_neg (by omega)))
    · refine jk_iconst (q := 11) h dX9_isBetween_10 rfl ?_
      refine jk_goto (q := 14) (tgt := 15) h dX9_isBetween_11 (by decide) ?_
      exact jk_zret h hR dX9_isBetween_15 (Nat.le_of_ble_eq_true rfl) (Nat.le_of_ble_eq_true rfl) (by first | exact Or.inl rfl | exact Or.inr rfl | omega) (jrd_of (by first | rfl | exact (if_pos (by omega)).symm | exact if_pos (by omega) | exact if_neg (by omega)))

set_option maxHeartbeats 4000000 in
set_option maxRecDepth 100000 in
theorem c_X9_isColumn {l : Launch} {D : va_G} {b0 : Nat} {n : Nat} {M : jM} {a : Int} (ha : jRng a) : jCtr l D b0 yX9_isColumn cX9_isColumn 1 (some .boolean) 0 0 0 [jI a] n M (jrd n M (if a = 0 ∨ a = 1 then 1 else 0)) := by
  refine jctr (lv := [some (jI a)]) RX9 "isColumn" rfl rfl (by decide) (Nat.le_of_ble_eq_true rfl) rfl ?_
  intro X h hR hX
  refine jk_iload_n (q := 1) h dX9_isColumn_0 rfl rfl ?_
  refine jk_if_eq (q := 4) (tgt := 9) h dX9_isColumn_1 (by decide) rfl ⟨by omega, by omega⟩ (fun c1 => ?_) (fun c1 => ?_)
  · refine jk_iconst (q := 10) h dX9_isColumn_9 rfl ?_
    refine jk_goto (q := 13) (tgt := 14) h dX9_isColumn_10 (by decide) ?_
    exact jk_zret h hR dX9_isColumn_14 (Nat.le_of_ble_eq_true rfl) (Nat.le_of_ble_eq_true rfl) (by first | exact Or.inl rfl | exact Or.inr rfl | omega) (jrd_of (by first | rfl | exact (if_pos (by omega)).symm | exact if_pos (by omega) | exact if_neg (by omega)))
  · refine jk_iload_n (q := 5) h dX9_isColumn_4 rfl rfl ?_
    refine jk_iconst (q := 6) h dX9_isColumn_5 rfl ?_
    refine jk_icmp_ne (q := 9) (tgt := 13) h dX9_isColumn_6 (by decide) rfl ⟨by omega, by omega⟩ ⟨by omega, by omega⟩ (fun c6 => ?_) (fun c6 => ?_)
    · refine jk_iconst (q := 14) h dX9_isColumn_13 rfl ?_
      exact jk_zret h hR dX9_isColumn_14 (Nat.le_of_ble_eq_true rfl) (Nat.le_of_ble_eq_true rfl) (by first | exact Or.inl rfl | exact Or.inr rfl | omega) (jrd_of (by first | rfl | exact (if_pos (by omega)).symm | exact if_pos (by omega) | exact if_neg (by omega)))
    · refine jk_iconst (q := 10) h dX9_isColumn_9 rfl ?_
      refine jk_goto (q := 13) (tgt := 14) h dX9_isColumn_10 (by decide) ?_
      exact jk_zret h hR dX9_isColumn_14 (Nat.le_of_ble_eq_true rfl) (Nat.le_of_ble_eq_true rfl) (by first | exact Or.inl rfl | exact Or.inr rfl | omega) (jrd_of (by first | rfl | exact (if_pos (by omega)).symm | exact if_pos (by omega) | exact if_neg (by omega)))

set_option maxHeartbeats 4000000 in
set_option maxRecDepth 100000 in
theorem c_X9_isValue {l : Launch} {D : va_G} {b0 : Nat} {n : Nat} {M : jM} {a : Int} (ha : jRng a) : jCtr l D b0 yX9_isValue cX9_isValue 1 (some .boolean) 1 0 0 [jI a] n M (jrd n M (if 0 ≤ a ∧ a ≤ 99 then 1 else 0)) := by
  refine jctr (lv := [some (jI a)]) RX9 "isValue" rfl rfl (by decide) (Nat.le_of_ble_eq_true rfl) rfl ?_
  intro X h hR hX
  refine jk_iload_n (q := 1) h dX9_isValue_0 rfl rfl ?_
  refine jk_iconst (q := 2) h dX9_isValue_1 rfl ?_
  refine jk_bipush (q := 4) h dX9_isValue_2 (by decide) rfl ?_
  refine jk_callS (q := 7) h hX (c_X9_isBetween ⟨by omega, by omega⟩ ⟨by omega, by omega⟩ ⟨by omega, by omega⟩) ms_X9_isBetween dX9_isValue_4 ml_X9_88 ⟨rfl, Nat.le_refl _⟩ rfl rfl (Nat.le_of_ble_eq_true rfl) (Nat.le_of_ble_eq_true rfl) rfl rfl (Nat.le_of_ble_eq_true rfl) rfl (fun v9 n9 M9 hp9 => ?_)
  obtain ⟨rfl, rfl, rfl⟩ := hp9
  exact jk_zret h hR dX9_isValue_7 (Nat.le_of_ble_eq_true rfl) (Nat.le_of_ble_eq_true rfl) (by split <;> simp) (jrd_of rfl)

set_option maxHeartbeats 4000000 in
set_option maxRecDepth 100000 in
theorem c_X9_areBounds {l : Launch} {D : va_G} {b0 : Nat} {n : Nat} {M : jM} {a b : Int} (ha : jRng a) (hb : jRng b) : jCtr l D b0 yX9_areBounds cX9_areBounds 2 (some .boolean) 2 0 0 [jI a, jI b] n M (jrd n M (if 0 ≤ a ∧ a ≤ b ∧ b ≤ 99 then 1 else 0)) := by
  refine jctr (lv := [some (jI a), some (jI b)]) RX9 "areBounds" rfl rfl (by decide) (Nat.le_of_ble_eq_true rfl) rfl ?_
  intro X h hR hX
  refine jk_iload_n (q := 1) h dX9_areBounds_0 rfl rfl ?_
  refine jk_callS (q := 4) h hX (c_X9_isValue ⟨by omega, by omega⟩) ms_X9_isValue dX9_areBounds_1 ml_X9_254 ⟨rfl, Nat.le_refl _⟩ rfl rfl (Nat.le_of_ble_eq_true rfl) (Nat.le_of_ble_eq_true rfl) rfl rfl (Nat.le_of_ble_eq_true rfl) rfl (fun v9 n9 M9 hp9 => ?_)
  obtain ⟨rfl, rfl, rfl⟩ := hp9
  refine jk_if_eqB (q := 7) (tgt := 23) h dX9_areBounds_4 (by decide) rfl (fun c4 => ?_) (fun c4 => ?_)
  · refine jk_iconst (q := 24) h dX9_areBounds_23 rfl ?_
    exact jk_zret h hR dX9_areBounds_24 (Nat.le_of_ble_eq_true rfl) (Nat.le_of_ble_eq_true rfl) (by first | exact Or.inl rfl | exact Or.inr rfl | omega) (jrd_of (by first | rfl | exact (if_pos (by omega)).symm | exact if_pos (by omega) | exact if_neg (by omega)))
  · refine jk_iload_n (q := 8) h dX9_areBounds_7 rfl rfl ?_
    refine jk_callS (q := 11) h hX (c_X9_isValue ⟨by omega, by omega⟩) ms_X9_isValue dX9_areBounds_8 ml_X9_254 ⟨rfl, Nat.le_refl _⟩ rfl rfl (Nat.le_of_ble_eq_true rfl) (Nat.le_of_ble_eq_true rfl) rfl rfl (Nat.le_of_ble_eq_true rfl) rfl (fun v9 n9 M9 hp9 => ?_)
    obtain ⟨rfl, rfl, rfl⟩ := hp9
    refine jk_if_eqB (q := 14) (tgt := 23) h dX9_areBounds_11 (by decide) rfl (fun c11 => ?_) (fun c11 => ?_)
    · refine jk_iconst (q := 24) h dX9_areBounds_23 rfl ?_
      exact jk_zret h hR dX9_areBounds_24 (Nat.le_of_ble_eq_true rfl) (Nat.le_of_ble_eq_true rfl) (by first | exact Or.inl rfl | exact Or.inr rfl | omega) (jrd_of (by first | rfl | exact (if_pos (by omega)).symm | exact if_pos (by omega) | exact if_neg (by omega)))
    · refine jk_iload_n (q := 15) h dX9_areBounds_14 rfl rfl ?_
      refine jk_iload_n (q := 16) h dX9_areBounds_15 rfl rfl ?_
      refine jk_icmp_gt (q := 19) (tgt := 23) h dX9_areBounds_16 (by decide) rfl ⟨by omega, by omega⟩ ⟨by omega, by omega⟩ (fun c16 => ?_) (fun c16 => ?_)
      · refine jk_iconst (q := 24) h dX9_areBounds_23 rfl ?_
        exact jk_zret h hR dX9_areBounds_24 (Nat.le_of_ble_eq_true rfl) (Nat.le_of_ble_eq_true rfl) (by first | exact Or.inl rfl | exact Or.inr rfl | omega) (jrd_of (by first | rfl | exact (if_pos (by omega)).symm | exact if_pos (by omega) | exact if_neg (by omega)))
      · refine jk_iconst (q := 20) h dX9_areBounds_19 rfl ?_
        refine jk_goto (q := 23) (tgt := 24) h dX9_areBounds_20 (by decide) ?_
        exact jk_zret h hR dX9_areBounds_24 (Nat.le_of_ble_eq_true rfl) (Nat.le_of_ble_eq_true rfl) (by first | exact Or.inl rfl | exact Or.inr rfl | omega) (jrd_of (by first | rfl | exact (if_pos (by omega)).symm | exact if_pos (by omega) | exact if_neg (by omega)))

def jmix (F G : Nat → Int) (i : Int) : Nat → Int := fun k => if (k : Int) < i then F k else G k
theorem jmix_0 (F G : Nat → Int) : jmix F G 0 = G := by
  funext k
  simp only [jmix]
  rw [if_neg (by omega)]
theorem jmix_up {F G : Nat → Int} {i : Int} (h : 0 ≤ i) : jfup (jmix F G i) i.toNat (F i.toNat) = jmix F G (i + 1) := by
  funext k
  by_cases hk : k = i.toNat
  · subst hk
    simp only [jfup, jmix, if_true]
    rw [if_pos (by omega)]
  · simp only [jfup, jmix, if_neg hk]
    by_cases h2 : (k : Int) < i
    · rw [if_pos h2, if_pos (by omega)]
    · rw [if_neg h2, if_neg (by omega)]

set_option maxHeartbeats 4000000 in
set_option maxRecDepth 100000 in
theorem c_X9_copyNumbers {l : Launch} {D : va_G} {b0 : Nat} {n : Nat} {M : jM} {f t len : Nat} {F G : Nat → Int} (hlen : Nat.ble len 2147483647 = true) (hF : jPic M f [aI len F]) (hG : jPic M t [aI len G]) (hft : f ≠ t) : jCtr l D b0 yX9_copyNumbers cX9_copyNumbers 3 none 0 0 0 [.ref f, .ref t] n M (fun v n2 M2 => none = v ∧ n = n2 ∧ jst M M2 t (aI len F)) := by
  refine jctr (lv := [some (.ref f), some (.ref t), none]) RX9 "copyNumbers" rfl rfl (by decide) (Nat.le_of_ble_eq_true rfl) rfl ?_
  intro X h hR hX
  have hl9 := Nat.le_of_ble_eq_true hlen
  refine jk_iconst (q := 1) h dX9_copyNumbers_0 rfl ?_
  refine jk_istore_n (q := 2) h dX9_copyNumbers_1 rfl (Nat.le_of_ble_eq_true rfl) rfl rfl ?_
  have lp2 : ∀ (k9 : Nat) (i : Int) (M9 : jM) (hi : 0 ≤ i) (hi2 : i ≤ len) (hF : jPic M9 f [aI len F]) (hG : jPic M9 t [aI len (jmix F G i)]) (hs : jst M M9 t (aI len (jmix F G i))) (hk9 : ((len : Int) - i).toNat = k9), jJ X 2 [some (.ref (f)), some (.ref (t)), some (jI (i))] [] n M9 0 0 := by
    intro k9
    induction k9 using Nat.strongRecOn with
    | _ k9 ih2 =>
      intro i M9 hi hi2 hF hG hs hk9
      refine jk_iload_n (q := 3) h dX9_copyNumbers_2 rfl rfl ?_
      refine jk_aload_n (q := 4) h dX9_copyNumbers_3 rfl rfl ?_
      refine jk_alen (q := 5) h dX9_copyNumbers_4 (hF.at 0 rfl) rfl ?_
      refine jk_icmp_ge (q := 8) (tgt := 26) h dX9_copyNumbers_5 (by decide) rfl ⟨by omega, by omega⟩ ⟨by omega, by omega⟩ (fun c5 => ?_) (fun c5 => ?_)
      · refine  jk_ext (G := fun k => jI (F k)) (hG.at 0 rfl) (fun k hk => ?_) (fun M10 hs10 => ?_)
        · show jI (jmix F G i k) = jI (F k)
          simp only [jmix]
          rw [if_pos (by omega)]
        exact jk_vret h hR dX9_copyNumbers_26 (Nat.le_of_ble_eq_true rfl) (Nat.le_of_ble_eq_true rfl) ⟨rfl, rfl, hs.tr hs10⟩
      · refine jk_iload_n (q := 9) h dX9_copyNumbers_8 rfl rfl ?_
        refine jk_aload_n (q := 10) h dX9_copyNumbers_9 rfl rfl ?_
        refine jk_alen (q := 11) h dX9_copyNumbers_10 (hG.at 0 rfl) rfl ?_
        refine jk_icmp_ge (q := 14) (tgt := 26) h dX9_copyNumbers_11 (by decide) rfl ⟨by omega, by omega⟩ ⟨by omega, by omega⟩ (fun c11 => ?_) (fun c11 => ?_)
        · refine  jk_ext (G := fun k => jI (F k)) (hG.at 0 rfl) (fun k hk => ?_) (fun M10 hs10 => ?_)
          · show jI (jmix F G i k) = jI (F k)
            simp only [jmix]
            rw [if_pos (by omega)]
          exact jk_vret h hR dX9_copyNumbers_26 (Nat.le_of_ble_eq_true rfl) (Nat.le_of_ble_eq_true rfl) ⟨rfl, rfl, hs.tr hs10⟩
        · refine jk_aload_n (q := 15) h dX9_copyNumbers_14 rfl rfl ?_
          refine jk_iload_n (q := 16) h dX9_copyNumbers_15 rfl rfl ?_
          refine jk_aload_n (q := 17) h dX9_copyNumbers_16 rfl rfl ?_
          refine jk_iload_n (q := 18) h dX9_copyNumbers_17 rfl rfl ?_
          refine jk_ialdI (q := 19) h dX9_copyNumbers_18 (hF.at 0 rfl) (by omega) (by omega) hlen rfl ?_
          refine jk_iast (q := 20) h dX9_copyNumbers_19 (hG.at 0 rfl) (by omega) (by omega) hlen rfl (fun M_1 s_1 => ?_)
          have hF := hF.other s_1 1 rfl (by omega)
          have hG := hG.put (i := 0) s_1 rfl
          refine jk_iinc (q := 23) h dX9_copyNumbers_20 rfl rfl rfl rfl ?_
          refine jk_goto (q := 26) (tgt := 2) h dX9_copyNumbers_23 (by decide) ?_
          exact jk_weak (jwk_s rfl (jwk_s rfl (jwk_s rfl jwk_0))) (ih2 _ (by omega) _ _ (by omega) (by omega) hF (by rw [← jmix_up hi]; exact hG) (by rw [← jmix_up hi]; exact hs.tr s_1) rfl)
  exact jk_weak (jwk_s rfl (jwk_s rfl (jwk_s rfl jwk_0))) (lp2 _ _ _ (by omega) (by omega) hF (by rw [jmix_0]; exact hG) (by rw [jmix_0]; exact ⟨hG.at 0 rfl, fun _ _ => rfl⟩) rfl)
end
section
theorem jPic_c {M : jM} {b : Nat} {e : jC} (h : M b = some e) : jPic M b [e] := fun j x hx => by
  have hz : j < 1 := (List.getElem?_eq_some_iff.mp hx).1
  rw [show j = 0 by omega] at hx ⊢
  cases hx
  exact h
/-- rows from row on have moved up, as far as i -/
def jdr (a : Nat → Int) (row i : Int) : Nat → Int := fun k => if row ≤ (k : Int) ∧ (k : Int) < i then a (k + 1) else a k
theorem jdr_0 (a : Nat → Int) (row : Int) : jdr a row row = a := by
  funext k
  simp only [jdr]
  rw [if_neg (by omega)]
theorem jdr_up {a : Nat → Int} {row i : Int} (h0 : 0 ≤ row) (h : row ≤ i) : jfup (jdr a row i) i.toNat (jdr a row i (i + 1).toNat) = jdr a row (i + 1) := by
  funext k
  by_cases hk : k = i.toNat
  · subst hk
    simp only [jfup, jdr, if_true]
    rw [if_neg (by omega), if_pos (by omega), show (i + 1).toNat = i.toNat + 1 by omega]
  · simp only [jfup, jdr, if_neg hk]
    by_cases h2 : row ≤ (k : Int) ∧ (k : Int) < i
    · rw [if_pos h2, if_pos (by omega)]
    · rw [if_neg h2, if_neg (by omega)]
def rib (a b : Nat → Int) (sz la ha lb hb : Int) : Int := smI (fun k => if (la ≤ a k ∧ a k ≤ ha) ∧ (lb ≤ b k ∧ b k ≤ hb) then 1 else 0) sz
def rlk (a b : Nat → Int) (sz : Int) (x y : Int) : Int := smI (fun k => if a k = x ∧ b k = y then 1 else 0) sz
theorem smI_01 {p : Nat → Prop} [DecidablePred p] {z : Int} (h0 : 0 ≤ z) : 0 ≤ smI (fun k => if p k then 1 else 0) z ∧ smI (fun k => if p k then 1 else 0) z ≤ z := by
  have h := smI_bd (f := fun k => if p k then (1 : Int) else 0) (c := 1) (z := z) (N := z.toNat) h0 (by omega) (by omega) (fun k _ => by
    by_cases hp : p k
    · simp [hp]
    · simp [hp])
  omega

set_option maxHeartbeats 4000000 in
set_option maxRecDepth 100000 in
theorem c_X8_init {l : Launch} {D : va_G} {b0 : Nat} {M : jM} {t : Nat} (hT : jPic M t [oB 7 [.null, .null, jI 0]]) : jCtr l D b0 yX8_init cX8_init 1 none 1 2 120 [.ref t] (t + 1) M (fun v n2 M2 => none = v ∧ t + 3 = n2 ∧ jPic M2 t (tbL t jz jz 0) ∧ jout M M2 t 3) := by
  refine jctr (lv := [some (.ref t)]) RX8 "<init>" rfl rfl (by decide) (Nat.le_of_ble_eq_true rfl) rfl ?_
  intro X h hR hX
  have ho := jout.rf M t 3
  refine jk_aload_n (q := 1) h dX8_init_0 rfl rfl ?_
  refine jk_objInit (q := 4) h dX8_init_1 ml_X8_3 ko_i ko_c (Nat.le_of_ble_eq_true rfl) (Nat.le_of_ble_eq_true rfl) rfl ?_
  refine jk_aload_n (q := 5) h dX8_init_4 rfl rfl ?_
  refine jk_bipush (q := 7) h dX8_init_5 (by decide) rfl ?_
  refine jk_newa (q := 9) h dX8_init_7 rfl ka_int rfl (Nat.le_of_ble_eq_true rfl) (Nat.le_of_ble_eq_true rfl) rfl (fun M_1 s_1 => ?_)
  have s_1 : jst _ _ _ (aI 60 jz) := s_1
  have hT := hT.snoc s_1
  have ho := ho.st (i := 1) s_1 (by omega)
  refine jk_putF (q := 12) h (fp_X8_9 _) dX8_init_9 rfl fd_X8_0 (hT.at 0 rfl) (Nat.le_of_ble_eq_true rfl) rfl (fun M_2 s_2 => ?_)
  have hT := hT.put (i := 0) s_2 rfl
  have ho := ho.st (i := 0) s_2 (by omega)
  refine jk_aload_n (q := 13) h dX8_init_12 rfl rfl ?_
  refine jk_bipush (q := 15) h dX8_init_13 (by decide) rfl ?_
  refine jk_newa (q := 17) h dX8_init_15 rfl ka_int rfl (Nat.le_of_ble_eq_true rfl) (Nat.le_of_ble_eq_true rfl) rfl (fun M_3 s_3 => ?_)
  have s_3 : jst _ _ _ (aI 60 jz) := s_3
  have hT := hT.snoc s_3
  have ho := ho.st (i := 2) s_3 (by omega)
  refine jk_putF (q := 20) h (fp_X8_15 _) dX8_init_17 rfl fd_X8_1 (hT.at 0 rfl) (Nat.le_of_ble_eq_true rfl) rfl (fun M_4 s_4 => ?_)
  have hT := hT.put (i := 0) s_4 rfl
  have ho := ho.st (i := 0) s_4 (by omega)
  exact jk_vret h hR dX8_init_20 (Nat.le_of_ble_eq_true rfl) (Nat.le_of_ble_eq_true rfl) ⟨rfl, rfl, hT, ho⟩

set_option maxHeartbeats 4000000 in
set_option maxRecDepth 100000 in
theorem c_X8_isFull {l : Launch} {D : va_G} {b0 : Nat} {n : Nat} {M : jM} {t : Nat} {a b : Nat → Int} {sz : Int} (hT : jPic M t (tbL t a b sz)) (hs : 0 ≤ sz ∧ sz ≤ 60) : jCtr l D b0 yX8_isFull cX8_isFull 1 (some .boolean) 0 0 0 [.ref t] n M (jrd n M (if 60 ≤ sz then 1 else 0)) := by
  refine jctr (lv := [some (.ref t)]) RX8 "isFull" rfl rfl (by decide) (Nat.le_of_ble_eq_true rfl) rfl ?_
  intro X h hR hX
  refine jk_aload_n (q := 1) h dX8_isFull_0 rfl rfl ?_
  refine jk_get (q := 4) h fg_X8_18 dX8_isFull_1 (hT.at 0 rfl) rfl rfl ?_
  refine jk_bipush (q := 6) h dX8_isFull_4 (by decide) rfl ?_
  refine jk_icmp_lt (q := 9) (tgt := 13) h dX8_isFull_6 (by decide) rfl ⟨by omega, by omega⟩ ⟨by omega, by omega⟩ (fun c6 => ?_) (fun c6 => ?_)
  · refine jk_iconst (q := 14) h dX8_isFull_13 rfl ?_
    exact jk_zret h hR dX8_isFull_14 (Nat.le_of_ble_eq_true rfl) (Nat.le_of_ble_eq_true rfl) (by first | exact Or.inl rfl | exact Or.inr rfl | omega) (jrd_of (by first | rfl | exact (if_pos (by omega)).symm | exact if_pos (by omega) | exact if_neg (by omega)))
  · refine jk_iconst (q := 10) h dX8_isFull_9 rfl ?_
    refine jk_goto (q := 13) (tgt := 14) h dX8_isFull_10 (by decide) ?_
    exact jk_zret h hR dX8_isFull_14 (Nat.le_of_ble_eq_true rfl) (Nat.le_of_ble_eq_true rfl) (by first | exact Or.inl rfl | exact Or.inr rfl | omega) (jrd_of (by first | rfl | exact (if_pos (by omega)).symm | exact if_pos (by omega) | exact if_neg (by omega)))

set_option maxHeartbeats 4000000 in
set_option maxRecDepth 100000 in
theorem c_X8_hasRow {l : Launch} {D : va_G} {b0 : Nat} {n : Nat} {M : jM} {t : Nat} {a b : Nat → Int} {sz : Int} (hT : jPic M t (tbL t a b sz)) (hs : 0 ≤ sz ∧ sz ≤ 60) {r : Int} (hr : jRng r) : jCtr l D b0 yX8_hasRow cX8_hasRow 2 (some .boolean) 0 0 0 [.ref t, jI r] n M (jrd n M (if 0 ≤ r ∧ r < sz then 1 else 0)) := by
  refine jctr (lv := [some (.ref t), some (jI r)]) RX8 "hasRow" rfl rfl (by decide) (Nat.le_of_ble_eq_true rfl) rfl ?_
  intro X h hR hX
  refine jk_iload_n (q := 1) h dX8_hasRow_0 rfl rfl ?_
  refine jk_if_lt (q := 4) (tgt := 16) h dX8_hasRow_1 (by decide) rfl ⟨by omega, by omega⟩ (fun c1 => ?_) (fun c1 => ?_)
  · refine jk_iconst (q := 17) h dX8_hasRow_16 rfl ?_
    exact jk_zret h hR dX8_hasRow_17 (Nat.le_of_ble_eq_true rfl) (Nat.le_of_ble_eq_true rfl) (by first | exact Or.inl rfl | exact Or.inr rfl | omega) (jrd_of (by first | rfl | exact (if_pos (by omega)).symm | exact if_pos (by omega) | exact if_neg (by omega)))
  · refine jk_iload_n (q := 5) h dX8_hasRow_4 rfl rfl ?_
    refine jk_aload_n (q := 6) h dX8_hasRow_5 rfl rfl ?_
    refine jk_get (q := 9) h fg_X8_18 dX8_hasRow_6 (hT.at 0 rfl) rfl rfl ?_
    refine jk_icmp_ge (q := 12) (tgt := 16) h dX8_hasRow_9 (by decide) rfl ⟨by omega, by omega⟩ ⟨by omega, by omega⟩ (fun c9 => ?_) (fun c9 => ?_)
    · refine jk_iconst (q := 17) h dX8_hasRow_16 rfl ?_
      exact jk_zret h hR dX8_hasRow_17 (Nat.le_of_ble_eq_true rfl) (Nat.le_of_ble_eq_true rfl) (by first | exact Or.inl rfl | exact Or.inr rfl | omega) (jrd_of (by first | rfl | exact (if_pos (by omega)).symm | exact if_pos (by omega) | exact if_neg (by omega)))
    · refine jk_iconst (q := 13) h dX8_hasRow_12 rfl ?_
      refine jk_goto (q := 16) (tgt := 17) h dX8_hasRow_13 (by decide) ?_
      exact jk_zret h hR dX8_hasRow_17 (Nat.le_of_ble_eq_true rfl) (Nat.le_of_ble_eq_true rfl) (by first | exact Or.inl rfl | exact Or.inr rfl | omega) (jrd_of (by first | rfl | exact (if_pos (by omega)).symm | exact if_pos (by omega) | exact if_neg (by omega)))

set_option maxHeartbeats 4000000 in
set_option maxRecDepth 100000 in
theorem c_X8_value {l : Launch} {D : va_G} {b0 : Nat} {n : Nat} {M : jM} {t : Nat} {a b : Nat → Int} {sz : Int} (hT : jPic M t (tbL t a b sz)) (hs : 0 ≤ sz ∧ sz ≤ 60) {r q : Int} (hr : jRng r) (hq : jRng q) : jCtr l D b0 yX8_value cX8_value 3 (some .int) 0 0 0 [.ref t, jI r, jI q] n M (jrd n M (if 0 ≤ r ∧ r < sz then (if q = 0 then a r.toNat else b r.toNat) else 0)) := by
  refine jctr (lv := [some (.ref t), some (jI r), some (jI q)]) RX8 "value" rfl rfl (by decide) (Nat.le_of_ble_eq_true rfl) rfl ?_
  intro X h hR hX
  refine jk_iload_n (q := 1) h dX8_value_0 rfl rfl ?_
  refine jk_if_lt (q := 4) (tgt := 12) h dX8_value_1 (by decide) rfl ⟨by omega, by omega⟩ (fun c1 => ?_) (fun c1 => ?_)
  · refine jk_iconst (q := 13) h dX8_value_12 rfl ?_
    exact jk_iret h hR dX8_value_13 (Nat.le_of_ble_eq_true rfl) (Nat.le_of_ble_eq_true rfl) (jrd_of (by first | (rw [if_neg (by omega)]; done) | (rw [if_pos (by omega), if_pos (by omega)]; done) | (rw [if_pos (by omega), if_neg (by omega)]; done)))
  · refine jk_iload_n (q := 5) h dX8_value_4 rfl rfl ?_
    refine jk_aload_n (q := 6) h dX8_value_5 rfl rfl ?_
    refine jk_get (q := 9) h fg_X8_18 dX8_value_6 (hT.at 0 rfl) rfl rfl ?_
    refine jk_icmp_lt (q := 12) (tgt := 14) h dX8_value_9 (by decide) rfl ⟨by omega, by omega⟩ ⟨by omega, by omega⟩ (fun c9 => ?_) (fun c9 => ?_)
    · refine jk_iload_n (q := 15) h dX8_value_14 rfl rfl ?_
      refine jk_if_ne (q := 18) (tgt := 27) h dX8_value_15 (by decide) rfl ⟨by omega, by omega⟩ (fun c15 => ?_) (fun c15 => ?_)
      · refine jk_aload_n (q := 28) h dX8_value_27 rfl rfl ?_
        refine jk_get (q := 31) h fg_X8_15 dX8_value_28 (hT.at 0 rfl) rfl rfl ?_
        refine jk_iload_n (q := 32) h dX8_value_31 rfl rfl ?_
        refine jk_ialdI (q := 33) h dX8_value_32 (hT.at 2 rfl) (by omega) (by omega) rfl rfl ?_
        exact jk_iret h hR dX8_value_33 (Nat.le_of_ble_eq_true rfl) (Nat.le_of_ble_eq_true rfl) (jrd_of (by first | (rw [if_neg (by omega)]; done) | (rw [if_pos (by omega), if_pos (by omega)]; done) | (rw [if_pos (by omega), if_neg (by omega)]; done)))
      · refine jk_aload_n (q := 19) h dX8_value_18 rfl rfl ?_
        refine jk_get (q := 22) h fg_X8_9 dX8_value_19 (hT.at 0 rfl) rfl rfl ?_
        refine jk_iload_n (q := 23) h dX8_value_22 rfl rfl ?_
        refine jk_ialdI (q := 24) h dX8_value_23 (hT.at 1 rfl) (by omega) (by omega) rfl rfl ?_
        refine jk_goto (q := 27) (tgt := 33) h dX8_value_24 (by decide) ?_
        exact jk_iret h hR dX8_value_33 (Nat.le_of_ble_eq_true rfl) (Nat.le_of_ble_eq_true rfl) (jrd_of (by first | (rw [if_neg (by omega)]; done) | (rw [if_pos (by omega), if_pos (by omega)]; done) | (rw [if_pos (by omega), if_neg (by omega)]; done)))
    · refine jk_iconst (q := 13) h dX8_value_12 rfl ?_
      exact jk_iret h hR dX8_value_13 (Nat.le_of_ble_eq_true rfl) (Nat.le_of_ble_eq_true rfl) (jrd_of (by first | (rw [if_neg (by omega)]; done) | (rw [if_pos (by omega), if_pos (by omega)]; done) | (rw [if_pos (by omega), if_neg (by omega)]; done)))

set_option maxHeartbeats 4000000 in
set_option maxRecDepth 100000 in
theorem c_X8_add {l : Launch} {D : va_G} {b0 : Nat} {n : Nat} {M : jM} {t : Nat} {a b : Nat → Int} {sz : Int} (hT : jPic M t (tbL t a b sz)) (hs : 0 ≤ sz ∧ sz ≤ 60) (hs2 : sz < 60) {x y : Int} : jCtr l D b0 yX8_add cX8_add 3 none 1 0 0 [.ref t, jI x, jI y] n M (fun v n2 M2 => none = v ∧ n = n2 ∧ jPic M2 t (tbL t (jfup a sz.toNat x) (jfup b sz.toNat y) (sz + 1)) ∧ jout M M2 t 3) := by
  refine jctr (lv := [some (.ref t), some (jI x), some (jI y)]) RX8 "add" rfl rfl (by decide) (Nat.le_of_ble_eq_true rfl) rfl ?_
  intro X h hR hX
  have ho := jout.rf M t 3
  refine jk_aload_n (q := 1) h dX8_add_0 rfl rfl ?_
  refine jk_get (q := 4) h fg_X8_18 dX8_add_1 (hT.at 0 rfl) rfl rfl ?_
  refine jk_if_lt (q := 7) (tgt := 14) h dX8_add_4 (by decide) rfl ⟨by omega, by omega⟩ (fun c4 => ?_) (fun c4 => ?_)
  · omega
  · refine jk_aload_n (q := 8) h dX8_add_7 rfl rfl ?_
    refine jk_callV (q := 11) h hX (c_X8_isFull hT ⟨by omega, by omega⟩) mv_X8_isFull (hT.at 0 rfl) dX8_add_8 ml_X8_22 ⟨rfl, Nat.le_refl _⟩ rfl rfl (Nat.le_of_ble_eq_true rfl) (Nat.le_of_ble_eq_true rfl) rfl rfl (Nat.le_of_ble_eq_true rfl) rfl (fun v9 n9 M9 hp9 => ?_)
    obtain ⟨rfl, rfl, rfl⟩ := hp9
    refine jk_if_eqB (q := 14) (tgt := 15) h dX8_add_11 (by decide) rfl (fun c11 => ?_) (fun c11 => ?_)
    · refine jk_aload_n (q := 16) h dX8_add_15 rfl rfl ?_
      refine jk_get (q := 19) h fg_X8_9 dX8_add_16 (hT.at 0 rfl) rfl rfl ?_
      refine jk_aload_n (q := 20) h dX8_add_19 rfl rfl ?_
      refine jk_get (q := 23) h fg_X8_18 dX8_add_20 (hT.at 0 rfl) rfl rfl ?_
      refine jk_iload_n (q := 24) h dX8_add_23 rfl rfl ?_
      refine jk_iast (q := 25) h dX8_add_24 (hT.at 1 rfl) (by omega) (by omega) rfl rfl (fun M_1 s_1 => ?_)
      have hT := hT.put (i := 1) s_1 rfl
      have ho := ho.st (i := 1) s_1 (by omega)
      refine jk_aload_n (q := 26) h dX8_add_25 rfl rfl ?_
      refine jk_get (q := 29) h fg_X8_15 dX8_add_26 (hT.at 0 rfl) rfl rfl ?_
      refine jk_aload_n (q := 30) h dX8_add_29 rfl rfl ?_
      refine jk_get (q := 33) h fg_X8_18 dX8_add_30 (hT.at 0 rfl) rfl rfl ?_
      refine jk_iload_n (q := 34) h dX8_add_33 rfl rfl ?_
      refine jk_iast (q := 35) h dX8_add_34 (hT.at 2 rfl) (by omega) (by omega) rfl rfl (fun M_2 s_2 => ?_)
      have hT := hT.put (i := 2) s_2 rfl
      have ho := ho.st (i := 2) s_2 (by omega)
      refine jk_aload_n (q := 36) h dX8_add_35 rfl rfl ?_
      refine jk_dup (q := 37) h dX8_add_36 rfl rfl ?_
      refine jk_get (q := 40) h fg_X8_18 dX8_add_37 (hT.at 0 rfl) rfl rfl ?_
      refine jk_iconst (q := 41) h dX8_add_40 rfl ?_
      refine jk_iadd (q := 42) h dX8_add_41 rfl ?_
      refine jk_put (q := 45) h (fp_X8_18 _) dX8_add_42 (hT.at 0 rfl) (Nat.le_of_ble_eq_true rfl) rfl (fun M_3 s_3 => ?_)
      have hT := hT.put (i := 0) s_3 rfl
      have ho := ho.st (i := 0) s_3 (by omega)
      exact jk_vret h hR dX8_add_45 (Nat.le_of_ble_eq_true rfl) (Nat.le_of_ble_eq_true rfl) ⟨rfl, rfl, hT, ho⟩
    · omega

set_option maxHeartbeats 4000000 in
set_option maxRecDepth 100000 in
theorem c_X8_drop {l : Launch} {D : va_G} {b0 : Nat} {n : Nat} {M : jM} {t : Nat} {a b : Nat → Int} {sz : Int} (hT : jPic M t (tbL t a b sz)) (hs : 0 ≤ sz ∧ sz ≤ 60) {r : Int} (hr : 0 ≤ r ∧ r < sz) : jCtr l D b0 yX8_drop cX8_drop 3 none 1 0 0 [.ref t, jI r] n M (fun v n2 M2 => none = v ∧ n = n2 ∧ jPic M2 t (tbL t (jdr a r (sz - 1)) (jdr b r (sz - 1)) (sz - 1)) ∧ jout M M2 t 3) := by
  refine jctr (lv := [some (.ref t), some (jI r), none]) RX8 "drop" rfl rfl (by decide) (Nat.le_of_ble_eq_true rfl) rfl ?_
  intro X h hR hX
  have ho := jout.rf M t 3
  refine jk_aload_n (q := 1) h dX8_drop_0 rfl rfl ?_
  refine jk_iload_n (q := 2) h dX8_drop_1 rfl rfl ?_
  refine jk_callV (q := 5) h hX (c_X8_hasRow hT ⟨by omega, by omega⟩ ⟨by omega, by omega⟩) mv_X8_hasRow (hT.at 0 rfl) dX8_drop_2 ml_X8_26 ⟨rfl, Nat.le_refl _⟩ rfl rfl (Nat.le_of_ble_eq_true rfl) (Nat.le_of_ble_eq_true rfl) rfl rfl (Nat.le_of_ble_eq_true rfl) rfl (fun v9 n9 M9 hp9 => ?_)
  obtain ⟨rfl, rfl, rfl⟩ := hp9
  refine jk_if_neB (q := 8) (tgt := 9) h dX8_drop_5 (by decide) rfl (fun c5 => ?_) (fun c5 => ?_)
  · refine jk_iload_n (q := 10) h dX8_drop_9 rfl rfl ?_
    refine jk_istore_n (q := 11) h dX8_drop_10 rfl (Nat.le_of_ble_eq_true rfl) rfl rfl ?_
    have lp11 : ∀ (k9 : Nat) (i : Int) (M9 : jM) (hi : r ≤ i) (hi2 : i ≤ sz - 1) (hT : jPic M9 t (tbL t (jdr a r i) (jdr b r i) sz)) (ho : jout M M9 t 3) (hk9 : (sz - i).toNat = k9), jJ X 11 [some (.ref (t)), some (jI (r)), some (jI (i))] [] n M9 0 0 := by
      intro k9
      induction k9 using Nat.strongRecOn with
      | _ k9 ih11 =>
        intro i M9 hi hi2 hT ho hk9
        refine jk_iload_n (q := 12) h dX8_drop_11 rfl rfl ?_
        refine jk_iconst (q := 13) h dX8_drop_12 rfl ?_
        refine jk_iadd (q := 14) h dX8_drop_13 rfl ?_
        refine jk_aload_n (q := 15) h dX8_drop_14 rfl rfl ?_
        refine jk_get (q := 18) h fg_X8_18 dX8_drop_15 (hT.at 0 rfl) rfl rfl ?_
        refine jk_icmp_ge (q := 21) (tgt := 55) h dX8_drop_18 (by decide) rfl ⟨by omega, by omega⟩ ⟨by omega, by omega⟩ (fun c18 => ?_) (fun c18 => ?_)
        · have hi3 : i = sz - 1 := by omega
          subst hi3
          refine jk_aload_n (q := 56) h dX8_drop_55 rfl rfl ?_
          refine jk_dup (q := 57) h dX8_drop_56 rfl rfl ?_
          refine jk_get (q := 60) h fg_X8_18 dX8_drop_57 (hT.at 0 rfl) rfl rfl ?_
          refine jk_iconst (q := 61) h dX8_drop_60 rfl ?_
          refine jk_isub (q := 62) h dX8_drop_61 rfl ?_
          refine jk_put (q := 65) h (fp_X8_18 _) dX8_drop_62 (hT.at 0 rfl) (Nat.le_of_ble_eq_true rfl) rfl (fun M_1 s_1 => ?_)
          have hT := hT.put (i := 0) s_1 rfl
          have ho := ho.st (i := 0) s_1 (by omega)
          exact jk_vret h hR dX8_drop_65 (Nat.le_of_ble_eq_true rfl) (Nat.le_of_ble_eq_true rfl) ⟨rfl, rfl, hT, ho⟩
        · refine jk_aload_n (q := 22) h dX8_drop_21 rfl rfl ?_
          refine jk_get (q := 25) h fg_X8_9 dX8_drop_22 (hT.at 0 rfl) rfl rfl ?_
          refine jk_iload_n (q := 26) h dX8_drop_25 rfl rfl ?_
          refine jk_aload_n (q := 27) h dX8_drop_26 rfl rfl ?_
          refine jk_get (q := 30) h fg_X8_9 dX8_drop_27 (hT.at 0 rfl) rfl rfl ?_
          refine jk_iload_n (q := 31) h dX8_drop_30 rfl rfl ?_
          refine jk_iconst (q := 32) h dX8_drop_31 rfl ?_
          refine jk_iadd (q := 33) h dX8_drop_32 rfl ?_
          refine jk_ialdI (q := 34) h dX8_drop_33 (hT.at 1 rfl) (by omega) (by omega) rfl rfl ?_
          refine jk_iast (q := 35) h dX8_drop_34 (hT.at 1 rfl) (by omega) (by omega) rfl rfl (fun M_2 s_2 => ?_)
          have hT := hT.put (i := 1) s_2 rfl
          have ho := ho.st (i := 1) s_2 (by omega)
          refine jk_aload_n (q := 36) h dX8_drop_35 rfl rfl ?_
          refine jk_get (q := 39) h fg_X8_15 dX8_drop_36 (hT.at 0 rfl) rfl rfl ?_
          refine jk_iload_n (q := 40) h dX8_drop_39 rfl rfl ?_
          refine jk_aload_n (q := 41) h dX8_drop_40 rfl rfl ?_
          refine jk_get (q := 44) h fg_X8_15 dX8_drop_41 (hT.at 0 rfl) rfl rfl ?_
          refine jk_iload_n (q := 45) h dX8_drop_44 rfl rfl ?_
          refine jk_iconst (q := 46) h dX8_drop_45 rfl ?_
          refine jk_iadd (q := 47) h dX8_drop_46 rfl ?_
          refine jk_ialdI (q := 48) h dX8_drop_47 (hT.at 2 rfl) (by omega) (by omega) rfl rfl ?_
          refine jk_iast (q := 49) h dX8_drop_48 (hT.at 2 rfl) (by omega) (by omega) rfl rfl (fun M_3 s_3 => ?_)
          have hT := hT.put (i := 2) s_3 rfl
          have ho := ho.st (i := 2) s_3 (by omega)
          refine jk_iinc (q := 52) h dX8_drop_49 rfl rfl rfl rfl ?_
          refine jk_goto (q := 55) (tgt := 11) h dX8_drop_52 (by decide) ?_
          exact jk_weak (jwk_s rfl (jwk_s rfl (jwk_s rfl jwk_0))) (ih11 _ (by omega) _ _ (by omega) (by omega) (by rw [← jdr_up hr.1 hi, ← jdr_up hr.1 hi]; exact hT) ho rfl)
    exact jk_weak (jwk_s rfl (jwk_s rfl (jwk_s rfl jwk_0))) (lp11 _ _ _ (by omega) (by omega) (by rw [jdr_0, jdr_0]; exact hT) ho rfl)
  · omega

set_option maxHeartbeats 4000000 in
set_option maxRecDepth 100000 in
theorem c_X8_rowsInsideBoth {l : Launch} {D : va_G} {b0 : Nat} {n : Nat} {M : jM} {t : Nat} {a b : Nat → Int} {sz : Int} (hT : jPic M t (tbL t a b sz)) (hs : 0 ≤ sz ∧ sz ≤ 60) (ha : jrF a 0 99) (hb : jrF b 0 99) {la ha9 lb hb9 : Int} (h1 : jRng la) (h2 : jRng ha9) (h3 : jRng lb) (h4 : jRng hb9) : jCtr l D b0 yX8_rowsInsideBoth cX8_rowsInsideBoth 7 (some .int) 1 0 0 [.ref t, jI la, jI ha9, jI lb, jI hb9] n M (jrd n M (rib a b sz la ha9 lb hb9)) := by
  refine jctr (lv := [some (.ref t), some (jI la), some (jI ha9), some (jI lb), some (jI hb9), none, none]) RX8 "rowsInsideBoth" rfl rfl (by decide) (Nat.le_of_ble_eq_true rfl) rfl ?_
  intro X h hR hX
  refine jk_iconst (q := 1) h dX8_rowsInsideBoth_0 rfl ?_
  refine jk_istore (q := 3) h dX8_rowsInsideBoth_1 rfl (Nat.le_of_ble_eq_true rfl) rfl rfl ?_
  refine jk_iconst (q := 4) h dX8_rowsInsideBoth_3 rfl ?_
  refine jk_istore (q := 6) h dX8_rowsInsideBoth_4 rfl (Nat.le_of_ble_eq_true rfl) rfl rfl ?_
  have lp6 : ∀ (k9 : Nat) (c : Int) (i : Int) (hi : 0 ≤ i) (hi2 : i ≤ sz) (hc : c = rib a b i la ha9 lb hb9) (hc0 : 0 ≤ c ∧ c ≤ i) (hk9 : (sz - i).toNat = k9), jJ X 6 [some (.ref (t)), some (jI (la)), some (jI (ha9)), some (jI (lb)), some (jI (hb9)), some (jI (c)), some (jI (i))] [] n M 0 0 := by
    intro k9
    induction k9 using Nat.strongRecOn with
    | _ k9 ih6 =>
      intro c i hi hi2 hc hc0 hk9
      have hai := ha i.toNat
      have hbi := hb i.toNat
      refine jk_iload (q := 8) h dX8_rowsInsideBoth_6 rfl rfl ?_
      refine jk_aload_n (q := 9) h dX8_rowsInsideBoth_8 rfl rfl ?_
      refine jk_get (q := 12) h fg_X8_18 dX8_rowsInsideBoth_9 (hT.at 0 rfl) rfl rfl ?_
      refine jk_icmp_ge (q := 15) (tgt := 55) h dX8_rowsInsideBoth_12 (by decide) rfl ⟨by omega, by omega⟩ ⟨by omega, by omega⟩ (fun c12 => ?_) (fun c12 => ?_)
      · have hi3 : i = sz := by omega
        subst hi3
        refine jk_iload (q := 57) h dX8_rowsInsideBoth_55 rfl rfl ?_
        exact jk_iret h hR dX8_rowsInsideBoth_57 (Nat.le_of_ble_eq_true rfl) (Nat.le_of_ble_eq_true rfl) (jrd_of hc.symm)
      · refine jk_aload_n (q := 16) h dX8_rowsInsideBoth_15 rfl rfl ?_
        refine jk_get (q := 19) h fg_X8_9 dX8_rowsInsideBoth_16 (hT.at 0 rfl) rfl rfl ?_
        refine jk_iload (q := 21) h dX8_rowsInsideBoth_19 rfl rfl ?_
        refine jk_ialdI (q := 22) h dX8_rowsInsideBoth_21 (hT.at 1 rfl) (by omega) (by omega) rfl rfl ?_
        refine jk_iload_n (q := 23) h dX8_rowsInsideBoth_22 rfl rfl ?_
        refine jk_iload_n (q := 24) h dX8_rowsInsideBoth_23 rfl rfl ?_
        refine jk_callSN (q := 27) h hX (c_X9_isBetween ⟨by omega, by omega⟩ ⟨by omega, by omega⟩ ⟨by omega, by omega⟩) ms_X9_isBetween dX8_rowsInsideBoth_24 ml_X8_34 ⟨rfl, Nat.le_refl _⟩ rfl rfl (Nat.le_of_ble_eq_true rfl) (Nat.le_of_ble_eq_true rfl) rfl rfl (Nat.le_of_ble_eq_true rfl) rfl (fun v9 n9 M9 hp9 => ?_)
        obtain ⟨rfl, rfl, rfl⟩ := hp9
        refine jk_if_eqB (q := 30) (tgt := 49) h dX8_rowsInsideBoth_27 (by decide) rfl (fun c27 => ?_) (fun c27 => ?_)
        · refine jk_iinc (q := 52) h dX8_rowsInsideBoth_49 rfl rfl rfl rfl ?_
          refine jk_goto (q := 55) (tgt := 6) h dX8_rowsInsideBoth_52 (by decide) ?_
          exact jk_weak (jwk_s rfl (jwk_s rfl (jwk_s rfl (jwk_s rfl (jwk_s rfl (jwk_s rfl (jwk_s rfl jwk_0))))))) (ih6 _ (by omega) _ _ (by omega) (by omega) (by first | exact smI_t hi hc (if_pos ⟨by omega, by omega⟩) | exact smI_t0 hi hc (if_neg (by omega))) (by omega) rfl)
        · refine jk_aload_n (q := 31) h dX8_rowsInsideBoth_30 rfl rfl ?_
          refine jk_get (q := 34) h fg_X8_15 dX8_rowsInsideBoth_31 (hT.at 0 rfl) rfl rfl ?_
          refine jk_iload (q := 36) h dX8_rowsInsideBoth_34 rfl rfl ?_
          refine jk_ialdI (q := 37) h dX8_rowsInsideBoth_36 (hT.at 2 rfl) (by omega) (by omega) rfl rfl ?_
          refine jk_iload_n (q := 38) h dX8_rowsInsideBoth_37 rfl rfl ?_
          refine jk_iload (q := 40) h dX8_rowsInsideBoth_38 rfl rfl ?_
          refine jk_callSN (q := 43) h hX (c_X9_isBetween ⟨by omega, by omega⟩ ⟨by omega, by omega⟩ ⟨by omega, by omega⟩) ms_X9_isBetween dX8_rowsInsideBoth_40 ml_X8_34 ⟨rfl, Nat.le_refl _⟩ rfl rfl (Nat.le_of_ble_eq_true rfl) (Nat.le_of_ble_eq_true rfl) rfl rfl (Nat.le_of_ble_eq_true rfl) rfl (fun v9 n9 M9 hp9 => ?_)
          obtain ⟨rfl, rfl, rfl⟩ := hp9
          refine jk_if_eqB (q := 46) (tgt := 49) h dX8_rowsInsideBoth_43 (by decide) rfl (fun c43 => ?_) (fun c43 => ?_)
          · refine jk_iinc (q := 52) h dX8_rowsInsideBoth_49 rfl rfl rfl rfl ?_
            refine jk_goto (q := 55) (tgt := 6) h dX8_rowsInsideBoth_52 (by decide) ?_
            exact jk_weak (jwk_s rfl (jwk_s rfl (jwk_s rfl (jwk_s rfl (jwk_s rfl (jwk_s rfl (jwk_s rfl jwk_0))))))) (ih6 _ (by omega) _ _ (by omega) (by omega) (by first | exact smI_t hi hc (if_pos ⟨by omega, by omega⟩) | exact smI_t0 hi hc (if_neg (by omega))) (by omega) rfl)
          · refine jk_iinc (q := 49) h dX8_rowsInsideBoth_46 rfl rfl rfl rfl ?_
            refine jk_iinc (q := 52) h dX8_rowsInsideBoth_49 rfl rfl rfl rfl ?_
            refine jk_goto (q := 55) (tgt := 6) h dX8_rowsInsideBoth_52 (by decide) ?_
            exact jk_weak (jwk_s rfl (jwk_s rfl (jwk_s rfl (jwk_s rfl (jwk_s rfl (jwk_s rfl (jwk_s rfl jwk_0))))))) (ih6 _ (by omega) _ _ (by omega) (by omega) (by first | exact smI_t hi hc (if_pos ⟨by omega, by omega⟩) | exact smI_t0 hi hc (if_neg (by omega))) (by omega) rfl)
  exact jk_weak (jwk_s rfl (jwk_s rfl (jwk_s rfl (jwk_s rfl (jwk_s rfl (jwk_s rfl (jwk_s rfl jwk_0))))))) (lp6 _ _ _ (by omega) (by omega) rfl (by omega) rfl)

set_option maxHeartbeats 4000000 in
set_option maxRecDepth 100000 in
theorem c_X8_rowsInside {l : Launch} {D : va_G} {b0 : Nat} {n : Nat} {M : jM} {t : Nat} {a b : Nat → Int} {sz : Int} (hT : jPic M t (tbL t a b sz)) (hs : 0 ≤ sz ∧ sz ≤ 60) (ha : jrF a 0 99) (hb : jrF b 0 99) {q lo hi : Int} (hq : jRng q) (h1 : jRng lo) (h2 : jRng hi) : jCtr l D b0 yX8_rowsInside cX8_rowsInside 4 (some .int) 2 0 0 [.ref t, jI q, jI lo, jI hi] n M (jrd n M (if q = 0 then rib a b sz lo hi 0 99 else rib a b sz 0 99 lo hi)) := by
  refine jctr (lv := [some (.ref t), some (jI q), some (jI lo), some (jI hi)]) RX8 "rowsInside" rfl rfl (by decide) (Nat.le_of_ble_eq_true rfl) rfl ?_
  intro X h hR hX
  refine jk_iload_n (q := 1) h dX8_rowsInside_0 rfl rfl ?_
  refine jk_if_ne (q := 4) (tgt := 16) h dX8_rowsInside_1 (by decide) rfl ⟨by omega, by omega⟩ (fun c1 => ?_) (fun c1 => ?_)
  · refine jk_aload_n (q := 17) h dX8_rowsInside_16 rfl rfl ?_
    refine jk_iconst (q := 18) h dX8_rowsInside_17 rfl ?_
    refine jk_bipush (q := 20) h dX8_rowsInside_18 (by decide) rfl ?_
    refine jk_iload_n (q := 21) h dX8_rowsInside_20 rfl rfl ?_
    refine jk_iload_n (q := 22) h dX8_rowsInside_21 rfl rfl ?_
    refine jk_callV (q := 25) h hX (c_X8_rowsInsideBoth hT ⟨by omega, by omega⟩ ha hb ⟨by omega, by omega⟩ ⟨by omega, by omega⟩ ⟨by omega, by omega⟩ ⟨by omega, by omega⟩) mv_X8_rowsInsideBoth (hT.at 0 rfl) dX8_rowsInside_22 ml_X8_30 ⟨rfl, Nat.le_refl _⟩ rfl rfl (Nat.le_of_ble_eq_true rfl) (Nat.le_of_ble_eq_true rfl) rfl rfl (Nat.le_of_ble_eq_true rfl) rfl (fun v9 n9 M9 hp9 => ?_)
    obtain ⟨rfl, rfl, rfl⟩ := hp9
    exact jk_iret h hR dX8_rowsInside_25 (Nat.le_of_ble_eq_true rfl) (Nat.le_of_ble_eq_true rfl) (jrd_of (by first | exact if_pos (by omega) | exact if_neg (by omega)))
  · refine jk_aload_n (q := 5) h dX8_rowsInside_4 rfl rfl ?_
    refine jk_iload_n (q := 6) h dX8_rowsInside_5 rfl rfl ?_
    refine jk_iload_n (q := 7) h dX8_rowsInside_6 rfl rfl ?_
    refine jk_iconst (q := 8) h dX8_rowsInside_7 rfl ?_
    refine jk_bipush (q := 10) h dX8_rowsInside_8 (by decide) rfl ?_
    refine jk_callV (q := 13) h hX (c_X8_rowsInsideBoth hT ⟨by omega, by omega⟩ ha hb ⟨by omega, by omega⟩ ⟨by omega, by omega⟩ ⟨by omega, by omega⟩ ⟨by omega, by omega⟩) mv_X8_rowsInsideBoth (hT.at 0 rfl) dX8_rowsInside_10 ml_X8_30 ⟨rfl, Nat.le_refl _⟩ rfl rfl (Nat.le_of_ble_eq_true rfl) (Nat.le_of_ble_eq_true rfl) rfl rfl (Nat.le_of_ble_eq_true rfl) rfl (fun v9 n9 M9 hp9 => ?_)
    obtain ⟨rfl, rfl, rfl⟩ := hp9
    refine jk_goto (q := 16) (tgt := 25) h dX8_rowsInside_13 (by decide) ?_
    exact jk_iret h hR dX8_rowsInside_25 (Nat.le_of_ble_eq_true rfl) (Nat.le_of_ble_eq_true rfl) (jrd_of (by first | exact if_pos (by omega) | exact if_neg (by omega)))

set_option maxHeartbeats 4000000 in
set_option maxRecDepth 100000 in
theorem c_X8_rowsLike {l : Launch} {D : va_G} {b0 : Nat} {n : Nat} {M : jM} {t : Nat} {a b : Nat → Int} {sz : Int} (hT : jPic M t (tbL t a b sz)) (hs : 0 ≤ sz ∧ sz ≤ 60) (ha : jrF a 0 99) (hb : jrF b 0 99) {r : Int} (hr : 0 ≤ r ∧ r < sz) : jCtr l D b0 yX8_rowsLike cX8_rowsLike 4 (some .int) 0 0 0 [.ref t, jI r] n M (jrd n M (rlk a b sz (a r.toNat) (b r.toNat))) := by
  refine jctr (lv := [some (.ref t), some (jI r), none, none]) RX8 "rowsLike" rfl rfl (by decide) (Nat.le_of_ble_eq_true rfl) rfl ?_
  intro X h hR hX
  refine jk_iload_n (q := 1) h dX8_rowsLike_0 rfl rfl ?_
  refine jk_if_lt (q := 4) (tgt := 12) h dX8_rowsLike_1 (by decide) rfl ⟨by omega, by omega⟩ (fun c1 => ?_) (fun c1 => ?_)
  · omega
  · refine jk_iload_n (q := 5) h dX8_rowsLike_4 rfl rfl ?_
    refine jk_aload_n (q := 6) h dX8_rowsLike_5 rfl rfl ?_
    refine jk_get (q := 9) h fg_X8_18 dX8_rowsLike_6 (hT.at 0 rfl) rfl rfl ?_
    refine jk_icmp_lt (q := 12) (tgt := 14) h dX8_rowsLike_9 (by decide) rfl ⟨by omega, by omega⟩ ⟨by omega, by omega⟩ (fun c9 => ?_) (fun c9 => ?_)
    · refine jk_iconst (q := 15) h dX8_rowsLike_14 rfl ?_
      refine jk_istore_n (q := 16) h dX8_rowsLike_15 rfl (Nat.le_of_ble_eq_true rfl) rfl rfl ?_
      refine jk_iconst (q := 17) h dX8_rowsLike_16 rfl ?_
      refine jk_istore_n (q := 18) h dX8_rowsLike_17 rfl (Nat.le_of_ble_eq_true rfl) rfl rfl ?_
      have lp18 : ∀ (k9 : Nat) (c : Int) (i : Int) (hi : 0 ≤ i) (hi2 : i ≤ sz) (hc : c = rlk a b i (a r.toNat) (b r.toNat)) (hc0 : 0 ≤ c ∧ c ≤ i) (hk9 : (sz - i).toNat = k9), jJ X 18 [some (.ref (t)), some (jI (r)), some (jI (c)), some (jI (i))] [] n M 0 0 := by
        intro k9
        induction k9 using Nat.strongRecOn with
        | _ k9 ih18 =>
          intro c i hi hi2 hc hc0 hk9
          have hai := ha i.toNat
          have hbi := hb i.toNat
          have har := ha r.toNat
          have hbr := hb r.toNat
          refine jk_iload_n (q := 19) h dX8_rowsLike_18 rfl rfl ?_
          refine jk_aload_n (q := 20) h dX8_rowsLike_19 rfl rfl ?_
          refine jk_get (q := 23) h fg_X8_18 dX8_rowsLike_20 (hT.at 0 rfl) rfl rfl ?_
          refine jk_icmp_ge (q := 26) (tgt := 65) h dX8_rowsLike_23 (by decide) rfl ⟨by omega, by omega⟩ ⟨by omega, by omega⟩ (fun c23 => ?_) (fun c23 => ?_)
          · have hi3 : i = sz := by omega
            subst hi3
            refine jk_iload_n (q := 66) h dX8_rowsLike_65 rfl rfl ?_
            exact jk_iret h hR dX8_rowsLike_66 (Nat.le_of_ble_eq_true rfl) (Nat.le_of_ble_eq_true rfl) (jrd_of hc.symm)
          · refine jk_aload_n (q := 27) h dX8_rowsLike_26 rfl rfl ?_
            refine jk_get (q := 30) h fg_X8_9 dX8_rowsLike_27 (hT.at 0 rfl) rfl rfl ?_
            refine jk_iload_n (q := 31) h dX8_rowsLike_30 rfl rfl ?_
            refine jk_ialdI (q := 32) h dX8_rowsLike_31 (hT.at 1 rfl) (by omega) (by omega) rfl rfl ?_
            refine jk_aload_n (q := 33) h dX8_rowsLike_32 rfl rfl ?_
            refine jk_get (q := 36) h fg_X8_9 dX8_rowsLike_33 (hT.at 0 rfl) rfl rfl ?_
            refine jk_iload_n (q := 37) h dX8_rowsLike_36 rfl rfl ?_
            refine jk_ialdI (q := 38) h dX8_rowsLike_37 (hT.at 1 rfl) (by omega) (by omega) rfl rfl ?_
            refine jk_icmp_ne (q := 41) (tgt := 59) h dX8_rowsLike_38 (by decide) rfl ⟨by omega, by omega⟩ ⟨by omega, by omega⟩ (fun c38 => ?_) (fun c38 => ?_)
            · refine jk_iinc (q := 62) h dX8_rowsLike_59 rfl rfl rfl rfl ?_
              refine jk_goto (q := 65) (tgt := 18) h dX8_rowsLike_62 (by decide) ?_
              exact jk_weak (jwk_s rfl (jwk_s rfl (jwk_s rfl (jwk_s rfl jwk_0)))) (ih18 _ (by omega) _ _ (by omega) (by omega) (by first | exact smI_t hi hc (if_pos ⟨by omega, by omega⟩) | exact smI_t0 hi hc (if_neg (by omega))) (by omega) rfl)
            · refine jk_aload_n (q := 42) h dX8_rowsLike_41 rfl rfl ?_
              refine jk_get (q := 45) h fg_X8_15 dX8_rowsLike_42 (hT.at 0 rfl) rfl rfl ?_
              refine jk_iload_n (q := 46) h dX8_rowsLike_45 rfl rfl ?_
              refine jk_ialdI (q := 47) h dX8_rowsLike_46 (hT.at 2 rfl) (by omega) (by omega) rfl rfl ?_
              refine jk_aload_n (q := 48) h dX8_rowsLike_47 rfl rfl ?_
              refine jk_get (q := 51) h fg_X8_15 dX8_rowsLike_48 (hT.at 0 rfl) rfl rfl ?_
              refine jk_iload_n (q := 52) h dX8_rowsLike_51 rfl rfl ?_
              refine jk_ialdI (q := 53) h dX8_rowsLike_52 (hT.at 2 rfl) (by omega) (by omega) rfl rfl ?_
              refine jk_icmp_ne (q := 56) (tgt := 59) h dX8_rowsLike_53 (by decide) rfl ⟨by omega, by omega⟩ ⟨by omega, by omega⟩ (fun c53 => ?_) (fun c53 => ?_)
              · refine jk_iinc (q := 62) h dX8_rowsLike_59 rfl rfl rfl rfl ?_
                refine jk_goto (q := 65) (tgt := 18) h dX8_rowsLike_62 (by decide) ?_
                exact jk_weak (jwk_s rfl (jwk_s rfl (jwk_s rfl (jwk_s rfl jwk_0)))) (ih18 _ (by omega) _ _ (by omega) (by omega) (by first | exact smI_t hi hc (if_pos ⟨by omega, by omega⟩) | exact smI_t0 hi hc (if_neg (by omega))) (by omega) rfl)
              · refine jk_iinc (q := 59) h dX8_rowsLike_56 rfl rfl rfl rfl ?_
                refine jk_iinc (q := 62) h dX8_rowsLike_59 rfl rfl rfl rfl ?_
                refine jk_goto (q := 65) (tgt := 18) h dX8_rowsLike_62 (by decide) ?_
                exact jk_weak (jwk_s rfl (jwk_s rfl (jwk_s rfl (jwk_s rfl jwk_0)))) (ih18 _ (by omega) _ _ (by omega) (by omega) (by first | exact smI_t hi hc (if_pos ⟨by omega, by omega⟩) | exact smI_t0 hi hc (if_neg (by omega))) (by omega) rfl)
      exact jk_weak (jwk_s rfl (jwk_s rfl (jwk_s rfl (jwk_s rfl jwk_0)))) (lp18 _ _ _ (by omega) (by omega) rfl (by omega) rfl)
    · omega

set_option maxHeartbeats 4000000 in
set_option maxRecDepth 100000 in
theorem c_X8_copyFrom {l : Launch} {D : va_G} {b0 : Nat} {n : Nat} {M : jM} {t t2 : Nat} {a b a2 b2 : Nat → Int} {sz sz2 : Int} (hT : jPic M t (tbL t a b sz)) (hU : jPic M t2 (tbL t2 a2 b2 sz2)) (hd : t + 3 ≤ t2 ∨ t2 + 3 ≤ t) : jCtr l D b0 yX8_copyFrom cX8_copyFrom 2 none 1 0 0 [.ref t, .ref t2] n M (fun v n2 M2 => none = v ∧ n = n2 ∧ jPic M2 t (tbL t a2 b2 sz2) ∧ jout M M2 t 3) := by
  refine jctr (lv := [some (.ref t), some (.ref t2)]) RX8 "copyFrom" rfl rfl (by decide) (Nat.le_of_ble_eq_true rfl) rfl ?_
  intro X h hR hX
  have ho := jout.rf M t 3
  refine jk_aload_n (q := 1) h dX8_copyFrom_0 rfl rfl ?_
  refine jk_get (q := 4) h fg_X8_9 dX8_copyFrom_1 (hU.at 0 rfl) rfl rfl ?_
  refine jk_aload_n (q := 5) h dX8_copyFrom_4 rfl rfl ?_
  refine jk_get (q := 8) h fg_X8_9 dX8_copyFrom_5 (hT.at 0 rfl) rfl rfl ?_
  refine jk_callSN (q := 11) h hX (c_X9_copyNumbers rfl (jPic_c (hU.at 1 rfl)) (jPic_c (hT.at 1 rfl)) (by omega)) ms_X9_copyNumbers dX8_copyFrom_8 ml_X8_38 ⟨rfl, Nat.le_refl _⟩ rfl rfl (Nat.le_of_ble_eq_true rfl) (Nat.le_of_ble_eq_true rfl) rfl rfl (Nat.le_of_ble_eq_true rfl) rfl (fun v9 n9 M_1 hp9 => ?_)
  obtain ⟨rfl, rfl, s_1⟩ := hp9
  have hT := hT.put (i := 1) s_1 rfl
  have hU := hU.other s_1 3 rfl (by omega)
  have ho := ho.st (i := 1) s_1 (by omega)
  refine jk_aload_n (q := 12) h dX8_copyFrom_11 rfl rfl ?_
  refine jk_get (q := 15) h fg_X8_15 dX8_copyFrom_12 (hU.at 0 rfl) rfl rfl ?_
  refine jk_aload_n (q := 16) h dX8_copyFrom_15 rfl rfl ?_
  refine jk_get (q := 19) h fg_X8_15 dX8_copyFrom_16 (hT.at 0 rfl) rfl rfl ?_
  refine jk_callSN (q := 22) h hX (c_X9_copyNumbers rfl (jPic_c (hU.at 2 rfl)) (jPic_c (hT.at 2 rfl)) (by omega)) ms_X9_copyNumbers dX8_copyFrom_19 ml_X8_38 ⟨rfl, Nat.le_refl _⟩ rfl rfl (Nat.le_of_ble_eq_true rfl) (Nat.le_of_ble_eq_true rfl) rfl rfl (Nat.le_of_ble_eq_true rfl) rfl (fun v9 n9 M_2 hp9 => ?_)
  obtain ⟨rfl, rfl, s_2⟩ := hp9
  have hT := hT.put (i := 2) s_2 rfl
  have hU := hU.other s_2 3 rfl (by omega)
  have ho := ho.st (i := 2) s_2 (by omega)
  refine jk_aload_n (q := 23) h dX8_copyFrom_22 rfl rfl ?_
  refine jk_aload_n (q := 24) h dX8_copyFrom_23 rfl rfl ?_
  refine jk_get (q := 27) h fg_X8_18 dX8_copyFrom_24 (hU.at 0 rfl) rfl rfl ?_
  refine jk_put (q := 30) h (fp_X8_18 _) dX8_copyFrom_27 (hT.at 0 rfl) (Nat.le_of_ble_eq_true rfl) rfl (fun M_3 s_3 => ?_)
  have hT := hT.put (i := 0) s_3 rfl
  have hU := hU.other s_3 3 rfl (by omega)
  have ho := ho.st (i := 0) s_3 (by omega)
  exact jk_vret h hR dX8_copyFrom_30 (Nat.le_of_ble_eq_true rfl) (Nat.le_of_ble_eq_true rfl) ⟨rfl, rfl, hT, ho⟩
end
section
def cfO (had cv cr : Nat → Int) (cn : Int) (lo hi br un : Nat → Int) (bn : Int) : Prop := jrF had 0 60 ∧ jrF cv 0 99 ∧ jrF cr 0 60 ∧ (0 ≤ cn ∧ cn ≤ 6) ∧ jrF lo 0 99 ∧ jrF hi 0 99 ∧ jrF br 0 60 ∧ jrF un 0 100 ∧ (0 ≤ bn ∧ bn ≤ 10) ∧ ∀ k : Nat, (k : Int) < bn → lo k ≤ hi k
def cmS (cv cr : Nat → Int) (cn low high : Int) : Int := smI (fun k => if low ≤ cv k ∧ cv k ≤ high then cr k else 0) cn
abbrev jmn (a b : Int) : Int := if b < a then b else a
abbrev jmx (a b : Int) : Int := if a < b then b else a
def gbS (lo hi br : Nat → Int) (low high : Int) : Nat → Int := fun k => if 0 < jmn (hi k) high - jmx (lo k) low + 1 then br k * (jmn (hi k) high - jmx (lo k) low + 1) / (hi k - lo k + 1) else 0
def gsS (cv cr : Nat → Int) (cn : Int) (lo hi br : Nat → Int) (bn low high : Int) : Int := cmS cv cr cn low high + smI (gbS lo hi br low high) bn
def lsS (cv cr : Nat → Int) (cn : Int) (lo hi br : Nat → Int) (bn low high : Int) : Int := cmS cv cr cn low high + smI (fun k => if low ≤ lo k ∧ hi k ≤ high then br k else 0) bn
def msS (cv cr : Nat → Int) (cn : Int) (lo hi br : Nat → Int) (bn low high : Int) : Int := cmS cv cr cn low high + smI (fun k => if low ≤ hi k ∧ lo k ≤ high then br k else 0) bn
def miS (had cv cr : Nat → Int) (cn : Int) (lo hi br : Nat → Int) (bn v : Int) : Int := if 0 ≤ gsS cv cr cn lo hi br bn v v - had v.toNat then gsS cv cr cn lo hi br bn v v - had v.toNat else -(gsS cv cr cn lo hi br bn v v - had v.toNat)
def wvS (f : Int → Int) : Nat → Int
  | 0 => 0
  | n + 1 => if f (wvS f n) < f n then (n : Int) else wvS f n
def wvI (f : Int → Int) (z : Int) : Int := wvS f z.toNat
theorem wvI_s {f : Int → Int} {z : Int} (h : 0 ≤ z) : wvI f (z + 1) = if f (wvI f z) < f z then z else wvI f z := by
  unfold wvI
  rw [show (z + 1).toNat = z.toNat + 1 by omega]
  simp only [wvS]
  rw [show ((z.toNat : Nat) : Int) = z by omega]
theorem wvI_1 (f : Int → Int) : wvI f 1 = 0 := by
  show wvS f 1 = 0
  simp [wvS]
def jany (p : Nat → Bool) : Nat → Bool
  | 0 => false
  | n + 1 => jany p n || p n
theorem jany_iff {p : Nat → Bool} : ∀ {n : Nat}, jany p n = true ↔ ∃ k, k < n ∧ p k = true
  | 0 => by simp [jany]
  | n + 1 => by
    simp only [jany, Bool.or_eq_true]
    rw [jany_iff]
    constructor
    · rintro (⟨k, h1, h2⟩ | h)
      · exact ⟨k, by omega, h2⟩
      · exact ⟨n, by omega, h⟩
    · rintro ⟨k, h1, h2⟩
      by_cases hk : k = n
      · subst hk; exact Or.inr h2
      · exact Or.inl ⟨k, by omega, h2⟩
abbrev isC (cv : Nat → Int) (cn v : Int) : Bool := jany (fun k => decide (cv k = v)) cn.toNat
theorem isC_iff {cv : Nat → Int} {cn v : Int} (h : 0 ≤ cn) : isC cv cn v = true ↔ ∃ k : Nat, (k : Int) < cn ∧ cv k = v := by
  rw [jany_iff]
  constructor
  · rintro ⟨k, h1, h2⟩
    exact ⟨k, by omega, by simpa using h2⟩
  · rintro ⟨k, h1, h2⟩
    exact ⟨k, by omega, by simpa using h2⟩
theorem smI_b {f : Nat → Int} {z v r B : Int} (h0 : 0 ≤ z) (hr : r = B + smI f z) (hv : f z.toNat = v) : r + v = B + smI f (z + 1) := by
  rw [smI_s h0, hr, hv]
  omega
theorem smI_b0 {f : Nat → Int} {z r B : Int} (h0 : 0 ≤ z) (hr : r = B + smI f z) (hv : f z.toNat = 0) : r = B + smI f (z + 1) := by
  rw [smI_s h0, hr, hv]
  omega
theorem jmulb {x y A B : Int} (h1 : 0 ≤ x) (h2 : x ≤ A) (h3 : 0 ≤ y) (h4 : y ≤ B) : 0 ≤ x * y ∧ x * y ≤ A * B := ⟨Int.mul_nonneg h1 h3, Int.mul_le_mul h2 h4 h3 (by omega)⟩
theorem jdivb {x d A : Int} (h1 : 0 ≤ x) (h2 : x ≤ A) (h3 : 0 < d) : 0 ≤ x / d ∧ x / d ≤ A := by
  refine ⟨Int.ediv_nonneg h1 (by omega), ?_⟩
  exact Int.le_trans (Int.ediv_le_self d h1) h2
theorem cmS_bd {cv cr : Nat → Int} {cn low high : Int} (hcr : jrF cr 0 60) (hcn : 0 ≤ cn ∧ cn ≤ 6) : 0 ≤ cmS cv cr cn low high ∧ cmS cv cr cn low high ≤ 360 := by
  have h := smI_bd (f := fun k => if low ≤ cv k ∧ cv k ≤ high then cr k else 0) (c := 60) (z := cn) (N := 6) hcn.1 hcn.2 (by omega) (fun k _ => by
    have := hcr k
    by_cases hp : low ≤ cv k ∧ cv k ≤ high
    · simp only [if_pos hp]; exact this
    · simp only [if_neg hp]; omega)
  exact ⟨h.1, by have := h.2; unfold cmS; omega⟩
theorem gbS_bd {lo hi br : Nat → Int} {low high : Int} (hlo : jrF lo 0 99) (hhi : jrF hi 0 99) (hbr : jrF br 0 60) (k : Nat) (hk : lo k ≤ hi k) : 0 ≤ gbS lo hi br low high k ∧ gbS lo hi br low high k ≤ 60 := by
  have h1 := hlo k
  have h2 := hhi k
  have h3 := hbr k
  unfold gbS
  by_cases hp : 0 < jmn (hi k) high - jmx (lo k) low + 1
  · simp only [if_pos hp]
    have h4 : jmn (hi k) high - jmx (lo k) low + 1 ≤ 100 := by
      have h5 : jmn (hi k) high ≤ hi k := by unfold jmn; split <;> omega
      have h6 : lo k ≤ jmx (lo k) low := by unfold jmx; split <;> omega
      omega
    have h5 := jmulb h3.1 h3.2 (Int.le_of_lt hp) h4
    have h7 : jmn (hi k) high - jmx (lo k) low + 1 ≤ hi k - lo k + 1 := by
      have h8 : jmn (hi k) high ≤ hi k := by unfold jmn; split <;> omega
      have h9 : lo k ≤ jmx (lo k) low := by unfold jmx; split <;> omega
      omega
    refine ⟨(jdivb h5.1 h5.2 (by omega)).1, ?_⟩
    refine Int.le_trans (Int.ediv_le_of_le_mul (by omega) (Int.mul_le_mul_of_nonneg_left h7 h3.1)) h3.2
  · simp only [if_neg hp]
    omega
theorem gsS_bd {had cv cr : Nat → Int} {cn : Int} {lo hi br un : Nat → Int} {bn low high : Int} (hO : cfO had cv cr cn lo hi br un bn) : 0 ≤ gsS cv cr cn lo hi br bn low high ∧ gsS cv cr cn lo hi br bn low high ≤ 960 := by
  obtain ⟨hhad, hcv, hcr, hcn, hlo, hhi, hbr, hun, hbn, hlh⟩ := id hO
  have h1 := cmS_bd (cv := cv) (low := low) (high := high) hcr hcn
  have h2 := smI_bd (f := gbS lo hi br low high) (c := 60) (z := bn) (N := 10) hbn.1 hbn.2 (by omega) (fun k hk => gbS_bd hlo hhi hbr k (hlh k hk))
  unfold gsS
  omega
theorem miS_bd {had cv cr : Nat → Int} {cn : Int} {lo hi br un : Nat → Int} {bn v : Int} (hO : cfO had cv cr cn lo hi br un bn) : 0 ≤ miS had cv cr cn lo hi br bn v ∧ miS had cv cr cn lo hi br bn v ≤ 2000 := by
  have h1 := gsS_bd (low := v) (high := v) hO
  have h2 := hO.1 v.toNat
  unfold miS
  split <;> omega

set_option maxHeartbeats 4000000 in
set_option maxRecDepth 100000 in
theorem c_X2_init {l : Launch} {D : va_G} {b0 : Nat} {M : jM} {c : Nat} (hC : jPic M c [oB 1 [.null, .null, .null, jI 0, .null, .null, .null, .null, jI 0]]) : jCtr l D b0 yX2_init cX2_init 1 none 1 7 152 [.ref c] (c + 1) M (fun v n2 M2 => none = v ∧ c + 8 = n2 ∧ jPic M2 c (cfL c jz jz jz 0 jz jz jz jz 0) ∧ jout M M2 c 8) := by
  refine jctr (lv := [some (.ref c)]) RX2 "<init>" rfl rfl (by decide) (Nat.le_of_ble_eq_true rfl) rfl ?_
  intro X h hR hX
  have ho := jout.rf M c 8
  refine jk_aload_n (q := 1) h dX2_init_0 rfl rfl ?_
  refine jk_objInit (q := 4) h dX2_init_1 ml_X2_3 ko_i ko_c (Nat.le_of_ble_eq_true rfl) (Nat.le_of_ble_eq_true rfl) rfl ?_
  refine jk_aload_n (q := 5) h dX2_init_4 rfl rfl ?_
  refine jk_bipush (q := 7) h dX2_init_5 (by decide) rfl ?_
  refine jk_newa (q := 9) h dX2_init_7 rfl ka_int rfl (Nat.le_of_ble_eq_true rfl) (Nat.le_of_ble_eq_true rfl) rfl (fun M_1 s_1 => ?_)
  have s_1 : jst _ _ _ (aI 100 jz) := s_1
  have hC := hC.snoc s_1
  have ho := ho.st (i := 1) s_1 (by omega)
  refine jk_putF (q := 12) h (fp_X2_9 _) dX2_init_9 rfl fd_X2_0 (hC.at 0 rfl) (Nat.le_of_ble_eq_true rfl) rfl (fun M_2 s_2 => ?_)
  have hC := hC.put (i := 0) s_2 rfl
  have ho := ho.st (i := 0) s_2 (by omega)
  refine jk_aload_n (q := 13) h dX2_init_12 rfl rfl ?_
  refine jk_bipush (q := 15) h dX2_init_13 (by decide) rfl ?_
  refine jk_newa (q := 17) h dX2_init_15 rfl ka_int rfl (Nat.le_of_ble_eq_true rfl) (Nat.le_of_ble_eq_true rfl) rfl (fun M_3 s_3 => ?_)
  have s_3 : jst _ _ _ (aI 6 jz) := s_3
  have hC := hC.snoc s_3
  have ho := ho.st (i := 2) s_3 (by omega)
  refine jk_putF (q := 20) h (fp_X2_15 _) dX2_init_17 rfl fd_X2_1 (hC.at 0 rfl) (Nat.le_of_ble_eq_true rfl) rfl (fun M_4 s_4 => ?_)
  have hC := hC.put (i := 0) s_4 rfl
  have ho := ho.st (i := 0) s_4 (by omega)
  refine jk_aload_n (q := 21) h dX2_init_20 rfl rfl ?_
  refine jk_bipush (q := 23) h dX2_init_21 (by decide) rfl ?_
  refine jk_newa (q := 25) h dX2_init_23 rfl ka_int rfl (Nat.le_of_ble_eq_true rfl) (Nat.le_of_ble_eq_true rfl) rfl (fun M_5 s_5 => ?_)
  have s_5 : jst _ _ _ (aI 6 jz) := s_5
  have hC := hC.snoc s_5
  have ho := ho.st (i := 3) s_5 (by omega)
  refine jk_putF (q := 28) h (fp_X2_18 _) dX2_init_25 rfl fd_X2_2 (hC.at 0 rfl) (Nat.le_of_ble_eq_true rfl) rfl (fun M_6 s_6 => ?_)
  have hC := hC.put (i := 0) s_6 rfl
  have ho := ho.st (i := 0) s_6 (by omega)
  refine jk_aload_n (q := 29) h dX2_init_28 rfl rfl ?_
  refine jk_bipush (q := 31) h dX2_init_29 (by decide) rfl ?_
  refine jk_newa (q := 33) h dX2_init_31 rfl ka_int rfl (Nat.le_of_ble_eq_true rfl) (Nat.le_of_ble_eq_true rfl) rfl (fun M_7 s_7 => ?_)
  have s_7 : jst _ _ _ (aI 10 jz) := s_7
  have hC := hC.snoc s_7
  have ho := ho.st (i := 4) s_7 (by omega)
  refine jk_putF (q := 36) h (fp_X2_21 _) dX2_init_33 rfl fd_X2_4 (hC.at 0 rfl) (Nat.le_of_ble_eq_true rfl) rfl (fun M_8 s_8 => ?_)
  have hC := hC.put (i := 0) s_8 rfl
  have ho := ho.st (i := 0) s_8 (by omega)
  refine jk_aload_n (q := 37) h dX2_init_36 rfl rfl ?_
  refine jk_bipush (q := 39) h dX2_init_37 (by decide) rfl ?_
  refine jk_newa (q := 41) h dX2_init_39 rfl ka_int rfl (Nat.le_of_ble_eq_true rfl) (Nat.le_of_ble_eq_true rfl) rfl (fun M_9 s_9 => ?_)
  have s_9 : jst _ _ _ (aI 10 jz) := s_9
  have hC := hC.snoc s_9
  have ho := ho.st (i := 5) s_9 (by omega)
  refine jk_putF (q := 44) h (fp_X2_24 _) dX2_init_41 rfl fd_X2_5 (hC.at 0 rfl) (Nat.le_of_ble_eq_true rfl) rfl (fun M_10 s_10 => ?_)
  have hC := hC.put (i := 0) s_10 rfl
  have ho := ho.st (i := 0) s_10 (by omega)
  refine jk_aload_n (q := 45) h dX2_init_44 rfl rfl ?_
  refine jk_bipush (q := 47) h dX2_init_45 (by decide) rfl ?_
  refine jk_newa (q := 49) h dX2_init_47 rfl ka_int rfl (Nat.le_of_ble_eq_true rfl) (Nat.le_of_ble_eq_true rfl) rfl (fun M_11 s_11 => ?_)
  have s_11 : jst _ _ _ (aI 10 jz) := s_11
  have hC := hC.snoc s_11
  have ho := ho.st (i := 6) s_11 (by omega)
  refine jk_putF (q := 52) h (fp_X2_27 _) dX2_init_49 rfl fd_X2_6 (hC.at 0 rfl) (Nat.le_of_ble_eq_true rfl) rfl (fun M_12 s_12 => ?_)
  have hC := hC.put (i := 0) s_12 rfl
  have ho := ho.st (i := 0) s_12 (by omega)
  refine jk_aload_n (q := 53) h dX2_init_52 rfl rfl ?_
  refine jk_bipush (q := 55) h dX2_init_53 (by decide) rfl ?_
  refine jk_newa (q := 57) h dX2_init_55 rfl ka_int rfl (Nat.le_of_ble_eq_true rfl) (Nat.le_of_ble_eq_true rfl) rfl (fun M_13 s_13 => ?_)
  have s_13 : jst _ _ _ (aI 10 jz) := s_13
  have hC := hC.snoc s_13
  have ho := ho.st (i := 7) s_13 (by omega)
  refine jk_putF (q := 60) h (fp_X2_30 _) dX2_init_57 rfl fd_X2_7 (hC.at 0 rfl) (Nat.le_of_ble_eq_true rfl) rfl (fun M_14 s_14 => ?_)
  have hC := hC.put (i := 0) s_14 rfl
  have ho := ho.st (i := 0) s_14 (by omega)
  exact jk_vret h hR dX2_init_60 (Nat.le_of_ble_eq_true rfl) (Nat.le_of_ble_eq_true rfl) ⟨rfl, rfl, hC, ho⟩

set_option maxHeartbeats 4000000 in
set_option maxRecDepth 100000 in
theorem c_X2_rowsOfCommon {l : Launch} {D : va_G} {b0 : Nat} {n : Nat} {M : jM} {c : Nat} {had cv cr : Nat → Int} {cn : Int} {lo hi br un : Nat → Int} {bn : Int} (hC : jPic M c (cfL c had cv cr cn lo hi br un bn)) (hO : cfO had cv cr cn lo hi br un bn) {low high : Int} (h1 : 0 ≤ low ∧ low ≤ 99) (h2 : 0 ≤ high ∧ high ≤ 99) : jCtr l D b0 yX2_rowsOfCommon cX2_rowsOfCommon 5 (some .int) 1 0 0 [.ref c, jI low, jI high] n M (jrd n M (cmS cv cr cn low high)) := by
  refine jctr (lv := [some (.ref c), some (jI low), some (jI high), none, none]) RX2 "rowsOfCommon" rfl rfl (by decide) (Nat.le_of_ble_eq_true rfl) rfl ?_
  intro X h hR hX
  obtain ⟨hhad, hcv, hcr, hcn, hlo, hhi, hbr, hun, hbn, hlh⟩ := id hO
  refine jk_iconst (q := 1) h dX2_rowsOfCommon_0 rfl ?_
  refine jk_istore_n (q := 2) h dX2_rowsOfCommon_1 rfl (Nat.le_of_ble_eq_true rfl) rfl rfl ?_
  refine jk_iconst (q := 3) h dX2_rowsOfCommon_2 rfl ?_
  refine jk_istore (q := 5) h dX2_rowsOfCommon_3 rfl (Nat.le_of_ble_eq_true rfl) rfl rfl ?_
  have lp5 : ∀ (k9 : Nat) (r : Int) (i : Int) (hi1 : 0 ≤ i) (hi2 : i ≤ cn) (hr : r = cmS cv cr i low high) (hk9 : (cn - i).toNat = k9), jJ X 5 [some (.ref (c)), some (jI (low)), some (jI (high)), some (jI (r)), some (jI (i))] [] n M 0 0 := by
    intro k9
    induction k9 using Nat.strongRecOn with
    | _ k9 ih5 =>
      intro r i hi1 hi2 hr hk9
      have hcvi := hcv i.toNat
      have hcri := hcr i.toNat
      have hrb := cmS_bd (cv := cv) (low := low) (high := high) hcr ⟨hi1, Int.le_trans hi2 hcn.2⟩
      refine jk_iload (q := 7) h dX2_rowsOfCommon_5 rfl rfl ?_
      refine jk_aload_n (q := 8) h dX2_rowsOfCommon_7 rfl rfl ?_
      refine jk_get (q := 11) h fg_X2_55 dX2_rowsOfCommon_8 (hC.at 0 rfl) rfl rfl ?_
      refine jk_icmp_ge (q := 14) (tgt := 49) h dX2_rowsOfCommon_11 (by decide) rfl ⟨by omega, by omega⟩ ⟨by omega, by omega⟩ (fun c11 => ?_) (fun c11 => ?_)
      · have hi3 : i = cn := by omega
        subst hi3
        refine jk_iload_n (q := 50) h dX2_rowsOfCommon_49 rfl rfl ?_
        exact jk_iret h hR dX2_rowsOfCommon_50 (Nat.le_of_ble_eq_true rfl) (Nat.le_of_ble_eq_true rfl) (jrd_of hr.symm)
      · refine jk_iload_n (q := 15) h dX2_rowsOfCommon_14 rfl rfl ?_
        refine jk_aload_n (q := 16) h dX2_rowsOfCommon_15 rfl rfl ?_
        refine jk_get (q := 19) h fg_X2_15 dX2_rowsOfCommon_16 (hC.at 0 rfl) rfl rfl ?_
        refine jk_iload (q := 21) h dX2_rowsOfCommon_19 rfl rfl ?_
        refine jk_ialdI (q := 22) h dX2_rowsOfCommon_21 (hC.at 2 rfl) (by omega) (by omega) rfl rfl ?_
        refine jk_iload_n (q := 23) h dX2_rowsOfCommon_22 rfl rfl ?_
        refine jk_iload_n (q := 24) h dX2_rowsOfCommon_23 rfl rfl ?_
        refine jk_callSN (q := 27) h hX (c_X9_isBetween ⟨by omega, by omega⟩ ⟨by omega, by omega⟩ ⟨by omega, by omega⟩) ms_X9_isBetween dX2_rowsOfCommon_24 ml_X2_84 ⟨rfl, Nat.le_refl _⟩ rfl rfl (Nat.le_of_ble_eq_true rfl) (Nat.le_of_ble_eq_true rfl) rfl rfl (Nat.le_of_ble_eq_true rfl) rfl (fun v9 n9 M9 hp9 => ?_)
        obtain ⟨rfl, rfl, rfl⟩ := hp9
        refine jk_if_eqB (q := 30) (tgt := 40) h dX2_rowsOfCommon_27 (by decide) rfl (fun c27 => ?_) (fun c27 => ?_)
        · refine jk_iconst (q := 41) h dX2_rowsOfCommon_40 rfl ?_
          refine jk_iadd (q := 42) h dX2_rowsOfCommon_41 rfl ?_
          refine jk_istore_n (q := 43) h dX2_rowsOfCommon_42 rfl (Nat.le_of_ble_eq_true rfl) rfl rfl ?_
          refine jk_iinc (q := 46) h dX2_rowsOfCommon_43 rfl rfl rfl rfl ?_
          refine jk_goto (q := 49) (tgt := 5) h dX2_rowsOfCommon_46 (by decide) ?_
          exact jk_weak (jwk_s rfl (jwk_s rfl (jwk_s rfl (jwk_s rfl (jwk_s rfl jwk_0))))) (ih5 _ (by omega) _ _ (by omega) (by omega) (by first | exact smI_t hi1 hr (if_pos (by omega)) | exact smI_t hi1 hr (if_neg (by omega))) rfl)
        · refine jk_aload_n (q := 31) h dX2_rowsOfCommon_30 rfl rfl ?_
          refine jk_get (q := 34) h fg_X2_18 dX2_rowsOfCommon_31 (hC.at 0 rfl) rfl rfl ?_
          refine jk_iload (q := 36) h dX2_rowsOfCommon_34 rfl rfl ?_
          refine jk_ialdI (q := 37) h dX2_rowsOfCommon_36 (hC.at 3 rfl) (by omega) (by omega) rfl rfl ?_
          refine jk_goto (q := 40) (tgt := 41) h dX2_rowsOfCommon_37 (by decide) ?_
          refine jk_iadd (q := 42) h dX2_rowsOfCommon_41 rfl ?_
          refine jk_istore_n (q := 43) h dX2_rowsOfCommon_42 rfl (Nat.le_of_ble_eq_true rfl) rfl rfl ?_
          refine jk_iinc (q := 46) h dX2_rowsOfCommon_43 rfl rfl rfl rfl ?_
          refine jk_goto (q := 49) (tgt := 5) h dX2_rowsOfCommon_46 (by decide) ?_
          exact jk_weak (jwk_s rfl (jwk_s rfl (jwk_s rfl (jwk_s rfl (jwk_s rfl jwk_0))))) (ih5 _ (by omega) _ _ (by omega) (by omega) (by first | exact smI_t hi1 hr (if_pos (by omega)) | exact smI_t hi1 hr (if_neg (by omega))) rfl)
  exact jk_weak (jwk_s rfl (jwk_s rfl (jwk_s rfl (jwk_s rfl (jwk_s rfl jwk_0))))) (lp5 _ _ _ (by omega) (by omega) rfl rfl)

set_option maxHeartbeats 4000000 in
set_option maxRecDepth 100000 in
theorem c_X2_guess {l : Launch} {D : va_G} {b0 : Nat} {n : Nat} {M : jM} {c : Nat} {had cv cr : Nat → Int} {cn : Int} {lo hi br un : Nat → Int} {bn : Int} (hC : jPic M c (cfL c had cv cr cn lo hi br un bn)) (hO : cfO had cv cr cn lo hi br un bn) {low high : Int} (h1 : 0 ≤ low ∧ low ≤ 99) (h2 : 0 ≤ high ∧ high ≤ 99) : jCtr l D b0 yX2_guess cX2_guess 7 (some .int) 2 0 0 [.ref c, jI low, jI high] n M (jrd n M (gsS cv cr cn lo hi br bn low high)) := by
  refine jctr (lv := [some (.ref c), some (jI low), some (jI high), none, none, none, none]) RX2 "guess" rfl rfl (by decide) (Nat.le_of_ble_eq_true rfl) rfl ?_
  intro X h hR hX
  obtain ⟨hhad, hcv, hcr, hcn, hlo, hhi, hbr, hun, hbn, hlh⟩ := id hO
  refine jk_aload_n (q := 1) h dX2_guess_0 rfl rfl ?_
  refine jk_iload_n (q := 2) h dX2_guess_1 rfl rfl ?_
  refine jk_iload_n (q := 3) h dX2_guess_2 rfl rfl ?_
  refine jk_callV (q := 6) h hX (c_X2_rowsOfCommon hC hO ⟨by omega, by omega⟩ ⟨by omega, by omega⟩) mv_X2_rowsOfCommon (hC.at 0 rfl) dX2_guess_3 ml_X2_88 ⟨rfl, Nat.le_refl _⟩ rfl rfl (Nat.le_of_ble_eq_true rfl) (Nat.le_of_ble_eq_true rfl) rfl rfl (Nat.le_of_ble_eq_true rfl) rfl (fun v9 n9 M9 hp9 => ?_)
  obtain ⟨rfl, rfl, rfl⟩ := hp9
  refine jk_istore_n (q := 7) h dX2_guess_6 rfl (Nat.le_of_ble_eq_true rfl) rfl rfl ?_
  refine jk_iconst (q := 8) h dX2_guess_7 rfl ?_
  refine jk_istore (q := 10) h dX2_guess_8 rfl (Nat.le_of_ble_eq_true rfl) rfl rfl ?_
  have lp10 : ∀ (k9 : Nat) (r : Int) (i : Int) (hi1 : 0 ≤ i) (hi2 : i ≤ bn) (hr : r = cmS cv cr cn low high + smI (gbS lo hi br low high) i) (hk9 : (bn - i).toNat = k9), jJ X 10 [some (.ref (c)), some (jI (low)), some (jI (high)), some (jI (r)), some (jI (i)), none, none] [] n M 0 0 := by
    intro k9
    induction k9 using Nat.strongRecOn with
    | _ k9 ih10 =>
      intro r i hi1 hi2 hr hk9
      have hloi := hlo i.toNat
      have hhii := hhi i.toNat
      have hbri := hbr i.toNat
      refine jk_iload (q := 12) h dX2_guess_10 rfl rfl ?_
      refine jk_aload_n (q := 13) h dX2_guess_12 rfl rfl ?_
      refine jk_get (q := 16) h fg_X2_68 dX2_guess_13 (hC.at 0 rfl) rfl rfl ?_
      refine jk_icmp_ge (q := 19) (tgt := 97) h dX2_guess_16 (by decide) rfl ⟨by omega, by omega⟩ ⟨by omega, by omega⟩ (fun c16 => ?_) (fun c16 => ?_)
      · have hi3 : i = bn := by omega
        subst hi3
        refine jk_iload_n (q := 98) h dX2_guess_97 rfl rfl ?_
        exact jk_iret h hR dX2_guess_98 (Nat.le_of_ble_eq_true rfl) (Nat.le_of_ble_eq_true rfl) (jrd_of hr.symm)
      · have hlhi := hlh i.toNat (by omega)
        refine jk_aload_n (q := 20) h dX2_guess_19 rfl rfl ?_
        refine jk_get (q := 23) h fg_X2_24 dX2_guess_20 (hC.at 0 rfl) rfl rfl ?_
        refine jk_iload (q := 25) h dX2_guess_23 rfl rfl ?_
        refine jk_ialdI (q := 26) h dX2_guess_25 (hC.at 5 rfl) (by omega) (by omega) rfl rfl ?_
        refine jk_aload_n (q := 27) h dX2_guess_26 rfl rfl ?_
        refine jk_get (q := 30) h fg_X2_21 dX2_guess_27 (hC.at 0 rfl) rfl rfl ?_
        refine jk_iload (q := 32) h dX2_guess_30 rfl rfl ?_
        refine jk_ialdI (q := 33) h dX2_guess_32 (hC.at 4 rfl) (by omega) (by omega) rfl rfl ?_
        refine jk_isub (q := 34) h dX2_guess_33 rfl ?_
        refine jk_iconst (q := 35) h dX2_guess_34 rfl ?_
        refine jk_iadd (q := 36) h dX2_guess_35 rfl ?_
        refine jk_name (fun wid hwid => ?_)
        refine jk_istore (q := 38) h dX2_guess_36 rfl (Nat.le_of_ble_eq_true rfl) rfl rfl ?_
        refine jk_aload_n (q := 39) h dX2_guess_38 rfl rfl ?_
        refine jk_get (q := 42) h fg_X2_24 dX2_guess_39 (hC.at 0 rfl) rfl rfl ?_
        refine jk_iload (q := 44) h dX2_guess_42 rfl rfl ?_
        refine jk_ialdI (q := 45) h dX2_guess_44 (hC.at 5 rfl) (by omega) (by omega) rfl rfl ?_
        refine jk_iload_n (q := 46) h dX2_guess_45 rfl rfl ?_
        refine jk_mmin (q := 49) h dX2_guess_46 ml_X2_63 km_min_s km_i km_min_c (Nat.le_of_ble_eq_true rfl) (Nat.le_of_ble_eq_true rfl) (Nat.le_of_ble_eq_true rfl) (Nat.le_of_ble_eq_true rfl) ⟨by omega, by omega⟩ ⟨by omega, by omega⟩ rfl ?_
        refine jk_aload_n (q := 50) h dX2_guess_49 rfl rfl ?_
        refine jk_get (q := 53) h fg_X2_21 dX2_guess_50 (hC.at 0 rfl) rfl rfl ?_
        refine jk_iload (q := 55) h dX2_guess_53 rfl rfl ?_
        refine jk_ialdI (q := 56) h dX2_guess_55 (hC.at 4 rfl) (by omega) (by omega) rfl rfl ?_
        refine jk_iload_n (q := 57) h dX2_guess_56 rfl rfl ?_
        refine jk_mmax (q := 60) h dX2_guess_57 ml_X2_91 km_max_s km_i km_max_c (Nat.le_of_ble_eq_true rfl) (Nat.le_of_ble_eq_true rfl) (Nat.le_of_ble_eq_true rfl) (Nat.le_of_ble_eq_true rfl) ⟨by omega, by omega⟩ ⟨by omega, by omega⟩ rfl ?_
        refine jk_isub (q := 61) h dX2_guess_60 rfl ?_
        refine jk_iconst (q := 62) h dX2_guess_61 rfl ?_
        refine jk_iadd (q := 63) h dX2_guess_62 rfl ?_
        refine jk_name (fun ins hins => ?_)
        have hinb : ins ≤ 100 := by { rw [hins]; split <;> split <;> omega }
        have hinb2 : -200 ≤ ins := by { rw [hins]; split <;> split <;> omega }
        refine jk_istore (q := 65) h dX2_guess_63 rfl (Nat.le_of_ble_eq_true rfl) rfl rfl ?_
        refine jk_iload (q := 67) h dX2_guess_65 rfl rfl ?_
        refine jk_if_le (q := 70) (tgt := 91) h dX2_guess_67 (by decide) rfl ⟨by omega, by omega⟩ (fun c67 => ?_) (fun c67 => ?_)
        · refine jk_iinc (q := 94) h dX2_guess_91 rfl rfl rfl rfl ?_
          refine jk_goto (q := 97) (tgt := 10) h dX2_guess_94 (by decide) ?_
          exact jk_weak (jwk_s rfl (jwk_s rfl (jwk_s rfl (jwk_s rfl (jwk_s rfl (jwk_n (jwk_n jwk_0))))))) (ih10 _ (by omega) _ _ (by omega) (by omega) (by first | exact smI_b hi1 hr (by rw [hins, hwid]; exact if_pos (by rw [hins] at c72; exact Int.not_le.mp c72)) | exact smI_b0 hi1 hr (if_neg (by rw [hins] at c72; exact Int.not_lt.mpr c72)) | (exfalso; omega)) rfl)
        · refine jk_iload (q := 72) h dX2_guess_70 rfl rfl ?_
          refine jk_if_le (q := 75) (tgt := 91) h dX2_guess_72 (by decide) rfl ⟨by omega, by omega⟩ (fun c72 => ?_) (fun c72 => ?_)
          · refine jk_iinc (q := 94) h dX2_guess_91 rfl rfl rfl rfl ?_
            refine jk_goto (q := 97) (tgt := 10) h dX2_guess_94 (by decide) ?_
            exact jk_weak (jwk_s rfl (jwk_s rfl (jwk_s rfl (jwk_s rfl (jwk_s rfl (jwk_n (jwk_n jwk_0))))))) (ih10 _ (by omega) _ _ (by omega) (by omega) (by first | exact smI_b hi1 hr (by rw [hins, hwid]; exact if_pos (by rw [hins] at c72; exact Int.not_le.mp c72)) | exact smI_b0 hi1 hr (if_neg (by rw [hins] at c72; exact Int.not_lt.mpr c72)) | (exfalso; omega)) rfl)
          · refine jk_iload_n (q := 76) h dX2_guess_75 rfl rfl ?_
            refine jk_aload_n (q := 77) h dX2_guess_76 rfl rfl ?_
            refine jk_get (q := 80) h fg_X2_27 dX2_guess_77 (hC.at 0 rfl) rfl rfl ?_
            refine jk_iload (q := 82) h dX2_guess_80 rfl rfl ?_
            refine jk_ialdI (q := 83) h dX2_guess_82 (hC.at 6 rfl) (by omega) (by omega) rfl rfl ?_
            refine jk_iload (q := 85) h dX2_guess_83 rfl rfl ?_
            refine jk_imul (q := 86) h dX2_guess_85 rfl ?_
            refine jk_iload (q := 88) h dX2_guess_86 rfl rfl ?_
            refine jk_idiv (q := 89) h dX2_guess_88 (jmulb (A := 60) (B := 100) hbri.1 hbri.2 (by omega) hinb).1 (by have := (jmulb (A := 60) (B := 100) hbri.1 hbri.2 (y := ins) (by omega) hinb).2; omega) (by omega) (by omega) rfl ?_
            refine jk_iadd (q := 90) h dX2_guess_89 rfl ?_
            refine jk_istore_n (q := 91) h dX2_guess_90 rfl (Nat.le_of_ble_eq_true rfl) rfl rfl ?_
            refine jk_iinc (q := 94) h dX2_guess_91 rfl rfl rfl rfl ?_
            refine jk_goto (q := 97) (tgt := 10) h dX2_guess_94 (by decide) ?_
            exact jk_weak (jwk_s rfl (jwk_s rfl (jwk_s rfl (jwk_s rfl (jwk_s rfl (jwk_n (jwk_n jwk_0))))))) (ih10 _ (by omega) _ _ (by omega) (by omega) (by first | exact smI_b hi1 hr (by rw [hins, hwid]; exact if_pos (by rw [hins] at c72; exact Int.not_le.mp c72)) | exact smI_b0 hi1 hr (if_neg (by rw [hins] at c72; exact Int.not_lt.mpr c72)) | (exfalso; omega)) rfl)
  exact jk_weak (jwk_s rfl (jwk_s rfl (jwk_s rfl (jwk_s rfl (jwk_s rfl (jwk_n (jwk_n jwk_0))))))) (lp10 _ _ _ (by omega) (by omega) (by rw [smI_0]; exact (Int.add_zero _).symm) rfl)

set_option maxHeartbeats 4000000 in
set_option maxRecDepth 100000 in
theorem c_X2_least {l : Launch} {D : va_G} {b0 : Nat} {n : Nat} {M : jM} {c : Nat} {had cv cr : Nat → Int} {cn : Int} {lo hi br un : Nat → Int} {bn : Int} (hC : jPic M c (cfL c had cv cr cn lo hi br un bn)) (hO : cfO had cv cr cn lo hi br un bn) {low high : Int} (h1 : 0 ≤ low ∧ low ≤ 99) (h2 : 0 ≤ high ∧ high ≤ 99) : jCtr l D b0 yX2_least cX2_least 5 (some .int) 2 0 0 [.ref c, jI low, jI high] n M (jrd n M (lsS cv cr cn lo hi br bn low high)) := by
  refine jctr (lv := [some (.ref c), some (jI low), some (jI high), none, none]) RX2 "least" rfl rfl (by decide) (Nat.le_of_ble_eq_true rfl) rfl ?_
  intro X h hR hX
  obtain ⟨hhad, hcv, hcr, hcn, hlo, hhi, hbr, hun, hbn, hlh⟩ := id hO
  refine jk_aload_n (q := 1) h dX2_least_0 rfl rfl ?_
  refine jk_iload_n (q := 2) h dX2_least_1 rfl rfl ?_
  refine jk_iload_n (q := 3) h dX2_least_2 rfl rfl ?_
  refine jk_callV (q := 6) h hX (c_X2_rowsOfCommon hC hO ⟨by omega, by omega⟩ ⟨by omega, by omega⟩) mv_X2_rowsOfCommon (hC.at 0 rfl) dX2_least_3 ml_X2_88 ⟨rfl, Nat.le_refl _⟩ rfl rfl (Nat.le_of_ble_eq_true rfl) (Nat.le_of_ble_eq_true rfl) rfl rfl (Nat.le_of_ble_eq_true rfl) rfl (fun v9 n9 M9 hp9 => ?_)
  obtain ⟨rfl, rfl, rfl⟩ := hp9
  refine jk_istore_n (q := 7) h dX2_least_6 rfl (Nat.le_of_ble_eq_true rfl) rfl rfl ?_
  refine jk_iconst (q := 8) h dX2_least_7 rfl ?_
  refine jk_istore (q := 10) h dX2_least_8 rfl (Nat.le_of_ble_eq_true rfl) rfl rfl ?_
  have lp10 : ∀ (k9 : Nat) (r : Int) (i : Int) (hi1 : 0 ≤ i) (hi2 : i ≤ bn) (hr : r = cmS cv cr cn low high + smI (fun k => if low ≤ lo k ∧ hi k ≤ high then br k else 0) i) (hk9 : (bn - i).toNat = k9), jJ X 10 [some (.ref (c)), some (jI (low)), some (jI (high)), some (jI (r)), some (jI (i))] [] n M 0 0 := by
    intro k9
    induction k9 using Nat.strongRecOn with
    | _ k9 ih10 =>
      intro r i hi1 hi2 hr hk9
      have hloi := hlo i.toNat
      have hhii := hhi i.toNat
      have hbri := hbr i.toNat
      refine jk_iload (q := 12) h dX2_least_10 rfl rfl ?_
      refine jk_aload_n (q := 13) h dX2_least_12 rfl rfl ?_
      refine jk_get (q := 16) h fg_X2_68 dX2_least_13 (hC.at 0 rfl) rfl rfl ?_
      refine jk_icmp_ge (q := 19) (tgt := 61) h dX2_least_16 (by decide) rfl ⟨by omega, by omega⟩ ⟨by omega, by omega⟩ (fun c16 => ?_) (fun c16 => ?_)
      · have hi3 : i = bn := by omega
        subst hi3
        refine jk_iload_n (q := 62) h dX2_least_61 rfl rfl ?_
        exact jk_iret h hR dX2_least_62 (Nat.le_of_ble_eq_true rfl) (Nat.le_of_ble_eq_true rfl) (jrd_of hr.symm)
      · refine jk_iload_n (q := 20) h dX2_least_19 rfl rfl ?_
        refine jk_iload_n (q := 21) h dX2_least_20 rfl rfl ?_
        refine jk_aload_n (q := 22) h dX2_least_21 rfl rfl ?_
        refine jk_get (q := 25) h fg_X2_21 dX2_least_22 (hC.at 0 rfl) rfl rfl ?_
        refine jk_iload (q := 27) h dX2_least_25 rfl rfl ?_
        refine jk_ialdI (q := 28) h dX2_least_27 (hC.at 4 rfl) (by omega) (by omega) rfl rfl ?_
        refine jk_icmp_gt (q := 31) (tgt := 52) h dX2_least_28 (by decide) rfl ⟨by omega, by omega⟩ ⟨by omega, by omega⟩ (fun c28 => ?_) (fun c28 => ?_)
        · refine jk_iconst (q := 53) h dX2_least_52 rfl ?_
          refine jk_iadd (q := 54) h dX2_least_53 rfl ?_
          refine jk_istore_n (q := 55) h dX2_least_54 rfl (Nat.le_of_ble_eq_true rfl) rfl rfl ?_
          refine jk_iinc (q := 58) h dX2_least_55 rfl rfl rfl rfl ?_
          refine jk_goto (q := 61) (tgt := 10) h dX2_least_58 (by decide) ?_
          exact jk_weak (jwk_s rfl (jwk_s rfl (jwk_s rfl (jwk_s rfl (jwk_s rfl jwk_0))))) (ih10 _ (by omega) _ _ (by omega) (by omega) (by first | exact smI_b hi1 hr (if_pos (by omega)) | exact smI_b hi1 hr (if_neg (by omega))) rfl)
        · refine jk_aload_n (q := 32) h dX2_least_31 rfl rfl ?_
          refine jk_get (q := 35) h fg_X2_24 dX2_least_32 (hC.at 0 rfl) rfl rfl ?_
          refine jk_iload (q := 37) h dX2_least_35 rfl rfl ?_
          refine jk_ialdI (q := 38) h dX2_least_37 (hC.at 5 rfl) (by omega) (by omega) rfl rfl ?_
          refine jk_iload_n (q := 39) h dX2_least_38 rfl rfl ?_
          refine jk_icmp_gt (q := 42) (tgt := 52) h dX2_least_39 (by decide) rfl ⟨by omega, by omega⟩ ⟨by omega, by omega⟩ (fun c39 => ?_) (fun c39 => ?_)
          · refine jk_iconst (q := 53) h dX2_least_52 rfl ?_
            refine jk_iadd (q := 54) h dX2_least_53 rfl ?_
            refine jk_istore_n (q := 55) h dX2_least_54 rfl (Nat.le_of_ble_eq_true rfl) rfl rfl ?_
            refine jk_iinc (q := 58) h dX2_least_55 rfl rfl rfl rfl ?_
            refine jk_goto (q := 61) (tgt := 10) h dX2_least_58 (by decide) ?_
            exact jk_weak (jwk_s rfl (jwk_s rfl (jwk_s rfl (jwk_s rfl (jwk_s rfl jwk_0))))) (ih10 _ (by omega) _ _ (by omega) (by omega) (by first | exact smI_b hi1 hr (if_pos (by omega)) | exact smI_b hi1 hr (if_neg (by omega))) rfl)
          · refine jk_aload_n (q := 43) h dX2_least_42 rfl rfl ?_
            refine jk_get (q := 46) h fg_X2_27 dX2_least_43 (hC.at 0 rfl) rfl rfl ?_
            refine jk_iload (q := 48) h dX2_least_46 rfl rfl ?_
            refine jk_ialdI (q := 49) h dX2_least_48 (hC.at 6 rfl) (by omega) (by omega) rfl rfl ?_
            refine jk_goto (q := 52) (tgt := 53) h dX2_least_49 (by decide) ?_
            refine jk_iadd (q := 54) h dX2_least_53 rfl ?_
            refine jk_istore_n (q := 55) h dX2_least_54 rfl (Nat.le_of_ble_eq_true rfl) rfl rfl ?_
            refine jk_iinc (q := 58) h dX2_least_55 rfl rfl rfl rfl ?_
            refine jk_goto (q := 61) (tgt := 10) h dX2_least_58 (by decide) ?_
            exact jk_weak (jwk_s rfl (jwk_s rfl (jwk_s rfl (jwk_s rfl (jwk_s rfl jwk_0))))) (ih10 _ (by omega) _ _ (by omega) (by omega) (by first | exact smI_b hi1 hr (if_pos (by omega)) | exact smI_b hi1 hr (if_neg (by omega))) rfl)
  exact jk_weak (jwk_s rfl (jwk_s rfl (jwk_s rfl (jwk_s rfl (jwk_s rfl jwk_0))))) (lp10 _ _ _ (by omega) (by omega) (by rw [smI_0]; exact (Int.add_zero _).symm) rfl)

set_option maxHeartbeats 4000000 in
set_option maxRecDepth 100000 in
theorem c_X2_most {l : Launch} {D : va_G} {b0 : Nat} {n : Nat} {M : jM} {c : Nat} {had cv cr : Nat → Int} {cn : Int} {lo hi br un : Nat → Int} {bn : Int} (hC : jPic M c (cfL c had cv cr cn lo hi br un bn)) (hO : cfO had cv cr cn lo hi br un bn) {low high : Int} (h1 : 0 ≤ low ∧ low ≤ 99) (h2 : 0 ≤ high ∧ high ≤ 99) : jCtr l D b0 yX2_most cX2_most 5 (some .int) 2 0 0 [.ref c, jI low, jI high] n M (jrd n M (msS cv cr cn lo hi br bn low high)) := by
  refine jctr (lv := [some (.ref c), some (jI low), some (jI high), none, none]) RX2 "most" rfl rfl (by decide) (Nat.le_of_ble_eq_true rfl) rfl ?_
  intro X h hR hX
  obtain ⟨hhad, hcv, hcr, hcn, hlo, hhi, hbr, hun, hbn, hlh⟩ := id hO
  refine jk_aload_n (q := 1) h dX2_most_0 rfl rfl ?_
  refine jk_iload_n (q := 2) h dX2_most_1 rfl rfl ?_
  refine jk_iload_n (q := 3) h dX2_most_2 rfl rfl ?_
  refine jk_callV (q := 6) h hX (c_X2_rowsOfCommon hC hO ⟨by omega, by omega⟩ ⟨by omega, by omega⟩) mv_X2_rowsOfCommon (hC.at 0 rfl) dX2_most_3 ml_X2_88 ⟨rfl, Nat.le_refl _⟩ rfl rfl (Nat.le_of_ble_eq_true rfl) (Nat.le_of_ble_eq_true rfl) rfl rfl (Nat.le_of_ble_eq_true rfl) rfl (fun v9 n9 M9 hp9 => ?_)
  obtain ⟨rfl, rfl, rfl⟩ := hp9
  refine jk_istore_n (q := 7) h dX2_most_6 rfl (Nat.le_of_ble_eq_true rfl) rfl rfl ?_
  refine jk_iconst (q := 8) h dX2_most_7 rfl ?_
  refine jk_istore (q := 10) h dX2_most_8 rfl (Nat.le_of_ble_eq_true rfl) rfl rfl ?_
  have lp10 : ∀ (k9 : Nat) (r : Int) (i : Int) (hi1 : 0 ≤ i) (hi2 : i ≤ bn) (hr : r = cmS cv cr cn low high + smI (fun k => if low ≤ hi k ∧ lo k ≤ high then br k else 0) i) (hk9 : (bn - i).toNat = k9), jJ X 10 [some (.ref (c)), some (jI (low)), some (jI (high)), some (jI (r)), some (jI (i))] [] n M 0 0 := by
    intro k9
    induction k9 using Nat.strongRecOn with
    | _ k9 ih10 =>
      intro r i hi1 hi2 hr hk9
      have hloi := hlo i.toNat
      have hhii := hhi i.toNat
      have hbri := hbr i.toNat
      refine jk_iload (q := 12) h dX2_most_10 rfl rfl ?_
      refine jk_aload_n (q := 13) h dX2_most_12 rfl rfl ?_
      refine jk_get (q := 16) h fg_X2_68 dX2_most_13 (hC.at 0 rfl) rfl rfl ?_
      refine jk_icmp_ge (q := 19) (tgt := 61) h dX2_most_16 (by decide) rfl ⟨by omega, by omega⟩ ⟨by omega, by omega⟩ (fun c16 => ?_) (fun c16 => ?_)
      · have hi3 : i = bn := by omega
        subst hi3
        refine jk_iload_n (q := 62) h dX2_most_61 rfl rfl ?_
        exact jk_iret h hR dX2_most_62 (Nat.le_of_ble_eq_true rfl) (Nat.le_of_ble_eq_true rfl) (jrd_of hr.symm)
      · refine jk_iload_n (q := 20) h dX2_most_19 rfl rfl ?_
        refine jk_iload_n (q := 21) h dX2_most_20 rfl rfl ?_
        refine jk_aload_n (q := 22) h dX2_most_21 rfl rfl ?_
        refine jk_get (q := 25) h fg_X2_24 dX2_most_22 (hC.at 0 rfl) rfl rfl ?_
        refine jk_iload (q := 27) h dX2_most_25 rfl rfl ?_
        refine jk_ialdI (q := 28) h dX2_most_27 (hC.at 5 rfl) (by omega) (by omega) rfl rfl ?_
        refine jk_icmp_gt (q := 31) (tgt := 52) h dX2_most_28 (by decide) rfl ⟨by omega, by omega⟩ ⟨by omega, by omega⟩ (fun c28 => ?_) (fun c28 => ?_)
        · refine jk_iconst (q := 53) h dX2_most_52 rfl ?_
          refine jk_iadd (q := 54) h dX2_most_53 rfl ?_
          refine jk_istore_n (q := 55) h dX2_most_54 rfl (Nat.le_of_ble_eq_true rfl) rfl rfl ?_
          refine jk_iinc (q := 58) h dX2_most_55 rfl rfl rfl rfl ?_
          refine jk_goto (q := 61) (tgt := 10) h dX2_most_58 (by decide) ?_
          exact jk_weak (jwk_s rfl (jwk_s rfl (jwk_s rfl (jwk_s rfl (jwk_s rfl jwk_0))))) (ih10 _ (by omega) _ _ (by omega) (by omega) (by first | exact smI_b hi1 hr (if_pos (by omega)) | exact smI_b hi1 hr (if_neg (by omega))) rfl)
        · refine jk_aload_n (q := 32) h dX2_most_31 rfl rfl ?_
          refine jk_get (q := 35) h fg_X2_21 dX2_most_32 (hC.at 0 rfl) rfl rfl ?_
          refine jk_iload (q := 37) h dX2_most_35 rfl rfl ?_
          refine jk_ialdI (q := 38) h dX2_most_37 (hC.at 4 rfl) (by omega) (by omega) rfl rfl ?_
          refine jk_iload_n (q := 39) h dX2_most_38 rfl rfl ?_
          refine jk_icmp_gt (q := 42) (tgt := 52) h dX2_most_39 (by decide) rfl ⟨by omega, by omega⟩ ⟨by omega, by omega⟩ (fun c39 => ?_) (fun c39 => ?_)
          · refine jk_iconst (q := 53) h dX2_most_52 rfl ?_
            refine jk_iadd (q := 54) h dX2_most_53 rfl ?_
            refine jk_istore_n (q := 55) h dX2_most_54 rfl (Nat.le_of_ble_eq_true rfl) rfl rfl ?_
            refine jk_iinc (q := 58) h dX2_most_55 rfl rfl rfl rfl ?_
            refine jk_goto (q := 61) (tgt := 10) h dX2_most_58 (by decide) ?_
            exact jk_weak (jwk_s rfl (jwk_s rfl (jwk_s rfl (jwk_s rfl (jwk_s rfl jwk_0))))) (ih10 _ (by omega) _ _ (by omega) (by omega) (by first | exact smI_b hi1 hr (if_pos (by omega)) | exact smI_b hi1 hr (if_neg (by omega))) rfl)
          · refine jk_aload_n (q := 43) h dX2_most_42 rfl rfl ?_
            refine jk_get (q := 46) h fg_X2_27 dX2_most_43 (hC.at 0 rfl) rfl rfl ?_
            refine jk_iload (q := 48) h dX2_most_46 rfl rfl ?_
            refine jk_ialdI (q := 49) h dX2_most_48 (hC.at 6 rfl) (by omega) (by omega) rfl rfl ?_
            refine jk_goto (q := 52) (tgt := 53) h dX2_most_49 (by decide) ?_
            refine jk_iadd (q := 54) h dX2_most_53 rfl ?_
            refine jk_istore_n (q := 55) h dX2_most_54 rfl (Nat.le_of_ble_eq_true rfl) rfl rfl ?_
            refine jk_iinc (q := 58) h dX2_most_55 rfl rfl rfl rfl ?_
            refine jk_goto (q := 61) (tgt := 10) h dX2_most_58 (by decide) ?_
            exact jk_weak (jwk_s rfl (jwk_s rfl (jwk_s rfl (jwk_s rfl (jwk_s rfl jwk_0))))) (ih10 _ (by omega) _ _ (by omega) (by omega) (by first | exact smI_b hi1 hr (if_pos (by omega)) | exact smI_b hi1 hr (if_neg (by omega))) rfl)
  exact jk_weak (jwk_s rfl (jwk_s rfl (jwk_s rfl (jwk_s rfl (jwk_s rfl jwk_0))))) (lp10 _ _ _ (by omega) (by omega) (by rw [smI_0]; exact (Int.add_zero _).symm) rfl)

set_option maxHeartbeats 4000000 in
set_option maxRecDepth 100000 in
theorem c_X2_miss {l : Launch} {D : va_G} {b0 : Nat} {n : Nat} {M : jM} {c : Nat} {had cv cr : Nat → Int} {cn : Int} {lo hi br un : Nat → Int} {bn : Int} (hC : jPic M c (cfL c had cv cr cn lo hi br un bn)) (hO : cfO had cv cr cn lo hi br un bn) {v : Int} (hv : 0 ≤ v ∧ v ≤ 99) : jCtr l D b0 yX2_miss cX2_miss 2 (some .int) 3 0 0 [.ref c, jI v] n M (jrd n M (miS had cv cr cn lo hi br bn v)) := by
  refine jctr (lv := [some (.ref c), some (jI v)]) RX2 "miss" rfl rfl (by decide) (Nat.le_of_ble_eq_true rfl) rfl ?_
  intro X h hR hX
  obtain ⟨hhad, hcv, hcr, hcn, hlo, hhi, hbr, hun, hbn, hlh⟩ := id hO
  have hg := gsS_bd (low := v) (high := v) hO
  have hh := hhad v.toNat
  refine jk_iload_n (q := 1) h dX2_miss_0 rfl rfl ?_
  refine jk_callSN (q := 4) h hX (c_X9_isValue ⟨by omega, by omega⟩) ms_X9_isValue dX2_miss_1 ml_X2_94 ⟨rfl, Nat.le_refl _⟩ rfl rfl (Nat.le_of_ble_eq_true rfl) (Nat.le_of_ble_eq_true rfl) rfl rfl (Nat.le_of_ble_eq_true rfl) rfl (fun v9 n9 M9 hp9 => ?_)
  obtain ⟨rfl, rfl, rfl⟩ := hp9
  refine jk_if_eqB (q := 7) (tgt := 26) h dX2_miss_4 (by decide) rfl (fun c4 => ?_) (fun c4 => ?_)
  · omega
  · refine jk_aload_n (q := 8) h dX2_miss_7 rfl rfl ?_
    refine jk_iload_n (q := 9) h dX2_miss_8 rfl rfl ?_
    refine jk_iload_n (q := 10) h dX2_miss_9 rfl rfl ?_
    refine jk_callV (q := 13) h hX (c_X2_guess hC hO ⟨by omega, by omega⟩ ⟨by omega, by omega⟩) mv_X2_guess (hC.at 0 rfl) dX2_miss_10 ml_X2_97 ⟨rfl, Nat.le_refl _⟩ rfl rfl (Nat.le_of_ble_eq_true rfl) (Nat.le_of_ble_eq_true rfl) rfl rfl (Nat.le_of_ble_eq_true rfl) rfl (fun v9 n9 M9 hp9 => ?_)
    obtain ⟨rfl, rfl, rfl⟩ := hp9
    refine jk_aload_n (q := 14) h dX2_miss_13 rfl rfl ?_
    refine jk_get (q := 17) h fg_X2_9 dX2_miss_14 (hC.at 0 rfl) rfl rfl ?_
    refine jk_iload_n (q := 18) h dX2_miss_17 rfl rfl ?_
    refine jk_ialdI (q := 19) h dX2_miss_18 (hC.at 1 rfl) (by omega) (by omega) rfl rfl ?_
    refine jk_isub (q := 20) h dX2_miss_19 rfl ?_
    refine jk_mabs (q := 23) h dX2_miss_20 ml_X2_100 km_abs_s km_i km_abs_c (Nat.le_of_ble_eq_true rfl) (Nat.le_of_ble_eq_true rfl) (Nat.le_of_ble_eq_true rfl) (Nat.le_of_ble_eq_true rfl) ⟨by omega, by omega⟩ rfl ?_
    refine jk_goto (q := 26) (tgt := 27) h dX2_miss_23 (by decide) ?_
    exact jk_iret h hR dX2_miss_27 (Nat.le_of_ble_eq_true rfl) (Nat.le_of_ble_eq_true rfl) (jrd_of rfl)

set_option maxHeartbeats 4000000 in
set_option maxRecDepth 100000 in
theorem c_X2_worstValue {l : Launch} {D : va_G} {b0 : Nat} {n : Nat} {M : jM} {c : Nat} {had cv cr : Nat → Int} {cn : Int} {lo hi br un : Nat → Int} {bn : Int} (hC : jPic M c (cfL c had cv cr cn lo hi br un bn)) (hO : cfO had cv cr cn lo hi br un bn) : jCtr l D b0 yX2_worstValue cX2_worstValue 5 (some .int) 4 0 0 [.ref c] n M (jrd n M (wvI (miS had cv cr cn lo hi br bn) 100)) := by
  refine jctr (lv := [some (.ref c), none, none, none, none]) RX2 "worstValue" rfl rfl (by decide) (Nat.le_of_ble_eq_true rfl) rfl ?_
  intro X h hR hX
  obtain ⟨hhad, hcv, hcr, hcn, hlo, hhi, hbr, hun, hbn, hlh⟩ := id hO
  refine jk_iconst (q := 1) h dX2_worstValue_0 rfl ?_
  refine jk_istore_n (q := 2) h dX2_worstValue_1 rfl (Nat.le_of_ble_eq_true rfl) rfl rfl ?_
  refine jk_aload_n (q := 3) h dX2_worstValue_2 rfl rfl ?_
  refine jk_iconst (q := 4) h dX2_worstValue_3 rfl ?_
  refine jk_callV (q := 7) h hX (c_X2_miss hC hO ⟨by omega, by omega⟩) mv_X2_miss (hC.at 0 rfl) dX2_worstValue_4 ml_X2_103 ⟨rfl, Nat.le_refl _⟩ rfl rfl (Nat.le_of_ble_eq_true rfl) (Nat.le_of_ble_eq_true rfl) rfl rfl (Nat.le_of_ble_eq_true rfl) rfl (fun v9 n9 M9 hp9 => ?_)
  obtain ⟨rfl, rfl, rfl⟩ := hp9
  refine jk_istore_n (q := 8) h dX2_worstValue_7 rfl (Nat.le_of_ble_eq_true rfl) rfl rfl ?_
  refine jk_iconst (q := 9) h dX2_worstValue_8 rfl ?_
  refine jk_istore_n (q := 10) h dX2_worstValue_9 rfl (Nat.le_of_ble_eq_true rfl) rfl rfl ?_
  have lp10 : ∀ (k9 : Nat) (w : Int) (f : Int) (i : Int) (hi1 : 1 ≤ i) (hi2 : i ≤ 100) (hw : w = wvI (miS had cv cr cn lo hi br bn) i) (hf : f = miS had cv cr cn lo hi br bn w) (hw2 : 0 ≤ w ∧ w < i) (hk9 : (100 - i).toNat = k9), jJ X 10 [some (.ref (c)), some (jI (w)), some (jI (f)), some (jI (i)), none] [] n M 0 0 := by
    intro k9
    induction k9 using Nat.strongRecOn with
    | _ k9 ih10 =>
      intro w f i hi1 hi2 hw hf hw2 hk9
      have hb1 := miS_bd (v := i) hO
      have hb2 := miS_bd (v := w) hO
      refine jk_iload_n (q := 11) h dX2_worstValue_10 rfl rfl ?_
      refine jk_bipush (q := 13) h dX2_worstValue_11 (by decide) rfl ?_
      refine jk_icmp_ge (q := 16) (tgt := 40) h dX2_worstValue_13 (by decide) rfl ⟨by omega, by omega⟩ ⟨by omega, by omega⟩ (fun c13 => ?_) (fun c13 => ?_)
      · have hi3 : i = 100 := by omega
        subst hi3
        refine jk_iload_n (q := 41) h dX2_worstValue_40 rfl rfl ?_
        exact jk_iret h hR dX2_worstValue_41 (Nat.le_of_ble_eq_true rfl) (Nat.le_of_ble_eq_true rfl) (jrd_of hw.symm)
      · refine jk_aload_n (q := 17) h dX2_worstValue_16 rfl rfl ?_
        refine jk_iload_n (q := 18) h dX2_worstValue_17 rfl rfl ?_
        refine jk_callV (q := 21) h hX (c_X2_miss hC hO ⟨by omega, by omega⟩) mv_X2_miss (hC.at 0 rfl) dX2_worstValue_18 ml_X2_103 ⟨rfl, Nat.le_refl _⟩ rfl rfl (Nat.le_of_ble_eq_true rfl) (Nat.le_of_ble_eq_true rfl) rfl rfl (Nat.le_of_ble_eq_true rfl) rfl (fun v9 n9 M9 hp9 => ?_)
        obtain ⟨rfl, rfl, rfl⟩ := hp9
        refine jk_istore (q := 23) h dX2_worstValue_21 rfl (Nat.le_of_ble_eq_true rfl) rfl rfl ?_
        refine jk_iload (q := 25) h dX2_worstValue_23 rfl rfl ?_
        refine jk_iload_n (q := 26) h dX2_worstValue_25 rfl rfl ?_
        refine jk_icmp_le (q := 29) (tgt := 34) h dX2_worstValue_26 (by decide) rfl ⟨by omega, by omega⟩ ⟨by omega, by omega⟩ (fun c26 => ?_) (fun c26 => ?_)
        · refine jk_iinc (q := 37) h dX2_worstValue_34 rfl rfl rfl rfl ?_
          refine jk_goto (q := 40) (tgt := 10) h dX2_worstValue_37 (by decide) ?_
          exact jk_weak (jwk_s rfl (jwk_s rfl (jwk_s rfl (jwk_s rfl (jwk_n jwk_0))))) (ih10 _ (by omega) _ _ _ (by omega) (by omega) (by rw [wvI_s (by omega), ← hw, ← hf]; first | exact (if_pos (by omega)).symm | exact (if_neg (by omega)).symm) (by first | exact hf | rfl) (by omega) rfl)
        · refine jk_iload_n (q := 30) h dX2_worstValue_29 rfl rfl ?_
          refine jk_istore_n (q := 31) h dX2_worstValue_30 rfl (Nat.le_of_ble_eq_true rfl) rfl rfl ?_
          refine jk_iload (q := 33) h dX2_worstValue_31 rfl rfl ?_
          refine jk_istore_n (q := 34) h dX2_worstValue_33 rfl (Nat.le_of_ble_eq_true rfl) rfl rfl ?_
          refine jk_iinc (q := 37) h dX2_worstValue_34 rfl rfl rfl rfl ?_
          refine jk_goto (q := 40) (tgt := 10) h dX2_worstValue_37 (by decide) ?_
          exact jk_weak (jwk_s rfl (jwk_s rfl (jwk_s rfl (jwk_s rfl (jwk_n jwk_0))))) (ih10 _ (by omega) _ _ _ (by omega) (by omega) (by rw [wvI_s (by omega), ← hw, ← hf]; first | exact (if_pos (by omega)).symm | exact (if_neg (by omega)).symm) (by first | exact hf | rfl) (by omega) rfl)
  exact jk_weak (jwk_s rfl (jwk_s rfl (jwk_s rfl (jwk_s rfl (jwk_n jwk_0))))) (lp10 _ _ _ _ (by omega) (by omega) (wvI_1 _).symm rfl (by omega) rfl)

set_option maxHeartbeats 4000000 in
set_option maxRecDepth 100000 in
theorem c_X2_tellCommon {l : Launch} {D : va_G} {b0 : Nat} {n : Nat} {M : jM} {c : Nat} {had cv cr : Nat → Int} {cn : Int} {lo hi br un : Nat → Int} {bn : Int} (hC : jPic M c (cfL c had cv cr cn lo hi br un bn)) (hO : cfO had cv cr cn lo hi br un bn) {k q : Int} (hk : jRng k) (hq : jRng q) : jCtr l D b0 yX2_tellCommon cX2_tellCommon 3 (some .int) 0 0 0 [.ref c, jI k, jI q] n M (jrd n M (if 0 ≤ k ∧ k < cn then (if q = 0 then cv k.toNat else cr k.toNat) else -1)) := by
  refine jctr (lv := [some (.ref c), some (jI k), some (jI q)]) RX2 "tellCommon" rfl rfl (by decide) (Nat.le_of_ble_eq_true rfl) rfl ?_
  intro X h hR hX
  obtain ⟨hhad, hcv, hcr, hcn, hlo, hhi, hbr, hun, hbn, hlh⟩ := id hO
  refine jk_iload_n (q := 1) h dX2_tellCommon_0 rfl rfl ?_
  refine jk_if_lt (q := 4) (tgt := 12) h dX2_tellCommon_1 (by decide) rfl ⟨by omega, by omega⟩ (fun c1 => ?_) (fun c1 => ?_)
  · refine jk_iconst (q := 13) h dX2_tellCommon_12 rfl ?_
    exact jk_iret h hR dX2_tellCommon_13 (Nat.le_of_ble_eq_true rfl) (Nat.le_of_ble_eq_true rfl) (jrd_of (by first | (rw [if_neg (by omega)]; done) | (rw [if_pos (by omega), if_pos (by omega)]; done) | (rw [if_pos (by omega), if_neg (by omega)]; done)))
  · refine jk_iload_n (q := 5) h dX2_tellCommon_4 rfl rfl ?_
    refine jk_aload_n (q := 6) h dX2_tellCommon_5 rfl rfl ?_
    refine jk_get (q := 9) h fg_X2_55 dX2_tellCommon_6 (hC.at 0 rfl) rfl rfl ?_
    refine jk_icmp_lt (q := 12) (tgt := 14) h dX2_tellCommon_9 (by decide) rfl ⟨by omega, by omega⟩ ⟨by omega, by omega⟩ (fun c9 => ?_) (fun c9 => ?_)
    · refine jk_iload_n (q := 15) h dX2_tellCommon_14 rfl rfl ?_
      refine jk_if_ne (q := 18) (tgt := 27) h dX2_tellCommon_15 (by decide) rfl ⟨by omega, by omega⟩ (fun c15 => ?_) (fun c15 => ?_)
      · refine jk_aload_n (q := 28) h dX2_tellCommon_27 rfl rfl ?_
        refine jk_get (q := 31) h fg_X2_18 dX2_tellCommon_28 (hC.at 0 rfl) rfl rfl ?_
        refine jk_iload_n (q := 32) h dX2_tellCommon_31 rfl rfl ?_
        refine jk_ialdI (q := 33) h dX2_tellCommon_32 (hC.at 3 rfl) (by omega) (by omega) rfl rfl ?_
        exact jk_iret h hR dX2_tellCommon_33 (Nat.le_of_ble_eq_true rfl) (Nat.le_of_ble_eq_true rfl) (jrd_of (by first | (rw [if_neg (by omega)]; done) | (rw [if_pos (by omega), if_pos (by omega)]; done) | (rw [if_pos (by omega), if_neg (by omega)]; done)))
      · refine jk_aload_n (q := 19) h dX2_tellCommon_18 rfl rfl ?_
        refine jk_get (q := 22) h fg_X2_15 dX2_tellCommon_19 (hC.at 0 rfl) rfl rfl ?_
        refine jk_iload_n (q := 23) h dX2_tellCommon_22 rfl rfl ?_
        refine jk_ialdI (q := 24) h dX2_tellCommon_23 (hC.at 2 rfl) (by omega) (by omega) rfl rfl ?_
        refine jk_goto (q := 27) (tgt := 33) h dX2_tellCommon_24 (by decide) ?_
        exact jk_iret h hR dX2_tellCommon_33 (Nat.le_of_ble_eq_true rfl) (Nat.le_of_ble_eq_true rfl) (jrd_of (by first | (rw [if_neg (by omega)]; done) | (rw [if_pos (by omega), if_pos (by omega)]; done) | (rw [if_pos (by omega), if_neg (by omega)]; done)))
    · refine jk_iconst (q := 13) h dX2_tellCommon_12 rfl ?_
      exact jk_iret h hR dX2_tellCommon_13 (Nat.le_of_ble_eq_true rfl) (Nat.le_of_ble_eq_true rfl) (jrd_of (by first | (rw [if_neg (by omega)]; done) | (rw [if_pos (by omega), if_pos (by omega)]; done) | (rw [if_pos (by omega), if_neg (by omega)]; done)))

set_option maxHeartbeats 4000000 in
set_option maxRecDepth 100000 in
theorem c_X2_tellBucket {l : Launch} {D : va_G} {b0 : Nat} {n : Nat} {M : jM} {c : Nat} {had cv cr : Nat → Int} {cn : Int} {lo hi br un : Nat → Int} {bn : Int} (hC : jPic M c (cfL c had cv cr cn lo hi br un bn)) (hO : cfO had cv cr cn lo hi br un bn) {k q : Int} (hk : jRng k) (hq : jRng q) : jCtr l D b0 yX2_tellBucket cX2_tellBucket 3 (some .int) 0 0 0 [.ref c, jI k, jI q] n M (jrd n M (if 0 ≤ k ∧ k < bn then (if q = 0 then lo k.toNat else if q = 1 then hi k.toNat else if q = 2 then br k.toNat else un k.toNat) else -1)) := by
  refine jctr (lv := [some (.ref c), some (jI k), some (jI q)]) RX2 "tellBucket" rfl rfl (by decide) (Nat.le_of_ble_eq_true rfl) rfl ?_
  intro X h hR hX
  obtain ⟨hhad, hcv, hcr, hcn, hlo, hhi, hbr, hun, hbn, hlh⟩ := id hO
  refine jk_iload_n (q := 1) h dX2_tellBucket_0 rfl rfl ?_
  refine jk_if_lt (q := 4) (tgt := 12) h dX2_tellBucket_1 (by decide) rfl ⟨by omega, by omega⟩ (fun c1 => ?_) (fun c1 => ?_)
  · refine jk_iconst (q := 13) h dX2_tellBucket_12 rfl ?_
    exact jk_iret h hR dX2_tellBucket_13 (Nat.le_of_ble_eq_true rfl) (Nat.le_of_ble_eq_true rfl) (jrd_of (by first | (rw [if_neg (by omega)]; done) | (rw [if_pos (by omega), if_pos (by omega)]; done) | (rw [if_pos (by omega), if_neg (by omega), if_pos (by omega)]; done) | (rw [if_pos (by omega), if_neg (by omega), if_neg (by omega), if_pos (by omega)]; done) | (rw [if_pos (by omega), if_neg (by omega), if_neg (by omega), if_neg (by omega)]; done)))
  · refine jk_iload_n (q := 5) h dX2_tellBucket_4 rfl rfl ?_
    refine jk_aload_n (q := 6) h dX2_tellBucket_5 rfl rfl ?_
    refine jk_get (q := 9) h fg_X2_68 dX2_tellBucket_6 (hC.at 0 rfl) rfl rfl ?_
    refine jk_icmp_lt (q := 12) (tgt := 14) h dX2_tellBucket_9 (by decide) rfl ⟨by omega, by omega⟩ ⟨by omega, by omega⟩ (fun c9 => ?_) (fun c9 => ?_)
    · refine jk_iload_n (q := 15) h dX2_tellBucket_14 rfl rfl ?_
      refine jk_case (0) (fun c15_0 => ?_) (fun c15_0 => ?_)
      · refine jk_tabIn (q := 0) (tgt := 40) h dX2_tellBucket_15 ⟨by omega, by omega⟩ (by omega) (by omega) (by rw [c15_0]; try rfl) (by decide) ?_
        refine jk_aload_n (q := 41) h dX2_tellBucket_40 rfl rfl ?_
        refine jk_get (q := 44) h fg_X2_21 dX2_tellBucket_41 (hC.at 0 rfl) rfl rfl ?_
        refine jk_iload_n (q := 45) h dX2_tellBucket_44 rfl rfl ?_
        refine jk_ialdI (q := 46) h dX2_tellBucket_45 (hC.at 4 rfl) (by omega) (by omega) rfl rfl ?_
        exact jk_iret h hR dX2_tellBucket_46 (Nat.le_of_ble_eq_true rfl) (Nat.le_of_ble_eq_true rfl) (jrd_of (by first | (rw [if_neg (by omega)]; done) | (rw [if_pos (by omega), if_pos (by omega)]; done) | (rw [if_pos (by omega), if_neg (by omega), if_pos (by omega)]; done) | (rw [if_pos (by omega), if_neg (by omega), if_neg (by omega), if_pos (by omega)]; done) | (rw [if_pos (by omega), if_neg (by omega), if_neg (by omega), if_neg (by omega)]; done)))
      refine jk_case (1) (fun c15_1 => ?_) (fun c15_1 => ?_)
      · refine jk_tabIn (q := 0) (tgt := 47) h dX2_tellBucket_15 ⟨by omega, by omega⟩ (by omega) (by omega) (by rw [c15_1]; try rfl) (by decide) ?_
        refine jk_aload_n (q := 48) h dX2_tellBucket_47 rfl rfl ?_
        refine jk_get (q := 51) h fg_X2_24 dX2_tellBucket_48 (hC.at 0 rfl) rfl rfl ?_
        refine jk_iload_n (q := 52) h dX2_tellBucket_51 rfl rfl ?_
        refine jk_ialdI (q := 53) h dX2_tellBucket_52 (hC.at 5 rfl) (by omega) (by omega) rfl rfl ?_
        exact jk_iret h hR dX2_tellBucket_53 (Nat.le_of_ble_eq_true rfl) (Nat.le_of_ble_eq_true rfl) (jrd_of (by first | (rw [if_neg (by omega)]; done) | (rw [if_pos (by omega), if_pos (by omega)]; done) | (rw [if_pos (by omega), if_neg (by omega), if_pos (by omega)]; done) | (rw [if_pos (by omega), if_neg (by omega), if_neg (by omega), if_pos (by omega)]; done) | (rw [if_pos (by omega), if_neg (by omega), if_neg (by omega), if_neg (by omega)]; done)))
      refine jk_case (2) (fun c15_2 => ?_) (fun c15_2 => ?_)
      · refine jk_tabIn (q := 0) (tgt := 54) h dX2_tellBucket_15 ⟨by omega, by omega⟩ (by omega) (by omega) (by rw [c15_2]; try rfl) (by decide) ?_
        refine jk_aload_n (q := 55) h dX2_tellBucket_54 rfl rfl ?_
        refine jk_get (q := 58) h fg_X2_27 dX2_tellBucket_55 (hC.at 0 rfl) rfl rfl ?_
        refine jk_iload_n (q := 59) h dX2_tellBucket_58 rfl rfl ?_
        refine jk_ialdI (q := 60) h dX2_tellBucket_59 (hC.at 6 rfl) (by omega) (by omega) rfl rfl ?_
        exact jk_iret h hR dX2_tellBucket_60 (Nat.le_of_ble_eq_true rfl) (Nat.le_of_ble_eq_true rfl) (jrd_of (by first | (rw [if_neg (by omega)]; done) | (rw [if_pos (by omega), if_pos (by omega)]; done) | (rw [if_pos (by omega), if_neg (by omega), if_pos (by omega)]; done) | (rw [if_pos (by omega), if_neg (by omega), if_neg (by omega), if_pos (by omega)]; done) | (rw [if_pos (by omega), if_neg (by omega), if_neg (by omega), if_neg (by omega)]; done)))
      refine jk_tabOut (q := 0) (tgt := 61) h dX2_tellBucket_15 ⟨by omega, by omega⟩ (by omega) (by decide) ?_
      refine jk_aload_n (q := 62) h dX2_tellBucket_61 rfl rfl ?_
      refine jk_get (q := 65) h fg_X2_30 dX2_tellBucket_62 (hC.at 0 rfl) rfl rfl ?_
      refine jk_iload_n (q := 66) h dX2_tellBucket_65 rfl rfl ?_
      refine jk_ialdI (q := 67) h dX2_tellBucket_66 (hC.at 7 rfl) (by omega) (by omega) rfl rfl ?_
      exact jk_iret h hR dX2_tellBucket_67 (Nat.le_of_ble_eq_true rfl) (Nat.le_of_ble_eq_true rfl) (jrd_of (by first | (rw [if_neg (by omega)]; done) | (rw [if_pos (by omega), if_pos (by omega)]; done) | (rw [if_pos (by omega), if_neg (by omega), if_pos (by omega)]; done) | (rw [if_pos (by omega), if_neg (by omega), if_neg (by omega), if_pos (by omega)]; done) | (rw [if_pos (by omega), if_neg (by omega), if_neg (by omega), if_neg (by omega)]; done)))
    · refine jk_iconst (q := 13) h dX2_tellBucket_12 rfl ?_
      exact jk_iret h hR dX2_tellBucket_13 (Nat.le_of_ble_eq_true rfl) (Nat.le_of_ble_eq_true rfl) (jrd_of (by first | (rw [if_neg (by omega)]; done) | (rw [if_pos (by omega), if_pos (by omega)]; done) | (rw [if_pos (by omega), if_neg (by omega), if_pos (by omega)]; done) | (rw [if_pos (by omega), if_neg (by omega), if_neg (by omega), if_pos (by omega)]; done) | (rw [if_pos (by omega), if_neg (by omega), if_neg (by omega), if_neg (by omega)]; done)))

set_option maxHeartbeats 4000000 in
set_option maxRecDepth 100000 in
theorem c_X2_rowsOfBuckets {l : Launch} {D : va_G} {b0 : Nat} {n : Nat} {M : jM} {c : Nat} {had cv cr : Nat → Int} {cn : Int} {lo hi br un : Nat → Int} {bn : Int} (hC : jPic M c (cfL c had cv cr cn lo hi br un bn)) (hO : cfO had cv cr cn lo hi br un bn) : jCtr l D b0 yX2_rowsOfBuckets cX2_rowsOfBuckets 3 (some .int) 0 0 0 [.ref c] n M (jrd n M (smI br bn)) := by
  refine jctr (lv := [some (.ref c), none, none]) RX2 "rowsOfBuckets" rfl rfl (by decide) (Nat.le_of_ble_eq_true rfl) rfl ?_
  intro X h hR hX
  obtain ⟨hhad, hcv, hcr, hcn, hlo, hhi, hbr, hun, hbn, hlh⟩ := id hO
  refine jk_iconst (q := 1) h dX2_rowsOfBuckets_0 rfl ?_
  refine jk_istore_n (q := 2) h dX2_rowsOfBuckets_1 rfl (Nat.le_of_ble_eq_true rfl) rfl rfl ?_
  refine jk_iconst (q := 3) h dX2_rowsOfBuckets_2 rfl ?_
  refine jk_istore_n (q := 4) h dX2_rowsOfBuckets_3 rfl (Nat.le_of_ble_eq_true rfl) rfl rfl ?_
  have lp4 : ∀ (k9 : Nat) (r : Int) (i : Int) (hi1 : 0 ≤ i) (hi2 : i ≤ bn) (hr : r = smI br i) (hk9 : (bn - i).toNat = k9), jJ X 4 [some (.ref (c)), some (jI (r)), some (jI (i))] [] n M 0 0 := by
    intro k9
    induction k9 using Nat.strongRecOn with
    | _ k9 ih4 =>
      intro r i hi1 hi2 hr hk9
      refine jk_iload_n (q := 5) h dX2_rowsOfBuckets_4 rfl rfl ?_
      refine jk_aload_n (q := 6) h dX2_rowsOfBuckets_5 rfl rfl ?_
      refine jk_get (q := 9) h fg_X2_68 dX2_rowsOfBuckets_6 (hC.at 0 rfl) rfl rfl ?_
      refine jk_icmp_ge (q := 12) (tgt := 27) h dX2_rowsOfBuckets_9 (by decide) rfl ⟨by omega, by omega⟩ ⟨by omega, by omega⟩ (fun c9 => ?_) (fun c9 => ?_)
      · have hi3 : i = bn := by omega
        subst hi3
        refine jk_iload_n (q := 28) h dX2_rowsOfBuckets_27 rfl rfl ?_
        exact jk_iret h hR dX2_rowsOfBuckets_28 (Nat.le_of_ble_eq_true rfl) (Nat.le_of_ble_eq_true rfl) (jrd_of hr.symm)
      · refine jk_iload_n (q := 13) h dX2_rowsOfBuckets_12 rfl rfl ?_
        refine jk_aload_n (q := 14) h dX2_rowsOfBuckets_13 rfl rfl ?_
        refine jk_get (q := 17) h fg_X2_27 dX2_rowsOfBuckets_14 (hC.at 0 rfl) rfl rfl ?_
        refine jk_iload_n (q := 18) h dX2_rowsOfBuckets_17 rfl rfl ?_
        refine jk_ialdI (q := 19) h dX2_rowsOfBuckets_18 (hC.at 6 rfl) (by omega) (by omega) rfl rfl ?_
        refine jk_iadd (q := 20) h dX2_rowsOfBuckets_19 rfl ?_
        refine jk_istore_n (q := 21) h dX2_rowsOfBuckets_20 rfl (Nat.le_of_ble_eq_true rfl) rfl rfl ?_
        refine jk_iinc (q := 24) h dX2_rowsOfBuckets_21 rfl rfl rfl rfl ?_
        refine jk_goto (q := 27) (tgt := 4) h dX2_rowsOfBuckets_24 (by decide) ?_
        exact jk_weak (jwk_s rfl (jwk_s rfl (jwk_s rfl jwk_0))) (ih4 _ (by omega) _ _ (by omega) (by omega) (smI_t hi1 hr rfl) rfl)
  exact jk_weak (jwk_s rfl (jwk_s rfl (jwk_s rfl jwk_0))) (lp4 _ _ _ (by omega) (by omega) rfl rfl)

set_option maxHeartbeats 4000000 in
set_option maxRecDepth 100000 in
theorem c_X2_isCommon {l : Launch} {D : va_G} {b0 : Nat} {n : Nat} {M : jM} {c : Nat} {had cv cr : Nat → Int} {cn : Int} {lo hi br un : Nat → Int} {bn : Int} (hC : jPic M c (cfL c had cv cr cn lo hi br un bn)) (hO : cfO had cv cr cn lo hi br un bn) {v : Int} (hv : 0 ≤ v ∧ v ≤ 99) : jCtr l D b0 yX2_isCommon cX2_isCommon 3 (some .boolean) 0 0 0 [.ref c, jI v] n M (jrd n M (if isC cv cn v = true then 1 else 0)) := by
  refine jctr (lv := [some (.ref c), some (jI v), none]) RX2 "isCommon" rfl rfl (by decide) (Nat.le_of_ble_eq_true rfl) rfl ?_
  intro X h hR hX
  obtain ⟨hhad, hcv, hcr, hcn, hlo, hhi, hbr, hun, hbn, hlh⟩ := id hO
  refine jk_iconst (q := 1) h dX2_isCommon_0 rfl ?_
  refine jk_istore_n (q := 2) h dX2_isCommon_1 rfl (Nat.le_of_ble_eq_true rfl) rfl rfl ?_
  have lp2 : ∀ (k9 : Nat) (i : Int) (hi1 : 0 ≤ i) (hi2 : i ≤ cn) (hn : ∀ k : Nat, (k : Int) < i → ¬ cv k = v) (hk9 : (cn - i).toNat = k9), jJ X 2 [some (.ref (c)), some (jI (v)), some (jI (i))] [] n M 0 0 := by
    intro k9
    induction k9 using Nat.strongRecOn with
    | _ k9 ih2 =>
      intro i hi1 hi2 hn hk9
      have hcvi := hcv i.toNat
      refine jk_iload_n (q := 3) h dX2_isCommon_2 rfl rfl ?_
      refine jk_aload_n (q := 4) h dX2_isCommon_3 rfl rfl ?_
      refine jk_get (q := 7) h fg_X2_55 dX2_isCommon_4 (hC.at 0 rfl) rfl rfl ?_
      refine jk_icmp_ge (q := 10) (tgt := 28) h dX2_isCommon_7 (by decide) rfl ⟨by omega, by omega⟩ ⟨by omega, by omega⟩ (fun c7 => ?_) (fun c7 => ?_)
      · refine jk_iconst (q := 29) h dX2_isCommon_28 rfl ?_
        exact jk_zret h hR dX2_isCommon_29 (Nat.le_of_ble_eq_true rfl) (Nat.le_of_ble_eq_true rfl) (by first | exact Or.inl rfl | exact Or.inr rfl | omega) (jrd_of (if_neg (fun h9 => by
                  obtain ⟨k, h8, h7⟩ := (isC_iff hcn.1).mp h9
                  exact hn k (by omega) h7)))
      · refine jk_aload_n (q := 11) h dX2_isCommon_10 rfl rfl ?_
        refine jk_get (q := 14) h fg_X2_15 dX2_isCommon_11 (hC.at 0 rfl) rfl rfl ?_
        refine jk_iload_n (q := 15) h dX2_isCommon_14 rfl rfl ?_
        refine jk_ialdI (q := 16) h dX2_isCommon_15 (hC.at 2 rfl) (by omega) (by omega) rfl rfl ?_
        refine jk_iload_n (q := 17) h dX2_isCommon_16 rfl rfl ?_
        refine jk_icmp_ne (q := 20) (tgt := 22) h dX2_isCommon_17 (by decide) rfl ⟨by omega, by omega⟩ ⟨by omega, by omega⟩ (fun c17 => ?_) (fun c17 => ?_)
        · refine jk_iinc (q := 25) h dX2_isCommon_22 rfl rfl rfl rfl ?_
          refine jk_goto (q := 28) (tgt := 2) h dX2_isCommon_25 (by decide) ?_
          exact jk_weak (jwk_s rfl (jwk_s rfl (jwk_s rfl jwk_0))) (ih2 _ (by omega) _ (by omega) (by omega) (fun k hk => by
                      by_cases h9 : (k : Int) < i
                      · exact hn k h9
                      · have h8 : k = i.toNat := by omega
                        rw [h8]; exact c17) rfl)
        · refine jk_iconst (q := 21) h dX2_isCommon_20 rfl ?_
          exact jk_zret h hR dX2_isCommon_21 (Nat.le_of_ble_eq_true rfl) (Nat.le_of_ble_eq_true rfl) (by first | exact Or.inl rfl | exact Or.inr rfl | omega) (jrd_of (if_pos ((isC_iff hcn.1).mpr ⟨i.toNat, by omega, by omega⟩)))
  exact jk_weak (jwk_s rfl (jwk_s rfl (jwk_s rfl jwk_0))) (lp2 _ _ (by omega) (by omega) (fun k hk => absurd hk (by omega)) rfl)

set_option maxHeartbeats 4000000 in
set_option maxRecDepth 100000 in
theorem c_X2_copyFrom {l : Launch} {D : va_G} {b0 : Nat} {n : Nat} {M : jM} {c c2 : Nat} {had cv cr : Nat → Int} {cn : Int} {lo hi br un : Nat → Int} {bn : Int} {had2 cv2 cr2 : Nat → Int} {cn2 : Int} {lo2 hi2 br2 un2 : Nat → Int} {bn2 : Int} (hC : jPic M c (cfL c had cv cr cn lo hi br un bn)) (hE : jPic M c2 (cfL c2 had2 cv2 cr2 cn2 lo2 hi2 br2 un2 bn2)) (hd : c + 8 ≤ c2 ∨ c2 + 8 ≤ c) : jCtr l D b0 yX2_copyFrom cX2_copyFrom 2 none 1 0 0 [.ref c, .ref c2] n M (fun v n2 M2 => none = v ∧ n = n2 ∧ jPic M2 c (cfL c had2 cv2 cr2 cn2 lo2 hi2 br2 un2 bn2) ∧ jout M M2 c 8) := by
  refine jctr (lv := [some (.ref c), some (.ref c2)]) RX2 "copyFrom" rfl rfl (by decide) (Nat.le_of_ble_eq_true rfl) rfl ?_
  intro X h hR hX
  have ho := jout.rf M c 8
  refine jk_aload_n (q := 1) h dX2_copyFrom_0 rfl rfl ?_
  refine jk_get (q := 4) h fg_X2_9 dX2_copyFrom_1 (hE.at 0 rfl) rfl rfl ?_
  refine jk_aload_n (q := 5) h dX2_copyFrom_4 rfl rfl ?_
  refine jk_get (q := 8) h fg_X2_9 dX2_copyFrom_5 (hC.at 0 rfl) rfl rfl ?_
  refine jk_callSN (q := 11) h hX (c_X9_copyNumbers rfl (jPic_c (hE.at 1 rfl)) (jPic_c (hC.at 1 rfl)) (by omega)) ms_X9_copyNumbers dX2_copyFrom_8 ml_X2_106 ⟨rfl, Nat.le_refl _⟩ rfl rfl (Nat.le_of_ble_eq_true rfl) (Nat.le_of_ble_eq_true rfl) rfl rfl (Nat.le_of_ble_eq_true rfl) rfl (fun v9 n9 M_1 hp9 => ?_)
  obtain ⟨rfl, rfl, s_1⟩ := hp9
  have hC := hC.put (i := 1) s_1 rfl
  have hE := hE.other s_1 8 rfl (by omega)
  have ho := ho.st (i := 1) s_1 (by omega)
  refine jk_aload_n (q := 12) h dX2_copyFrom_11 rfl rfl ?_
  refine jk_get (q := 15) h fg_X2_15 dX2_copyFrom_12 (hE.at 0 rfl) rfl rfl ?_
  refine jk_aload_n (q := 16) h dX2_copyFrom_15 rfl rfl ?_
  refine jk_get (q := 19) h fg_X2_15 dX2_copyFrom_16 (hC.at 0 rfl) rfl rfl ?_
  refine jk_callSN (q := 22) h hX (c_X9_copyNumbers rfl (jPic_c (hE.at 2 rfl)) (jPic_c (hC.at 2 rfl)) (by omega)) ms_X9_copyNumbers dX2_copyFrom_19 ml_X2_106 ⟨rfl, Nat.le_refl _⟩ rfl rfl (Nat.le_of_ble_eq_true rfl) (Nat.le_of_ble_eq_true rfl) rfl rfl (Nat.le_of_ble_eq_true rfl) rfl (fun v9 n9 M_2 hp9 => ?_)
  obtain ⟨rfl, rfl, s_2⟩ := hp9
  have hC := hC.put (i := 2) s_2 rfl
  have hE := hE.other s_2 8 rfl (by omega)
  have ho := ho.st (i := 2) s_2 (by omega)
  refine jk_aload_n (q := 23) h dX2_copyFrom_22 rfl rfl ?_
  refine jk_get (q := 26) h fg_X2_18 dX2_copyFrom_23 (hE.at 0 rfl) rfl rfl ?_
  refine jk_aload_n (q := 27) h dX2_copyFrom_26 rfl rfl ?_
  refine jk_get (q := 30) h fg_X2_18 dX2_copyFrom_27 (hC.at 0 rfl) rfl rfl ?_
  refine jk_callSN (q := 33) h hX (c_X9_copyNumbers rfl (jPic_c (hE.at 3 rfl)) (jPic_c (hC.at 3 rfl)) (by omega)) ms_X9_copyNumbers dX2_copyFrom_30 ml_X2_106 ⟨rfl, Nat.le_refl _⟩ rfl rfl (Nat.le_of_ble_eq_true rfl) (Nat.le_of_ble_eq_true rfl) rfl rfl (Nat.le_of_ble_eq_true rfl) rfl (fun v9 n9 M_3 hp9 => ?_)
  obtain ⟨rfl, rfl, s_3⟩ := hp9
  have hC := hC.put (i := 3) s_3 rfl
  have hE := hE.other s_3 8 rfl (by omega)
  have ho := ho.st (i := 3) s_3 (by omega)
  refine jk_aload_n (q := 34) h dX2_copyFrom_33 rfl rfl ?_
  refine jk_aload_n (q := 35) h dX2_copyFrom_34 rfl rfl ?_
  refine jk_get (q := 38) h fg_X2_55 dX2_copyFrom_35 (hE.at 0 rfl) rfl rfl ?_
  refine jk_put (q := 41) h (fp_X2_55 _) dX2_copyFrom_38 (hC.at 0 rfl) (Nat.le_of_ble_eq_true rfl) rfl (fun M_4 s_4 => ?_)
  have hC := hC.put (i := 0) s_4 rfl
  have hE := hE.other s_4 8 rfl (by omega)
  have ho := ho.st (i := 0) s_4 (by omega)
  refine jk_aload_n (q := 42) h dX2_copyFrom_41 rfl rfl ?_
  refine jk_get (q := 45) h fg_X2_21 dX2_copyFrom_42 (hE.at 0 rfl) rfl rfl ?_
  refine jk_aload_n (q := 46) h dX2_copyFrom_45 rfl rfl ?_
  refine jk_get (q := 49) h fg_X2_21 dX2_copyFrom_46 (hC.at 0 rfl) rfl rfl ?_
  refine jk_callSN (q := 52) h hX (c_X9_copyNumbers rfl (jPic_c (hE.at 4 rfl)) (jPic_c (hC.at 4 rfl)) (by omega)) ms_X9_copyNumbers dX2_copyFrom_49 ml_X2_106 ⟨rfl, Nat.le_refl _⟩ rfl rfl (Nat.le_of_ble_eq_true rfl) (Nat.le_of_ble_eq_true rfl) rfl rfl (Nat.le_of_ble_eq_true rfl) rfl (fun v9 n9 M_5 hp9 => ?_)
  obtain ⟨rfl, rfl, s_5⟩ := hp9
  have hC := hC.put (i := 4) s_5 rfl
  have hE := hE.other s_5 8 rfl (by omega)
  have ho := ho.st (i := 4) s_5 (by omega)
  refine jk_aload_n (q := 53) h dX2_copyFrom_52 rfl rfl ?_
  refine jk_get (q := 56) h fg_X2_24 dX2_copyFrom_53 (hE.at 0 rfl) rfl rfl ?_
  refine jk_aload_n (q := 57) h dX2_copyFrom_56 rfl rfl ?_
  refine jk_get (q := 60) h fg_X2_24 dX2_copyFrom_57 (hC.at 0 rfl) rfl rfl ?_
  refine jk_callSN (q := 63) h hX (c_X9_copyNumbers rfl (jPic_c (hE.at 5 rfl)) (jPic_c (hC.at 5 rfl)) (by omega)) ms_X9_copyNumbers dX2_copyFrom_60 ml_X2_106 ⟨rfl, Nat.le_refl _⟩ rfl rfl (Nat.le_of_ble_eq_true rfl) (Nat.le_of_ble_eq_true rfl) rfl rfl (Nat.le_of_ble_eq_true rfl) rfl (fun v9 n9 M_6 hp9 => ?_)
  obtain ⟨rfl, rfl, s_6⟩ := hp9
  have hC := hC.put (i := 5) s_6 rfl
  have hE := hE.other s_6 8 rfl (by omega)
  have ho := ho.st (i := 5) s_6 (by omega)
  refine jk_aload_n (q := 64) h dX2_copyFrom_63 rfl rfl ?_
  refine jk_get (q := 67) h fg_X2_27 dX2_copyFrom_64 (hE.at 0 rfl) rfl rfl ?_
  refine jk_aload_n (q := 68) h dX2_copyFrom_67 rfl rfl ?_
  refine jk_get (q := 71) h fg_X2_27 dX2_copyFrom_68 (hC.at 0 rfl) rfl rfl ?_
  refine jk_callSN (q := 74) h hX (c_X9_copyNumbers rfl (jPic_c (hE.at 6 rfl)) (jPic_c (hC.at 6 rfl)) (by omega)) ms_X9_copyNumbers dX2_copyFrom_71 ml_X2_106 ⟨rfl, Nat.le_refl _⟩ rfl rfl (Nat.le_of_ble_eq_true rfl) (Nat.le_of_ble_eq_true rfl) rfl rfl (Nat.le_of_ble_eq_true rfl) rfl (fun v9 n9 M_7 hp9 => ?_)
  obtain ⟨rfl, rfl, s_7⟩ := hp9
  have hC := hC.put (i := 6) s_7 rfl
  have hE := hE.other s_7 8 rfl (by omega)
  have ho := ho.st (i := 6) s_7 (by omega)
  refine jk_aload_n (q := 75) h dX2_copyFrom_74 rfl rfl ?_
  refine jk_get (q := 78) h fg_X2_30 dX2_copyFrom_75 (hE.at 0 rfl) rfl rfl ?_
  refine jk_aload_n (q := 79) h dX2_copyFrom_78 rfl rfl ?_
  refine jk_get (q := 82) h fg_X2_30 dX2_copyFrom_79 (hC.at 0 rfl) rfl rfl ?_
  refine jk_callSN (q := 85) h hX (c_X9_copyNumbers rfl (jPic_c (hE.at 7 rfl)) (jPic_c (hC.at 7 rfl)) (by omega)) ms_X9_copyNumbers dX2_copyFrom_82 ml_X2_106 ⟨rfl, Nat.le_refl _⟩ rfl rfl (Nat.le_of_ble_eq_true rfl) (Nat.le_of_ble_eq_true rfl) rfl rfl (Nat.le_of_ble_eq_true rfl) rfl (fun v9 n9 M_8 hp9 => ?_)
  obtain ⟨rfl, rfl, s_8⟩ := hp9
  have hC := hC.put (i := 7) s_8 rfl
  have hE := hE.other s_8 8 rfl (by omega)
  have ho := ho.st (i := 7) s_8 (by omega)
  refine jk_aload_n (q := 86) h dX2_copyFrom_85 rfl rfl ?_
  refine jk_aload_n (q := 87) h dX2_copyFrom_86 rfl rfl ?_
  refine jk_get (q := 90) h fg_X2_68 dX2_copyFrom_87 (hE.at 0 rfl) rfl rfl ?_
  refine jk_put (q := 93) h (fp_X2_68 _) dX2_copyFrom_90 (hC.at 0 rfl) (Nat.le_of_ble_eq_true rfl) rfl (fun M_9 s_9 => ?_)
  have hC := hC.put (i := 0) s_9 rfl
  have hE := hE.other s_9 8 rfl (by omega)
  have ho := ho.st (i := 0) s_9 (by omega)
  exact jk_vret h hR dX2_copyFrom_93 (Nat.le_of_ble_eq_true rfl) (Nat.le_of_ble_eq_true rfl) ⟨rfl, rfl, hC, ho⟩
end
section
abbrev TC : Type := (Nat → Int) × (Nat → Int) × (Nat → Int) × Int × (Nat → Int) × (Nat → Int) × (Nat → Int) × (Nat → Int) × Int
abbrev cfP (c : Nat) (x : TC) : List jC := cfL c x.1 x.2.1 x.2.2.1 x.2.2.2.1 x.2.2.2.2.1 x.2.2.2.2.2.1 x.2.2.2.2.2.2.1 x.2.2.2.2.2.2.2.1 x.2.2.2.2.2.2.2.2
abbrev cfQ (x : TC) : Prop := cfO x.1 x.2.1 x.2.2.1 x.2.2.2.1 x.2.2.2.2.1 x.2.2.2.2.2.1 x.2.2.2.2.2.2.1 x.2.2.2.2.2.2.2.1 x.2.2.2.2.2.2.2.2
abbrev gsT (x : TC) (low high : Int) : Int := gsS x.2.1 x.2.2.1 x.2.2.2.1 x.2.2.2.2.1 x.2.2.2.2.2.1 x.2.2.2.2.2.2.1 x.2.2.2.2.2.2.2.2 low high
abbrev lsT (x : TC) (low high : Int) : Int := lsS x.2.1 x.2.2.1 x.2.2.2.1 x.2.2.2.2.1 x.2.2.2.2.2.1 x.2.2.2.2.2.2.1 x.2.2.2.2.2.2.2.2 low high
abbrev msT (x : TC) (low high : Int) : Int := msS x.2.1 x.2.2.1 x.2.2.2.1 x.2.2.2.2.1 x.2.2.2.2.2.1 x.2.2.2.2.2.2.1 x.2.2.2.2.2.2.2.2 low high
abbrev miT (x : TC) (v : Int) : Int := miS x.1 x.2.1 x.2.2.1 x.2.2.2.1 x.2.2.2.2.1 x.2.2.2.2.2.1 x.2.2.2.2.2.2.1 x.2.2.2.2.2.2.2.2 v
abbrev TP : Type := (Nat → Int) × (Nat → Int) × (Nat → Int) × Int
abbrev pfP (c : Nat) (x : TP) : List jC := pfL c x.1 x.2.1 x.2.2.1 x.2.2.2
abbrev pfQ (x : TP) : Prop := jrF x.1 0 99 ∧ jrF x.2.1 0 99 ∧ jrF x.2.2.1 0 60 ∧ (0 ≤ x.2.2.2 ∧ x.2.2.2 ≤ 6)
abbrev TT : Type := (Nat → Int) × (Nat → Int) × Int
abbrev tbP (c : Nat) (x : TT) : List jC := tbL c x.1 x.2.1 x.2.2
abbrev tbQ (x : TT) : Prop := jrF x.1 0 99 ∧ jrF x.2.1 0 99 ∧ (0 ≤ x.2.2 ∧ x.2.2 ≤ 60)
abbrev TS : Type := (Nat → Int) × TT × (Int × Int) × TC × TC × TP
def stP (M : jM) (b : Nat) (x : TS) : Prop := jPic M b (stL b x.1) ∧ jPic M (b + 2) (tbP (b + 2) x.2.1) ∧ jPic M (b + 5) (anL (b + 5) x.2.2.1.1 x.2.2.1.2) ∧ jPic M (b + 6) (cfP (b + 6) x.2.2.2.1) ∧ jPic M (b + 14) (cfP (b + 14) x.2.2.2.2.1) ∧ jPic M (b + 22) (pfP (b + 22) x.2.2.2.2.2)
abbrev seQ (f : Nat → Int) : Prop := (1 ≤ f 0 ∧ f 0 ≤ 10) ∧ (0 ≤ f 1 ∧ f 1 ≤ 6) ∧ (0 ≤ f 2 ∧ f 2 ≤ 6) ∧ (0 ≤ f 3 ∧ f 3 ≤ 100)
def stQ (x : TS) : Prop := seQ x.1 ∧ tbQ x.2.1 ∧ (0 ≤ x.2.2.1.1 ∧ x.2.2.1.1 ≤ 60) ∧ (0 ≤ x.2.2.1.2 ∧ x.2.2.1.2 ≤ 10000000) ∧ cfQ x.2.2.2.1 ∧ cfQ x.2.2.2.2.1 ∧ pfQ x.2.2.2.2.2
theorem stP.keep {M M2 : jM} {b c k : Nat} {x : TS} (h : stP M b x) (ho : jout M M2 c k) (hd : b + 26 ≤ c ∨ c + k ≤ b) : stP M2 b x := ⟨h.1.keep ho 2 rfl (by omega), h.2.1.keep ho 3 rfl (by omega), h.2.2.1.keep ho 1 rfl (by omega), h.2.2.2.1.keep ho 8 rfl (by omega), h.2.2.2.2.1.keep ho 8 rfl (by omega), h.2.2.2.2.2.keep ho 4 rfl (by omega)⟩
def prS (x : TP) (la ha lb hb : Int) : Int := smI (fun k => if (la ≤ x.1 k ∧ x.1 k ≤ ha) ∧ (lb ≤ x.2.1 k ∧ x.2.1 k ≤ hb) then x.2.2.1 k else 0) x.2.2.2
theorem prS_bd {x : TP} {la ha lb hb : Int} (h : pfQ x) : 0 ≤ prS x la ha lb hb ∧ prS x la ha lb hb ≤ 360 := by
  have h1 := smI_bd (f := fun k => if (la ≤ x.1 k ∧ x.1 k ≤ ha) ∧ (lb ≤ x.2.1 k ∧ x.2.1 k ≤ hb) then x.2.2.1 k else 0) (c := 60) (z := x.2.2.2) (N := 6) h.2.2.2.1 h.2.2.2.2 (by omega) (fun k _ => by
    have := h.2.2.1 k
    by_cases hp : (la ≤ x.1 k ∧ x.1 k ≤ ha) ∧ (lb ≤ x.2.1 k ∧ x.2.1 k ≤ hb)
    · simp only [if_pos hp]; exact this
    · simp only [if_neg hp]; omega)
  exact ⟨h1.1, by have := h1.2; unfold prS; omega⟩
theorem gsT_bd {x : TC} {low high : Int} (h : cfQ x) : 0 ≤ gsT x low high ∧ gsT x low high ≤ 960 := gsS_bd h
theorem miT_bd {x : TC} {v : Int} (h : cfQ x) : 0 ≤ miT x v ∧ miT x v ≤ 2000 := miS_bd h
def gbT (rows : Int) (A B : TC) (p : TP) (la ha lb hb : Int) : Int := if 0 < rows - prS p 0 99 0 99 then prS p la ha lb hb + jmx (gsT A la ha - prS p la ha 0 99) 0 * jmx (gsT B lb hb - prS p 0 99 lb hb) 0 / (rows - prS p 0 99 0 99) else prS p la ha lb hb
theorem gbT_bd {rows : Int} {A B : TC} {p : TP} {la ha lb hb : Int} (hA : cfQ A) (hB : cfQ B) (hp : pfQ p) : 0 ≤ gbT rows A B p la ha lb hb ∧ gbT rows A B p la ha lb hb ≤ 1000000 := by
  have h1 := gsT_bd (low := la) (high := ha) hA
  have h2 := gsT_bd (low := lb) (high := hb) hB
  have h3 := prS_bd (la := la) (ha := ha) (lb := lb) (hb := hb) hp
  have h4 := prS_bd (la := la) (ha := ha) (lb := 0) (hb := 99) hp
  have h5 := prS_bd (la := 0) (ha := 99) (lb := lb) (hb := hb) hp
  unfold gbT
  by_cases h : 0 < rows - prS p 0 99 0 99
  · rw [if_pos h]
    have h6 : 0 ≤ jmx (gsT A la ha - prS p la ha 0 99) 0 ∧ jmx (gsT A la ha - prS p la ha 0 99) 0 ≤ 960 := by unfold jmx; split <;> omega
    have h7 : 0 ≤ jmx (gsT B lb hb - prS p 0 99 lb hb) 0 ∧ jmx (gsT B lb hb - prS p 0 99 lb hb) 0 ≤ 960 := by unfold jmx; split <;> omega
    have h8 := jmulb h6.1 h6.2 h7.1 h7.2
    have h9 := jdivb h8.1 h8.2 h
    omega
  · rw [if_neg h]
    omega

set_option maxHeartbeats 4000000 in
set_option maxRecDepth 100000 in
theorem c_X5_init {l : Launch} {D : va_G} {b0 : Nat} {M : jM} {c : Nat} (hP : jPic M c [oB 4 [.null, .null, .null, jI 0]]) : jCtr l D b0 yX5_init cX5_init 1 none 1 3 18 [.ref c] (c + 1) M (fun v n2 M2 => none = v ∧ c + 4 = n2 ∧ jPic M2 c (pfL c jz jz jz 0) ∧ jout M M2 c 4) := by
  refine jctr (lv := [some (.ref c)]) RX5 "<init>" rfl rfl (by decide) (Nat.le_of_ble_eq_true rfl) rfl ?_
  intro X h hR hX
  have ho := jout.rf M c 4
  refine jk_aload_n (q := 1) h dX5_init_0 rfl rfl ?_
  refine jk_objInit (q := 4) h dX5_init_1 ml_X5_3 ko_i ko_c (Nat.le_of_ble_eq_true rfl) (Nat.le_of_ble_eq_true rfl) rfl ?_
  refine jk_aload_n (q := 5) h dX5_init_4 rfl rfl ?_
  refine jk_bipush (q := 7) h dX5_init_5 (by decide) rfl ?_
  refine jk_newa (q := 9) h dX5_init_7 rfl ka_int rfl (Nat.le_of_ble_eq_true rfl) (Nat.le_of_ble_eq_true rfl) rfl (fun M_1 s_1 => ?_)
  have s_1 : jst _ _ _ (aI 6 jz) := s_1
  have hP := hP.snoc s_1
  have ho := ho.st (i := 1) s_1 (by omega)
  refine jk_putF (q := 12) h (fp_X5_9 _) dX5_init_9 rfl fd_X5_0 (hP.at 0 rfl) (Nat.le_of_ble_eq_true rfl) rfl (fun M_2 s_2 => ?_)
  have hP := hP.put (i := 0) s_2 rfl
  have ho := ho.st (i := 0) s_2 (by omega)
  refine jk_aload_n (q := 13) h dX5_init_12 rfl rfl ?_
  refine jk_bipush (q := 15) h dX5_init_13 (by decide) rfl ?_
  refine jk_newa (q := 17) h dX5_init_15 rfl ka_int rfl (Nat.le_of_ble_eq_true rfl) (Nat.le_of_ble_eq_true rfl) rfl (fun M_3 s_3 => ?_)
  have s_3 : jst _ _ _ (aI 6 jz) := s_3
  have hP := hP.snoc s_3
  have ho := ho.st (i := 2) s_3 (by omega)
  refine jk_putF (q := 20) h (fp_X5_15 _) dX5_init_17 rfl fd_X5_1 (hP.at 0 rfl) (Nat.le_of_ble_eq_true rfl) rfl (fun M_4 s_4 => ?_)
  have hP := hP.put (i := 0) s_4 rfl
  have ho := ho.st (i := 0) s_4 (by omega)
  refine jk_aload_n (q := 21) h dX5_init_20 rfl rfl ?_
  refine jk_bipush (q := 23) h dX5_init_21 (by decide) rfl ?_
  refine jk_newa (q := 25) h dX5_init_23 rfl ka_int rfl (Nat.le_of_ble_eq_true rfl) (Nat.le_of_ble_eq_true rfl) rfl (fun M_5 s_5 => ?_)
  have s_5 : jst _ _ _ (aI 6 jz) := s_5
  have hP := hP.snoc s_5
  have ho := ho.st (i := 3) s_5 (by omega)
  refine jk_putF (q := 28) h (fp_X5_18 _) dX5_init_25 rfl fd_X5_2 (hP.at 0 rfl) (Nat.le_of_ble_eq_true rfl) rfl (fun M_6 s_6 => ?_)
  have hP := hP.put (i := 0) s_6 rfl
  have ho := ho.st (i := 0) s_6 (by omega)
  exact jk_vret h hR dX5_init_28 (Nat.le_of_ble_eq_true rfl) (Nat.le_of_ble_eq_true rfl) ⟨rfl, rfl, hP, ho⟩

set_option maxHeartbeats 4000000 in
set_option maxRecDepth 100000 in
theorem c_X5_tellPair {l : Launch} {D : va_G} {b0 : Nat} {n : Nat} {M : jM} {c : Nat} {x : TP} (hP : jPic M c (pfP c x)) (hO : pfQ x) {k q : Int} (hk : jRng k) (hq : jRng q) : jCtr l D b0 yX5_tellPair cX5_tellPair 3 (some .int) 0 0 0 [.ref c, jI k, jI q] n M (jrd n M (if 0 ≤ k ∧ k < x.2.2.2 then (if q = 0 then x.1 k.toNat else if q = 1 then x.2.1 k.toNat else x.2.2.1 k.toNat) else -1)) := by
  refine jctr (lv := [some (.ref c), some (jI k), some (jI q)]) RX5 "tellPair" rfl rfl (by decide) (Nat.le_of_ble_eq_true rfl) rfl ?_
  intro X h hR hX
  obtain ⟨hpa, hpb, hpr, hpn⟩ := id hO
  refine jk_iload_n (q := 1) h dX5_tellPair_0 rfl rfl ?_
  refine jk_if_lt (q := 4) (tgt := 12) h dX5_tellPair_1 (by decide) rfl ⟨by omega, by omega⟩ (fun c1 => ?_) (fun c1 => ?_)
  · refine jk_iconst (q := 13) h dX5_tellPair_12 rfl ?_
    exact jk_iret h hR dX5_tellPair_13 (Nat.le_of_ble_eq_true rfl) (Nat.le_of_ble_eq_true rfl) (jrd_of (by first | (rw [if_neg (by omega)]; done) | (rw [if_pos (by omega), if_pos (by omega)]; done) | (rw [if_pos (by omega), if_neg (by omega), if_pos (by omega)]; done) | (rw [if_pos (by omega), if_neg (by omega), if_neg (by omega)]; done)))
  · refine jk_iload_n (q := 5) h dX5_tellPair_4 rfl rfl ?_
    refine jk_aload_n (q := 6) h dX5_tellPair_5 rfl rfl ?_
    refine jk_get (q := 9) h fg_X5_21 dX5_tellPair_6 (hP.at 0 rfl) rfl rfl ?_
    refine jk_icmp_lt (q := 12) (tgt := 14) h dX5_tellPair_9 (by decide) rfl ⟨by omega, by omega⟩ ⟨by omega, by omega⟩ (fun c9 => ?_) (fun c9 => ?_)
    · refine jk_iload_n (q := 15) h dX5_tellPair_14 rfl rfl ?_
      refine jk_case (0) (fun c15_0 => ?_) (fun c15_0 => ?_)
      · refine jk_look (q := 0) (tgt := 40) h dX5_tellPair_15 (by decide) ⟨by omega, by omega⟩ (by rw [c15_0]; try rfl) (by decide) ?_
        refine jk_aload_n (q := 41) h dX5_tellPair_40 rfl rfl ?_
        refine jk_get (q := 44) h fg_X5_9 dX5_tellPair_41 (hP.at 0 rfl) rfl rfl ?_
        refine jk_iload_n (q := 45) h dX5_tellPair_44 rfl rfl ?_
        refine jk_ialdI (q := 46) h dX5_tellPair_45 (hP.at 1 rfl) (by omega) (by omega) rfl rfl ?_
        exact jk_iret h hR dX5_tellPair_46 (Nat.le_of_ble_eq_true rfl) (Nat.le_of_ble_eq_true rfl) (jrd_of (by first | (rw [if_neg (by omega)]; done) | (rw [if_pos (by omega), if_pos (by omega)]; done) | (rw [if_pos (by omega), if_neg (by omega), if_pos (by omega)]; done) | (rw [if_pos (by omega), if_neg (by omega), if_neg (by omega)]; done)))
      refine jk_case (1) (fun c15_1 => ?_) (fun c15_1 => ?_)
      · refine jk_look (q := 0) (tgt := 47) h dX5_tellPair_15 (by decide) ⟨by omega, by omega⟩ (by rw [c15_1]; try rfl) (by decide) ?_
        refine jk_aload_n (q := 48) h dX5_tellPair_47 rfl rfl ?_
        refine jk_get (q := 51) h fg_X5_15 dX5_tellPair_48 (hP.at 0 rfl) rfl rfl ?_
        refine jk_iload_n (q := 52) h dX5_tellPair_51 rfl rfl ?_
        refine jk_ialdI (q := 53) h dX5_tellPair_52 (hP.at 2 rfl) (by omega) (by omega) rfl rfl ?_
        exact jk_iret h hR dX5_tellPair_53 (Nat.le_of_ble_eq_true rfl) (Nat.le_of_ble_eq_true rfl) (jrd_of (by first | (rw [if_neg (by omega)]; done) | (rw [if_pos (by omega), if_pos (by omega)]; done) | (rw [if_pos (by omega), if_neg (by omega), if_pos (by omega)]; done) | (rw [if_pos (by omega), if_neg (by omega), if_neg (by omega)]; done)))
      refine jk_look (q := 0) (tgt := 54) h dX5_tellPair_15 (by decide) ⟨by omega, by omega⟩ (by simp only [Array.toList]; rw [jl_ne c15_0, jl_ne c15_1, Op.lookupswitch.offset_nil]) (by decide) ?_
      refine jk_aload_n (q := 55) h dX5_tellPair_54 rfl rfl ?_
      refine jk_get (q := 58) h fg_X5_18 dX5_tellPair_55 (hP.at 0 rfl) rfl rfl ?_
      refine jk_iload_n (q := 59) h dX5_tellPair_58 rfl rfl ?_
      refine jk_ialdI (q := 60) h dX5_tellPair_59 (hP.at 3 rfl) (by omega) (by omega) rfl rfl ?_
      exact jk_iret h hR dX5_tellPair_60 (Nat.le_of_ble_eq_true rfl) (Nat.le_of_ble_eq_true rfl) (jrd_of (by first | (rw [if_neg (by omega)]; done) | (rw [if_pos (by omega), if_pos (by omega)]; done) | (rw [if_pos (by omega), if_neg (by omega), if_pos (by omega)]; done) | (rw [if_pos (by omega), if_neg (by omega), if_neg (by omega)]; done)))
    · refine jk_iconst (q := 13) h dX5_tellPair_12 rfl ?_
      exact jk_iret h hR dX5_tellPair_13 (Nat.le_of_ble_eq_true rfl) (Nat.le_of_ble_eq_true rfl) (jrd_of (by first | (rw [if_neg (by omega)]; done) | (rw [if_pos (by omega), if_pos (by omega)]; done) | (rw [if_pos (by omega), if_neg (by omega), if_pos (by omega)]; done) | (rw [if_pos (by omega), if_neg (by omega), if_neg (by omega)]; done)))

set_option maxHeartbeats 4000000 in
set_option maxRecDepth 100000 in
theorem c_X5_rowsInside {l : Launch} {D : va_G} {b0 : Nat} {n : Nat} {M : jM} {c : Nat} {x : TP} (hP : jPic M c (pfP c x)) (hO : pfQ x) {la ha9 lb hb9 : Int} (h1 : jRng la) (h2 : jRng ha9) (h3 : jRng lb) (h4 : jRng hb9) : jCtr l D b0 yX5_rowsInside cX5_rowsInside 7 (some .int) 1 0 0 [.ref c, jI la, jI ha9, jI lb, jI hb9] n M (jrd n M (prS x la ha9 lb hb9)) := by
  refine jctr (lv := [some (.ref c), some (jI la), some (jI ha9), some (jI lb), some (jI hb9), none, none]) RX5 "rowsInside" rfl rfl (by decide) (Nat.le_of_ble_eq_true rfl) rfl ?_
  intro X h hR hX
  obtain ⟨hpa, hpb, hpr, hpn⟩ := id hO
  refine jk_iconst (q := 1) h dX5_rowsInside_0 rfl ?_
  refine jk_istore (q := 3) h dX5_rowsInside_1 rfl (Nat.le_of_ble_eq_true rfl) rfl rfl ?_
  refine jk_iconst (q := 4) h dX5_rowsInside_3 rfl ?_
  refine jk_istore (q := 6) h dX5_rowsInside_4 rfl (Nat.le_of_ble_eq_true rfl) rfl rfl ?_
  have lp6 : ∀ (k9 : Nat) (r : Int) (i : Int) (hi : 0 ≤ i) (hi2 : i ≤ x.2.2.2) (hc : r = smI (fun k => if (la ≤ x.1 k ∧ x.1 k ≤ ha9) ∧ (lb ≤ x.2.1 k ∧ x.2.1 k ≤ hb9) then x.2.2.1 k else 0) i) (hk9 : (x.2.2.2 - i).toNat = k9), jJ X 6 [some (.ref (c)), some (jI (la)), some (jI (ha9)), some (jI (lb)), some (jI (hb9)), some (jI (r)), some (jI (i))] [] n M 0 0 := by
    intro k9
    induction k9 using Nat.strongRecOn with
    | _ k9 ih6 =>
      intro r i hi hi2 hc hk9
      have hai := hpa i.toNat
      have hbi := hpb i.toNat
      refine jk_iload (q := 8) h dX5_rowsInside_6 rfl rfl ?_
      refine jk_aload_n (q := 9) h dX5_rowsInside_8 rfl rfl ?_
      refine jk_get (q := 12) h fg_X5_21 dX5_rowsInside_9 (hP.at 0 rfl) rfl rfl ?_
      refine jk_icmp_ge (q := 15) (tgt := 64) h dX5_rowsInside_12 (by decide) rfl ⟨by omega, by omega⟩ ⟨by omega, by omega⟩ (fun c12 => ?_) (fun c12 => ?_)
      · have hi3 : i = x.2.2.2 := by omega
        subst hi3
        refine jk_iload (q := 66) h dX5_rowsInside_64 rfl rfl ?_
        exact jk_iret h hR dX5_rowsInside_66 (Nat.le_of_ble_eq_true rfl) (Nat.le_of_ble_eq_true rfl) (jrd_of hc.symm)
      · refine jk_aload_n (q := 16) h dX5_rowsInside_15 rfl rfl ?_
        refine jk_get (q := 19) h fg_X5_9 dX5_rowsInside_16 (hP.at 0 rfl) rfl rfl ?_
        refine jk_iload (q := 21) h dX5_rowsInside_19 rfl rfl ?_
        refine jk_ialdI (q := 22) h dX5_rowsInside_21 (hP.at 1 rfl) (by omega) (by omega) rfl rfl ?_
        refine jk_iload_n (q := 23) h dX5_rowsInside_22 rfl rfl ?_
        refine jk_iload_n (q := 24) h dX5_rowsInside_23 rfl rfl ?_
        refine jk_callSN (q := 27) h hX (c_X9_isBetween ⟨by omega, by omega⟩ ⟨by omega, by omega⟩ ⟨by omega, by omega⟩) ms_X9_isBetween dX5_rowsInside_24 ml_X5_43 ⟨rfl, Nat.le_refl _⟩ rfl rfl (Nat.le_of_ble_eq_true rfl) (Nat.le_of_ble_eq_true rfl) rfl rfl (Nat.le_of_ble_eq_true rfl) rfl (fun v9 n9 M9 hp9 => ?_)
        obtain ⟨rfl, rfl, rfl⟩ := hp9
        refine jk_if_eqB (q := 30) (tgt := 58) h dX5_rowsInside_27 (by decide) rfl (fun c27 => ?_) (fun c27 => ?_)
        · refine jk_iinc (q := 61) h dX5_rowsInside_58 rfl rfl rfl rfl ?_
          refine jk_goto (q := 64) (tgt := 6) h dX5_rowsInside_61 (by decide) ?_
          exact jk_weak (jwk_s rfl (jwk_s rfl (jwk_s rfl (jwk_s rfl (jwk_s rfl (jwk_s rfl (jwk_s rfl jwk_0))))))) (ih6 _ (by omega) _ _ (by omega) (by omega) (by first | exact smI_t hi hc (if_pos ⟨by omega, by omega⟩) | exact smI_t0 hi hc (if_neg (by omega))) rfl)
        · refine jk_aload_n (q := 31) h dX5_rowsInside_30 rfl rfl ?_
          refine jk_get (q := 34) h fg_X5_15 dX5_rowsInside_31 (hP.at 0 rfl) rfl rfl ?_
          refine jk_iload (q := 36) h dX5_rowsInside_34 rfl rfl ?_
          refine jk_ialdI (q := 37) h dX5_rowsInside_36 (hP.at 2 rfl) (by omega) (by omega) rfl rfl ?_
          refine jk_iload_n (q := 38) h dX5_rowsInside_37 rfl rfl ?_
          refine jk_iload (q := 40) h dX5_rowsInside_38 rfl rfl ?_
          refine jk_callSN (q := 43) h hX (c_X9_isBetween ⟨by omega, by omega⟩ ⟨by omega, by omega⟩ ⟨by omega, by omega⟩) ms_X9_isBetween dX5_rowsInside_40 ml_X5_43 ⟨rfl, Nat.le_refl _⟩ rfl rfl (Nat.le_of_ble_eq_true rfl) (Nat.le_of_ble_eq_true rfl) rfl rfl (Nat.le_of_ble_eq_true rfl) rfl (fun v9 n9 M9 hp9 => ?_)
          obtain ⟨rfl, rfl, rfl⟩ := hp9
          refine jk_if_eqB (q := 46) (tgt := 58) h dX5_rowsInside_43 (by decide) rfl (fun c43 => ?_) (fun c43 => ?_)
          · refine jk_iinc (q := 61) h dX5_rowsInside_58 rfl rfl rfl rfl ?_
            refine jk_goto (q := 64) (tgt := 6) h dX5_rowsInside_61 (by decide) ?_
            exact jk_weak (jwk_s rfl (jwk_s rfl (jwk_s rfl (jwk_s rfl (jwk_s rfl (jwk_s rfl (jwk_s rfl jwk_0))))))) (ih6 _ (by omega) _ _ (by omega) (by omega) (by first | exact smI_t hi hc (if_pos ⟨by omega, by omega⟩) | exact smI_t0 hi hc (if_neg (by omega))) rfl)
          · refine jk_iload (q := 48) h dX5_rowsInside_46 rfl rfl ?_
            refine jk_aload_n (q := 49) h dX5_rowsInside_48 rfl rfl ?_
            refine jk_get (q := 52) h fg_X5_18 dX5_rowsInside_49 (hP.at 0 rfl) rfl rfl ?_
            refine jk_iload (q := 54) h dX5_rowsInside_52 rfl rfl ?_
            refine jk_ialdI (q := 55) h dX5_rowsInside_54 (hP.at 3 rfl) (by omega) (by omega) rfl rfl ?_
            refine jk_iadd (q := 56) h dX5_rowsInside_55 rfl ?_
            refine jk_istore (q := 58) h dX5_rowsInside_56 rfl (Nat.le_of_ble_eq_true rfl) rfl rfl ?_
            refine jk_iinc (q := 61) h dX5_rowsInside_58 rfl rfl rfl rfl ?_
            refine jk_goto (q := 64) (tgt := 6) h dX5_rowsInside_61 (by decide) ?_
            exact jk_weak (jwk_s rfl (jwk_s rfl (jwk_s rfl (jwk_s rfl (jwk_s rfl (jwk_s rfl (jwk_s rfl jwk_0))))))) (ih6 _ (by omega) _ _ (by omega) (by omega) (by first | exact smI_t hi hc (if_pos ⟨by omega, by omega⟩) | exact smI_t0 hi hc (if_neg (by omega))) rfl)
  exact jk_weak (jwk_s rfl (jwk_s rfl (jwk_s rfl (jwk_s rfl (jwk_s rfl (jwk_s rfl (jwk_s rfl jwk_0))))))) (lp6 _ _ _ (by omega) (by omega) rfl rfl)

set_option maxHeartbeats 4000000 in
set_option maxRecDepth 100000 in
theorem c_X5_copyFrom {l : Launch} {D : va_G} {b0 : Nat} {n : Nat} {M : jM} {c c2 : Nat} {x y : TP} (hP : jPic M c (pfP c x)) (hE : jPic M c2 (pfP c2 y)) (hd : c + 4 ≤ c2 ∨ c2 + 4 ≤ c) : jCtr l D b0 yX5_copyFrom cX5_copyFrom 2 none 1 0 0 [.ref c, .ref c2] n M (fun v n2 M2 => none = v ∧ n = n2 ∧ jPic M2 c (pfP c y) ∧ jout M M2 c 4) := by
  refine jctr (lv := [some (.ref c), some (.ref c2)]) RX5 "copyFrom" rfl rfl (by decide) (Nat.le_of_ble_eq_true rfl) rfl ?_
  intro X h hR hX
  have ho := jout.rf M c 4
  refine jk_aload_n (q := 1) h dX5_copyFrom_0 rfl rfl ?_
  refine jk_get (q := 4) h fg_X5_9 dX5_copyFrom_1 (hE.at 0 rfl) rfl rfl ?_
  refine jk_aload_n (q := 5) h dX5_copyFrom_4 rfl rfl ?_
  refine jk_get (q := 8) h fg_X5_9 dX5_copyFrom_5 (hP.at 0 rfl) rfl rfl ?_
  refine jk_callSN (q := 11) h hX (c_X9_copyNumbers rfl (jPic_c (hE.at 1 rfl)) (jPic_c (hP.at 1 rfl)) (by omega)) ms_X9_copyNumbers dX5_copyFrom_8 ml_X5_47 ⟨rfl, Nat.le_refl _⟩ rfl rfl (Nat.le_of_ble_eq_true rfl) (Nat.le_of_ble_eq_true rfl) rfl rfl (Nat.le_of_ble_eq_true rfl) rfl (fun v9 n9 M_1 hp9 => ?_)
  obtain ⟨rfl, rfl, s_1⟩ := hp9
  have hP := hP.put (i := 1) s_1 rfl
  have hE := hE.other s_1 4 rfl (by omega)
  have ho := ho.st (i := 1) s_1 (by omega)
  refine jk_aload_n (q := 12) h dX5_copyFrom_11 rfl rfl ?_
  refine jk_get (q := 15) h fg_X5_15 dX5_copyFrom_12 (hE.at 0 rfl) rfl rfl ?_
  refine jk_aload_n (q := 16) h dX5_copyFrom_15 rfl rfl ?_
  refine jk_get (q := 19) h fg_X5_15 dX5_copyFrom_16 (hP.at 0 rfl) rfl rfl ?_
  refine jk_callSN (q := 22) h hX (c_X9_copyNumbers rfl (jPic_c (hE.at 2 rfl)) (jPic_c (hP.at 2 rfl)) (by omega)) ms_X9_copyNumbers dX5_copyFrom_19 ml_X5_47 ⟨rfl, Nat.le_refl _⟩ rfl rfl (Nat.le_of_ble_eq_true rfl) (Nat.le_of_ble_eq_true rfl) rfl rfl (Nat.le_of_ble_eq_true rfl) rfl (fun v9 n9 M_2 hp9 => ?_)
  obtain ⟨rfl, rfl, s_2⟩ := hp9
  have hP := hP.put (i := 2) s_2 rfl
  have hE := hE.other s_2 4 rfl (by omega)
  have ho := ho.st (i := 2) s_2 (by omega)
  refine jk_aload_n (q := 23) h dX5_copyFrom_22 rfl rfl ?_
  refine jk_get (q := 26) h fg_X5_18 dX5_copyFrom_23 (hE.at 0 rfl) rfl rfl ?_
  refine jk_aload_n (q := 27) h dX5_copyFrom_26 rfl rfl ?_
  refine jk_get (q := 30) h fg_X5_18 dX5_copyFrom_27 (hP.at 0 rfl) rfl rfl ?_
  refine jk_callSN (q := 33) h hX (c_X9_copyNumbers rfl (jPic_c (hE.at 3 rfl)) (jPic_c (hP.at 3 rfl)) (by omega)) ms_X9_copyNumbers dX5_copyFrom_30 ml_X5_47 ⟨rfl, Nat.le_refl _⟩ rfl rfl (Nat.le_of_ble_eq_true rfl) (Nat.le_of_ble_eq_true rfl) rfl rfl (Nat.le_of_ble_eq_true rfl) rfl (fun v9 n9 M_3 hp9 => ?_)
  obtain ⟨rfl, rfl, s_3⟩ := hp9
  have hP := hP.put (i := 3) s_3 rfl
  have hE := hE.other s_3 4 rfl (by omega)
  have ho := ho.st (i := 3) s_3 (by omega)
  refine jk_aload_n (q := 34) h dX5_copyFrom_33 rfl rfl ?_
  refine jk_aload_n (q := 35) h dX5_copyFrom_34 rfl rfl ?_
  refine jk_get (q := 38) h fg_X5_21 dX5_copyFrom_35 (hE.at 0 rfl) rfl rfl ?_
  refine jk_put (q := 41) h (fp_X5_21 _) dX5_copyFrom_38 (hP.at 0 rfl) (Nat.le_of_ble_eq_true rfl) rfl (fun M_4 s_4 => ?_)
  have hP := hP.put (i := 0) s_4 rfl
  have hE := hE.other s_4 4 rfl (by omega)
  have ho := ho.st (i := 0) s_4 (by omega)
  exact jk_vret h hR dX5_copyFrom_41 (Nat.le_of_ble_eq_true rfl) (Nat.le_of_ble_eq_true rfl) ⟨rfl, rfl, hP, ho⟩

abbrev cf0 : TC := (jz, jz, jz, 0, jz, jz, jz, jz, 0)
abbrev pf0 : TP := (jz, jz, jz, 0)

set_option maxHeartbeats 4000000 in
set_option maxRecDepth 100000 in
theorem c_X0_init {l : Launch} {D : va_G} {b0 : Nat} {M : jM} {a : Nat} (hN : jPic M a [oB 0 [.null, .null, .null, jI 0, jI 0]]) : jCtr l D b0 yX0_init cX0_init 1 none 2 20 344 [.ref a] (a + 1) M (fun v n2 M2 => none = v ∧ a + 21 = n2 ∧ jPic M2 a (anL a 0 0) ∧ jPic M2 (a + 1) (cfP (a + 1) cf0) ∧ jPic M2 (a + 9) (cfP (a + 9) cf0) ∧ jPic M2 (a + 17) (pfP (a + 17) pf0) ∧ jout M M2 a 21) := by
  refine jctr (lv := [some (.ref a)]) RX0 "<init>" rfl rfl (by decide) (Nat.le_of_ble_eq_true rfl) rfl ?_
  intro X h hR hX
  have ho := jout.rf M a 21
  refine jk_aload_n (q := 1) h dX0_init_0 rfl rfl ?_
  refine jk_objInit (q := 4) h dX0_init_1 ml_X0_3 ko_i ko_c (Nat.le_of_ble_eq_true rfl) (Nat.le_of_ble_eq_true rfl) rfl ?_
  refine jk_aload_n (q := 5) h dX0_init_4 rfl rfl ?_
  refine jk_new (q := 8) h nw_X0_9 dX0_init_5 (Nat.le_of_ble_eq_true rfl) (Nat.le_of_ble_eq_true rfl) rfl (fun M_1 s_1 => ?_)
  have hN := hN.other s_1 1 rfl (by omega)
  have hA := jPic.one s_1
  have ho := ho.tr (jst.out s_1) (by omega) (by omega)
  refine jk_dup (q := 9) h dX0_init_8 rfl rfl ?_
  refine jk_callIN (q := 12) h hX (c_X2_init hA) mi_X2_init dX0_init_9 ml_X0_11 ⟨rfl, Nat.le_refl _⟩ rfl rfl (Nat.le_of_ble_eq_true rfl) (Nat.le_of_ble_eq_true rfl) rfl rfl (Nat.le_of_ble_eq_true rfl) rfl (fun v9 n9 M_2 hp9 => ?_)
  obtain ⟨rfl, rfl, hA, o_2⟩ := hp9
  have hN := hN.keep o_2 1 rfl (by omega)
  have ho := ho.tr o_2 (by omega) (by omega)
  refine jk_putF (q := 15) h (fp_X0_12 _) dX0_init_12 rfl fd_X0_0 (hN.at 0 rfl) (Nat.le_of_ble_eq_true rfl) rfl (fun M_3 s_3 => ?_)
  have hN := hN.put (i := 0) s_3 rfl
  have hA := hA.other s_3 8 rfl (by omega)
  have ho := ho.st (i := 0) s_3 (by omega)
  refine jk_aload_n (q := 16) h dX0_init_15 rfl rfl ?_
  refine jk_new (q := 19) h nw_X0_9 dX0_init_16 (Nat.le_of_ble_eq_true rfl) (Nat.le_of_ble_eq_true rfl) rfl (fun M_4 s_4 => ?_)
  have hN := hN.other s_4 1 rfl (by omega)
  have hA := hA.other s_4 8 rfl (by omega)
  have hB := jPic.one s_4
  have ho := ho.tr (jst.out s_4) (by omega) (by omega)
  refine jk_dup (q := 20) h dX0_init_19 rfl rfl ?_
  refine jk_callIN (q := 23) h hX (c_X2_init hB) mi_X2_init dX0_init_20 ml_X0_11 ⟨rfl, Nat.le_refl _⟩ rfl rfl (Nat.le_of_ble_eq_true rfl) (Nat.le_of_ble_eq_true rfl) rfl rfl (Nat.le_of_ble_eq_true rfl) rfl (fun v9 n9 M_5 hp9 => ?_)
  obtain ⟨rfl, rfl, hB, o_5⟩ := hp9
  have hN := hN.keep o_5 1 rfl (by omega)
  have hA := hA.keep o_5 8 rfl (by omega)
  have ho := ho.tr o_5 (by omega) (by omega)
  refine jk_putF (q := 26) h (fp_X0_18 _) dX0_init_23 rfl fd_X0_1 (hN.at 0 rfl) (Nat.le_of_ble_eq_true rfl) rfl (fun M_6 s_6 => ?_)
  have hN := hN.put (i := 0) s_6 rfl
  have hA := hA.other s_6 8 rfl (by omega)
  have hB := hB.other s_6 8 rfl (by omega)
  have ho := ho.st (i := 0) s_6 (by omega)
  refine jk_aload_n (q := 27) h dX0_init_26 rfl rfl ?_
  refine jk_new (q := 30) h nw_X0_21 dX0_init_27 (Nat.le_of_ble_eq_true rfl) (Nat.le_of_ble_eq_true rfl) rfl (fun M_7 s_7 => ?_)
  have hN := hN.other s_7 1 rfl (by omega)
  have hA := hA.other s_7 8 rfl (by omega)
  have hB := hB.other s_7 8 rfl (by omega)
  have hP := jPic.one s_7
  have ho := ho.tr (jst.out s_7) (by omega) (by omega)
  refine jk_dup (q := 31) h dX0_init_30 rfl rfl ?_
  refine jk_callIN (q := 34) h hX (c_X5_init hP) mi_X5_init dX0_init_31 ml_X0_23 ⟨rfl, Nat.le_refl _⟩ rfl rfl (Nat.le_of_ble_eq_true rfl) (Nat.le_of_ble_eq_true rfl) rfl rfl (Nat.le_of_ble_eq_true rfl) rfl (fun v9 n9 M_8 hp9 => ?_)
  obtain ⟨rfl, rfl, hP, o_8⟩ := hp9
  have hN := hN.keep o_8 1 rfl (by omega)
  have hA := hA.keep o_8 8 rfl (by omega)
  have hB := hB.keep o_8 8 rfl (by omega)
  have ho := ho.tr o_8 (by omega) (by omega)
  refine jk_putF (q := 37) h (fp_X0_24 _) dX0_init_34 rfl fd_X0_2 (hN.at 0 rfl) (Nat.le_of_ble_eq_true rfl) rfl (fun M_9 s_9 => ?_)
  have hN := hN.put (i := 0) s_9 rfl
  have hA := hA.other s_9 8 rfl (by omega)
  have hB := hB.other s_9 8 rfl (by omega)
  have hP := hP.other s_9 4 rfl (by omega)
  have ho := ho.st (i := 0) s_9 (by omega)
  exact jk_vret h hR dX0_init_37 (Nat.le_of_ble_eq_true rfl) (Nat.le_of_ble_eq_true rfl) ⟨rfl, rfl, hN, hA, hB, hP, ho⟩

set_option maxHeartbeats 4000000 in
set_option maxRecDepth 100000 in
theorem c_X0_isMade {l : Launch} {D : va_G} {b0 : Nat} {n : Nat} {M : jM} {a : Nat} {rows ch : Int} (hN : jPic M a (anL a rows ch)) (hr : 0 ≤ rows ∧ rows ≤ 60) (hch : 0 ≤ ch ∧ ch ≤ 10000000) : jCtr l D b0 yX0_isMade cX0_isMade 1 (some .boolean) 0 0 0 [.ref a] n M (jrd n M (if 0 < rows then 1 else 0)) := by
  refine jctr (lv := [some (.ref a)]) RX0 "isMade" rfl rfl (by decide) (Nat.le_of_ble_eq_true rfl) rfl ?_
  intro X h hR hX
  refine jk_aload_n (q := 1) h dX0_isMade_0 rfl rfl ?_
  refine jk_get (q := 4) h fg_X0_28 dX0_isMade_1 (hN.at 0 rfl) rfl rfl ?_
  refine jk_if_le (q := 7) (tgt := 11) h dX0_isMade_4 (by decide) rfl ⟨by omega, by omega⟩ (fun c4 => ?_) (fun c4 => ?_)
  · refine jk_iconst (q := 12) h dX0_isMade_11 rfl ?_
    exact jk_zret h hR dX0_isMade_12 (Nat.le_of_ble_eq_true rfl) (Nat.le_of_ble_eq_true rfl) (by first | exact Or.inl rfl | exact Or.inr rfl | omega) (jrd_of (by first | rfl | exact (if_pos (by omega)).symm | exact if_pos (by omega) | exact if_neg (by omega)))
  · refine jk_iconst (q := 8) h dX0_isMade_7 rfl ?_
    refine jk_goto (q := 11) (tgt := 12) h dX0_isMade_8 (by decide) ?_
    exact jk_zret h hR dX0_isMade_12 (Nat.le_of_ble_eq_true rfl) (Nat.le_of_ble_eq_true rfl) (by first | exact Or.inl rfl | exact Or.inr rfl | omega) (jrd_of (by first | rfl | exact (if_pos (by omega)).symm | exact if_pos (by omega) | exact if_neg (by omega)))

set_option maxHeartbeats 4000000 in
set_option maxRecDepth 100000 in
theorem c_X0_facts {l : Launch} {D : va_G} {b0 : Nat} {n : Nat} {M : jM} {a : Nat} {rows ch q : Int} (hN : jPic M a (anL a rows ch)) (hq : jRng q) : jCtr l D b0 yX0_facts cX0_facts 2 (some (.object "EqualHeights$ColumnFacts")) 0 0 0 [.ref a, jI q] n M (fun v n2 M2 => some (.ref (if q = 0 then a + 1 else a + 9)) = v ∧ n = n2 ∧ M = M2) := by
  refine jctr (lv := [some (.ref a), some (jI q)]) RX0 "facts" rfl rfl (by decide) (Nat.le_of_ble_eq_true rfl) rfl ?_
  intro X h hR hX
  refine jk_iload_n (q := 1) h dX0_facts_0 rfl rfl ?_
  refine jk_if_ne (q := 4) (tgt := 11) h dX0_facts_1 (by decide) rfl ⟨by omega, by omega⟩ (fun c1 => ?_) (fun c1 => ?_)
  · refine jk_aload_n (q := 12) h dX0_facts_11 rfl rfl ?_
    refine jk_get (q := 15) h fg_X0_18 dX0_facts_12 (hN.at 0 rfl) rfl rfl ?_
    exact jk_aret h hR dX0_facts_15 (Nat.le_of_ble_eq_true rfl) (Nat.le_of_ble_eq_true rfl) ⟨by first | rw [if_pos (by omega)] | rw [if_neg (by omega)], rfl, rfl⟩
  · refine jk_aload_n (q := 5) h dX0_facts_4 rfl rfl ?_
    refine jk_get (q := 8) h fg_X0_12 dX0_facts_5 (hN.at 0 rfl) rfl rfl ?_
    refine jk_goto (q := 11) (tgt := 15) h dX0_facts_8 (by decide) ?_
    exact jk_aret h hR dX0_facts_15 (Nat.le_of_ble_eq_true rfl) (Nat.le_of_ble_eq_true rfl) ⟨by first | rw [if_pos (by omega)] | rw [if_neg (by omega)], rfl, rfl⟩

set_option maxHeartbeats 4000000 in
set_option maxRecDepth 100000 in
theorem c_X0_noteChange {l : Launch} {D : va_G} {b0 : Nat} {n : Nat} {M : jM} {a : Nat} {rows ch : Int} (hN : jPic M a (anL a rows ch)) (hr : 0 ≤ rows ∧ rows ≤ 60) (hch : 0 ≤ ch ∧ ch ≤ 10000000) : jCtr l D b0 yX0_noteChange cX0_noteChange 1 none 1 0 0 [.ref a] n M (fun v n2 M2 => none = v ∧ n = n2 ∧ jPic M2 a (anL a rows (if 0 < rows then ch + 1 else ch)) ∧ jout M M2 a 1) := by
  refine jctr (lv := [some (.ref a)]) RX0 "noteChange" rfl rfl (by decide) (Nat.le_of_ble_eq_true rfl) rfl ?_
  intro X h hR hX
  have ho := jout.rf M a 1
  refine jk_aload_n (q := 1) h dX0_noteChange_0 rfl rfl ?_
  refine jk_callV (q := 4) h hX (c_X0_isMade hN hr hch) mv_X0_isMade (hN.at 0 rfl) dX0_noteChange_1 ml_X0_47 ⟨rfl, Nat.le_refl _⟩ rfl rfl (Nat.le_of_ble_eq_true rfl) (Nat.le_of_ble_eq_true rfl) rfl rfl (Nat.le_of_ble_eq_true rfl) rfl (fun v9 n9 M9 hp9 => ?_)
  obtain ⟨rfl, rfl, rfl⟩ := hp9
  refine jk_if_eqB (q := 7) (tgt := 17) h dX0_noteChange_4 (by decide) rfl (fun c4 => ?_) (fun c4 => ?_)
  · exact jk_vret h hR dX0_noteChange_17 (Nat.le_of_ble_eq_true rfl) (Nat.le_of_ble_eq_true rfl) ⟨rfl, rfl, by first | (rw [if_pos (by omega)]; exact hN) | (rw [if_neg (by omega)]; exact hN), ho⟩
  · refine jk_aload_n (q := 8) h dX0_noteChange_7 rfl rfl ?_
    refine jk_dup (q := 9) h dX0_noteChange_8 rfl rfl ?_
    refine jk_get (q := 12) h fg_X0_44 dX0_noteChange_9 (hN.at 0 rfl) rfl rfl ?_
    refine jk_iconst (q := 13) h dX0_noteChange_12 rfl ?_
    refine jk_iadd (q := 14) h dX0_noteChange_13 rfl ?_
    refine jk_put (q := 17) h (fp_X0_44 _) dX0_noteChange_14 (hN.at 0 rfl) (Nat.le_of_ble_eq_true rfl) rfl (fun M_1 s_1 => ?_)
    have hN := hN.put (i := 0) s_1 rfl
    have ho := ho.st (i := 0) s_1 (by omega)
    exact jk_vret h hR dX0_noteChange_17 (Nat.le_of_ble_eq_true rfl) (Nat.le_of_ble_eq_true rfl) ⟨rfl, rfl, by first | (rw [if_pos (by omega)]; exact hN) | (rw [if_neg (by omega)]; exact hN), ho⟩

set_option maxHeartbeats 4000000 in
set_option maxRecDepth 100000 in
theorem c_X0_isStale {l : Launch} {D : va_G} {b0 : Nat} {n : Nat} {M : jM} {a : Nat} {rows ch : Int} (hN : jPic M a (anL a rows ch)) (hr : 0 ≤ rows ∧ rows ≤ 60) (hch : 0 ≤ ch ∧ ch ≤ 10000000) {q : Int} (hq : 0 ≤ q ∧ q ≤ 100) : jCtr l D b0 yX0_isStale cX0_isStale 2 (some .boolean) 0 0 0 [.ref a, jI q] n M (jrd n M (if q * rows < 100 * ch then 1 else 0)) := by
  refine jctr (lv := [some (.ref a), some (jI q)]) RX0 "isStale" rfl rfl (by decide) (Nat.le_of_ble_eq_true rfl) rfl ?_
  intro X h hR hX
  have hm := jmulb hq.1 hq.2 hr.1 hr.2
  refine jk_bipush (q := 2) h dX0_isStale_0 (by decide) rfl ?_
  refine jk_aload_n (q := 3) h dX0_isStale_2 rfl rfl ?_
  refine jk_get (q := 6) h fg_X0_44 dX0_isStale_3 (hN.at 0 rfl) rfl rfl ?_
  refine jk_imul (q := 7) h dX0_isStale_6 rfl ?_
  refine jk_iload_n (q := 8) h dX0_isStale_7 rfl rfl ?_
  refine jk_aload_n (q := 9) h dX0_isStale_8 rfl rfl ?_
  refine jk_get (q := 12) h fg_X0_28 dX0_isStale_9 (hN.at 0 rfl) rfl rfl ?_
  refine jk_imul (q := 13) h dX0_isStale_12 rfl ?_
  refine jk_icmp_le (q := 16) (tgt := 20) h dX0_isStale_13 (by decide) rfl ⟨by omega, by omega⟩ ⟨by omega, by omega⟩ (fun c13 => ?_) (fun c13 => ?_)
  · refine jk_iconst (q := 21) h dX0_isStale_20 rfl ?_
    exact jk_zret h hR dX0_isStale_21 (Nat.le_of_ble_eq_true rfl) (Nat.le_of_ble_eq_true rfl) (by first | exact Or.inl rfl | exact Or.inr rfl | omega) (jrd_of (by first | rfl | exact (if_pos (by omega)).symm | exact if_pos (by omega) | exact if_neg (by omega)))
  · refine jk_iconst (q := 17) h dX0_isStale_16 rfl ?_
    refine jk_goto (q := 20) (tgt := 21) h dX0_isStale_17 (by decide) ?_
    exact jk_zret h hR dX0_isStale_21 (Nat.le_of_ble_eq_true rfl) (Nat.le_of_ble_eq_true rfl) (by first | exact Or.inl rfl | exact Or.inr rfl | omega) (jrd_of (by first | rfl | exact (if_pos (by omega)).symm | exact if_pos (by omega) | exact if_neg (by omega)))

set_option maxHeartbeats 4000000 in
set_option maxRecDepth 100000 in
theorem c_X0_guessBoth {l : Launch} {D : va_G} {b0 : Nat} {n : Nat} {M : jM} {a : Nat} {rows ch : Int} {A B : TC} {p : TP} (hN : jPic M a (anL a rows ch)) (hA : jPic M (a + 1) (cfP (a + 1) A)) (hB : jPic M (a + 9) (cfP (a + 9) B)) (hP : jPic M (a + 17) (pfP (a + 17) p)) (hr : 0 ≤ rows ∧ rows ≤ 60) (hOA : cfQ A) (hOB : cfQ B) (hOP : pfQ p) {la ha lb hb : Int} (h1 : 0 ≤ la ∧ la ≤ 99) (h2 : 0 ≤ ha ∧ ha ≤ 99) (h3 : 0 ≤ lb ∧ lb ≤ 99) (h4 : 0 ≤ hb ∧ hb ≤ 99) : jCtr l D b0 yX0_guessBoth cX0_guessBoth 11 (some .int) 3 0 0 [.ref a, jI la, jI ha, jI lb, jI hb] n M (jrd n M (gbT rows A B p la ha lb hb)) := by
  refine jctr (lv := [some (.ref a), some (jI la), some (jI ha), some (jI lb), some (jI hb), none, none, none, none, none, none]) RX0 "guessBoth" rfl rfl (by decide) (Nat.le_of_ble_eq_true rfl) rfl ?_
  intro X h hR hX
  have q1 := gsS_bd (low := la) (high := ha) hOA
  have q2 := gsS_bd (low := lb) (high := hb) hOB
  have q3 := prS_bd (la := la) (ha := ha) (lb := lb) (hb := hb) hOP
  have q4 := prS_bd (la := la) (ha := ha) (lb := 0) (hb := 99) hOP
  have q5 := prS_bd (la := 0) (ha := 99) (lb := lb) (hb := hb) hOP
  have q6 := prS_bd (la := 0) (ha := 99) (lb := 0) (hb := 99) hOP
  refine jk_aload_n (q := 1) h dX0_guessBoth_0 rfl rfl ?_
  refine jk_get (q := 4) h fg_X0_24 dX0_guessBoth_1 (hN.at 0 rfl) rfl rfl ?_
  refine jk_iload_n (q := 5) h dX0_guessBoth_4 rfl rfl ?_
  refine jk_iload_n (q := 6) h dX0_guessBoth_5 rfl rfl ?_
  refine jk_iload_n (q := 7) h dX0_guessBoth_6 rfl rfl ?_
  refine jk_iload (q := 9) h dX0_guessBoth_7 rfl rfl ?_
  refine jk_callV (q := 12) h hX (c_X5_rowsInside hP hOP ⟨by omega, by omega⟩ ⟨by omega, by omega⟩ ⟨by omega, by omega⟩ ⟨by omega, by omega⟩) mv_X5_rowsInside (hP.at 0 rfl) dX0_guessBoth_9 ml_X0_51 ⟨rfl, Nat.le_refl _⟩ rfl rfl (Nat.le_of_ble_eq_true rfl) (Nat.le_of_ble_eq_true rfl) rfl rfl (Nat.le_of_ble_eq_true rfl) rfl (fun v9 n9 M9 hp9 => ?_)
  obtain ⟨rfl, rfl, rfl⟩ := hp9
  refine jk_istore (q := 14) h dX0_guessBoth_12 rfl (Nat.le_of_ble_eq_true rfl) rfl rfl ?_
  refine jk_aload_n (q := 15) h dX0_guessBoth_14 rfl rfl ?_
  refine jk_get (q := 18) h fg_X0_28 dX0_guessBoth_15 (hN.at 0 rfl) rfl rfl ?_
  refine jk_aload_n (q := 19) h dX0_guessBoth_18 rfl rfl ?_
  refine jk_get (q := 22) h fg_X0_24 dX0_guessBoth_19 (hN.at 0 rfl) rfl rfl ?_
  refine jk_iconst (q := 23) h dX0_guessBoth_22 rfl ?_
  refine jk_bipush (q := 25) h dX0_guessBoth_23 (by decide) rfl ?_
  refine jk_iconst (q := 26) h dX0_guessBoth_25 rfl ?_
  refine jk_bipush (q := 28) h dX0_guessBoth_26 (by decide) rfl ?_
  refine jk_callV (q := 31) h hX (c_X5_rowsInside hP hOP ⟨by omega, by omega⟩ ⟨by omega, by omega⟩ ⟨by omega, by omega⟩ ⟨by omega, by omega⟩) mv_X5_rowsInside (hP.at 0 rfl) dX0_guessBoth_28 ml_X0_51 ⟨rfl, Nat.le_refl _⟩ rfl rfl (Nat.le_of_ble_eq_true rfl) (Nat.le_of_ble_eq_true rfl) rfl rfl (Nat.le_of_ble_eq_true rfl) rfl (fun v9 n9 M9 hp9 => ?_)
  obtain ⟨rfl, rfl, rfl⟩ := hp9
  refine jk_isub (q := 32) h dX0_guessBoth_31 rfl ?_
  refine jk_istore (q := 34) h dX0_guessBoth_32 rfl (Nat.le_of_ble_eq_true rfl) rfl rfl ?_
  refine jk_iload (q := 36) h dX0_guessBoth_34 rfl rfl ?_
  refine jk_if_gt (q := 39) (tgt := 42) h dX0_guessBoth_36 (by decide) rfl ⟨by omega, by omega⟩ (fun c36 => ?_) (fun c36 => ?_)
  · refine jk_aload_n (q := 43) h dX0_guessBoth_42 rfl rfl ?_
    refine jk_get (q := 46) h fg_X0_24 dX0_guessBoth_43 (hN.at 0 rfl) rfl rfl ?_
    refine jk_iload_n (q := 47) h dX0_guessBoth_46 rfl rfl ?_
    refine jk_iload_n (q := 48) h dX0_guessBoth_47 rfl rfl ?_
    refine jk_iconst (q := 49) h dX0_guessBoth_48 rfl ?_
    refine jk_bipush (q := 51) h dX0_guessBoth_49 (by decide) rfl ?_
    refine jk_callV (q := 54) h hX (c_X5_rowsInside hP hOP ⟨by omega, by omega⟩ ⟨by omega, by omega⟩ ⟨by omega, by omega⟩ ⟨by omega, by omega⟩) mv_X5_rowsInside (hP.at 0 rfl) dX0_guessBoth_51 ml_X0_51 ⟨rfl, Nat.le_refl _⟩ rfl rfl (Nat.le_of_ble_eq_true rfl) (Nat.le_of_ble_eq_true rfl) rfl rfl (Nat.le_of_ble_eq_true rfl) rfl (fun v9 n9 M9 hp9 => ?_)
    obtain ⟨rfl, rfl, rfl⟩ := hp9
    refine jk_istore (q := 56) h dX0_guessBoth_54 rfl (Nat.le_of_ble_eq_true rfl) rfl rfl ?_
    refine jk_aload_n (q := 57) h dX0_guessBoth_56 rfl rfl ?_
    refine jk_get (q := 60) h fg_X0_24 dX0_guessBoth_57 (hN.at 0 rfl) rfl rfl ?_
    refine jk_iconst (q := 61) h dX0_guessBoth_60 rfl ?_
    refine jk_bipush (q := 63) h dX0_guessBoth_61 (by decide) rfl ?_
    refine jk_iload_n (q := 64) h dX0_guessBoth_63 rfl rfl ?_
    refine jk_iload (q := 66) h dX0_guessBoth_64 rfl rfl ?_
    refine jk_callV (q := 69) h hX (c_X5_rowsInside hP hOP ⟨by omega, by omega⟩ ⟨by omega, by omega⟩ ⟨by omega, by omega⟩ ⟨by omega, by omega⟩) mv_X5_rowsInside (hP.at 0 rfl) dX0_guessBoth_66 ml_X0_51 ⟨rfl, Nat.le_refl _⟩ rfl rfl (Nat.le_of_ble_eq_true rfl) (Nat.le_of_ble_eq_true rfl) rfl rfl (Nat.le_of_ble_eq_true rfl) rfl (fun v9 n9 M9 hp9 => ?_)
    obtain ⟨rfl, rfl, rfl⟩ := hp9
    refine jk_istore (q := 71) h dX0_guessBoth_69 rfl (Nat.le_of_ble_eq_true rfl) rfl rfl ?_
    refine jk_aload_n (q := 72) h dX0_guessBoth_71 rfl rfl ?_
    refine jk_get (q := 75) h fg_X0_12 dX0_guessBoth_72 (hN.at 0 rfl) rfl rfl ?_
    refine jk_iload_n (q := 76) h dX0_guessBoth_75 rfl rfl ?_
    refine jk_iload_n (q := 77) h dX0_guessBoth_76 rfl rfl ?_
    refine jk_callV (q := 80) h hX (c_X2_guess hA hOA ⟨by omega, by omega⟩ ⟨by omega, by omega⟩) mv_X2_guess (hA.at 0 rfl) dX0_guessBoth_77 ml_X0_55 ⟨rfl, Nat.le_refl _⟩ rfl rfl (Nat.le_of_ble_eq_true rfl) (Nat.le_of_ble_eq_true rfl) rfl rfl (Nat.le_of_ble_eq_true rfl) rfl (fun v9 n9 M9 hp9 => ?_)
    obtain ⟨rfl, rfl, rfl⟩ := hp9
    refine jk_iload (q := 82) h dX0_guessBoth_80 rfl rfl ?_
    refine jk_isub (q := 83) h dX0_guessBoth_82 rfl ?_
    refine jk_iconst (q := 84) h dX0_guessBoth_83 rfl ?_
    refine jk_mmax (q := 87) h dX0_guessBoth_84 ml_X0_59 km_max_s km_i km_max_c (Nat.le_of_ble_eq_true rfl) (Nat.le_of_ble_eq_true rfl) (Nat.le_of_ble_eq_true rfl) (Nat.le_of_ble_eq_true rfl) ⟨by omega, by omega⟩ ⟨by omega, by omega⟩ rfl ?_
    refine jk_name (fun ea hea => ?_)
    have hea2 : 0 ≤ ea ∧ ea ≤ 960 := by { rw [hea]; split <;> omega }
    refine jk_istore (q := 89) h dX0_guessBoth_87 rfl (Nat.le_of_ble_eq_true rfl) rfl rfl ?_
    refine jk_aload_n (q := 90) h dX0_guessBoth_89 rfl rfl ?_
    refine jk_get (q := 93) h fg_X0_18 dX0_guessBoth_90 (hN.at 0 rfl) rfl rfl ?_
    refine jk_iload_n (q := 94) h dX0_guessBoth_93 rfl rfl ?_
    refine jk_iload (q := 96) h dX0_guessBoth_94 rfl rfl ?_
    refine jk_callV (q := 99) h hX (c_X2_guess hB hOB ⟨by omega, by omega⟩ ⟨by omega, by omega⟩) mv_X2_guess (hB.at 0 rfl) dX0_guessBoth_96 ml_X0_55 ⟨rfl, Nat.le_refl _⟩ rfl rfl (Nat.le_of_ble_eq_true rfl) (Nat.le_of_ble_eq_true rfl) rfl rfl (Nat.le_of_ble_eq_true rfl) rfl (fun v9 n9 M9 hp9 => ?_)
    obtain ⟨rfl, rfl, rfl⟩ := hp9
    refine jk_iload (q := 101) h dX0_guessBoth_99 rfl rfl ?_
    refine jk_isub (q := 102) h dX0_guessBoth_101 rfl ?_
    refine jk_iconst (q := 103) h dX0_guessBoth_102 rfl ?_
    refine jk_mmax (q := 106) h dX0_guessBoth_103 ml_X0_59 km_max_s km_i km_max_c (Nat.le_of_ble_eq_true rfl) (Nat.le_of_ble_eq_true rfl) (Nat.le_of_ble_eq_true rfl) (Nat.le_of_ble_eq_true rfl) ⟨by omega, by omega⟩ ⟨by omega, by omega⟩ rfl ?_
    refine jk_name (fun eb heb => ?_)
    have heb2 : 0 ≤ eb ∧ eb ≤ 960 := by { rw [heb]; split <;> omega }
    refine jk_istore (q := 108) h dX0_guessBoth_106 rfl (Nat.le_of_ble_eq_true rfl) rfl rfl ?_
    refine jk_iload (q := 110) h dX0_guessBoth_108 rfl rfl ?_
    refine jk_iload (q := 112) h dX0_guessBoth_110 rfl rfl ?_
    refine jk_iload (q := 114) h dX0_guessBoth_112 rfl rfl ?_
    refine jk_imul (q := 115) h dX0_guessBoth_114 rfl ?_
    refine jk_iload (q := 117) h dX0_guessBoth_115 rfl rfl ?_
    refine jk_idiv (q := 118) h dX0_guessBoth_117 (jmulb hea2.1 hea2.2 heb2.1 heb2.2).1 (by have := (jmulb hea2.1 hea2.2 heb2.1 heb2.2).2; omega) (by omega) (by omega) rfl ?_
    refine jk_iadd (q := 119) h dX0_guessBoth_118 rfl ?_
    exact jk_iret h hR dX0_guessBoth_119 (Nat.le_of_ble_eq_true rfl) (Nat.le_of_ble_eq_true rfl) (jrd_of (by rw [hea, heb]; exact if_pos (by omega)))
  · refine jk_iload (q := 41) h dX0_guessBoth_39 rfl rfl ?_
    exact jk_iret h hR dX0_guessBoth_41 (Nat.le_of_ble_eq_true rfl) (Nat.le_of_ble_eq_true rfl) (jrd_of (if_neg (by omega)))

set_option maxHeartbeats 4000000 in
set_option maxRecDepth 100000 in
theorem c_X0_copyFrom {l : Launch} {D : va_G} {b0 : Nat} {n : Nat} {M : jM} {a a2 : Nat} {rows ch rows2 ch2 : Int} {A B A2 B2 : TC} {p p2 : TP} (hN : jPic M a (anL a rows ch)) (hA : jPic M (a + 1) (cfP (a + 1) A)) (hB : jPic M (a + 9) (cfP (a + 9) B)) (hP : jPic M (a + 17) (pfP (a + 17) p)) (hN2 : jPic M a2 (anL a2 rows2 ch2)) (hA2 : jPic M (a2 + 1) (cfP (a2 + 1) A2)) (hB2 : jPic M (a2 + 9) (cfP (a2 + 9) B2)) (hP2 : jPic M (a2 + 17) (pfP (a2 + 17) p2)) (hd : a + 21 ≤ a2 ∨ a2 + 21 ≤ a) : jCtr l D b0 yX0_copyFrom cX0_copyFrom 2 none 2 0 0 [.ref a, .ref a2] n M (fun v n2 M2 => none = v ∧ n = n2 ∧ jPic M2 a (anL a rows2 ch2) ∧ jPic M2 (a + 1) (cfP (a + 1) A2) ∧ jPic M2 (a + 9) (cfP (a + 9) B2) ∧ jPic M2 (a + 17) (pfP (a + 17) p2) ∧ jout M M2 a 21) := by
  refine jctr (lv := [some (.ref a), some (.ref a2)]) RX0 "copyFrom" rfl rfl (by decide) (Nat.le_of_ble_eq_true rfl) rfl ?_
  intro X h hR hX
  have ho := jout.rf M a 21
  refine jk_aload_n (q := 1) h dX0_copyFrom_0 rfl rfl ?_
  refine jk_get (q := 4) h fg_X0_12 dX0_copyFrom_1 (hN.at 0 rfl) rfl rfl ?_
  refine jk_aload_n (q := 5) h dX0_copyFrom_4 rfl rfl ?_
  refine jk_get (q := 8) h fg_X0_12 dX0_copyFrom_5 (hN2.at 0 rfl) rfl rfl ?_
  refine jk_callV (q := 11) h hX (c_X2_copyFrom hA hA2 (by omega)) mv_X2_copyFrom (hA.at 0 rfl) dX0_copyFrom_8 ml_X0_64 ⟨rfl, Nat.le_refl _⟩ rfl rfl (Nat.le_of_ble_eq_true rfl) (Nat.le_of_ble_eq_true rfl) rfl rfl (Nat.le_of_ble_eq_true rfl) rfl (fun v9 n9 M_1 hp9 => ?_)
  obtain ⟨rfl, rfl, hA, o_1⟩ := hp9
  have hN := hN.keep o_1 1 rfl (by omega)
  have hB := hB.keep o_1 8 rfl (by omega)
  have hP := hP.keep o_1 4 rfl (by omega)
  have hN2 := hN2.keep o_1 1 rfl (by omega)
  have hA2 := hA2.keep o_1 8 rfl (by omega)
  have hB2 := hB2.keep o_1 8 rfl (by omega)
  have hP2 := hP2.keep o_1 4 rfl (by omega)
  have ho := ho.tr o_1 (by omega) (by omega)
  refine jk_aload_n (q := 12) h dX0_copyFrom_11 rfl rfl ?_
  refine jk_get (q := 15) h fg_X0_18 dX0_copyFrom_12 (hN.at 0 rfl) rfl rfl ?_
  refine jk_aload_n (q := 16) h dX0_copyFrom_15 rfl rfl ?_
  refine jk_get (q := 19) h fg_X0_18 dX0_copyFrom_16 (hN2.at 0 rfl) rfl rfl ?_
  refine jk_callV (q := 22) h hX (c_X2_copyFrom hB hB2 (by omega)) mv_X2_copyFrom (hB.at 0 rfl) dX0_copyFrom_19 ml_X0_64 ⟨rfl, Nat.le_refl _⟩ rfl rfl (Nat.le_of_ble_eq_true rfl) (Nat.le_of_ble_eq_true rfl) rfl rfl (Nat.le_of_ble_eq_true rfl) rfl (fun v9 n9 M_2 hp9 => ?_)
  obtain ⟨rfl, rfl, hB, o_2⟩ := hp9
  have hN := hN.keep o_2 1 rfl (by omega)
  have hA := hA.keep o_2 8 rfl (by omega)
  have hP := hP.keep o_2 4 rfl (by omega)
  have hN2 := hN2.keep o_2 1 rfl (by omega)
  have hA2 := hA2.keep o_2 8 rfl (by omega)
  have hB2 := hB2.keep o_2 8 rfl (by omega)
  have hP2 := hP2.keep o_2 4 rfl (by omega)
  have ho := ho.tr o_2 (by omega) (by omega)
  refine jk_aload_n (q := 23) h dX0_copyFrom_22 rfl rfl ?_
  refine jk_get (q := 26) h fg_X0_24 dX0_copyFrom_23 (hN.at 0 rfl) rfl rfl ?_
  refine jk_aload_n (q := 27) h dX0_copyFrom_26 rfl rfl ?_
  refine jk_get (q := 30) h fg_X0_24 dX0_copyFrom_27 (hN2.at 0 rfl) rfl rfl ?_
  refine jk_callV (q := 33) h hX (c_X5_copyFrom hP hP2 (by omega)) mv_X5_copyFrom (hP.at 0 rfl) dX0_copyFrom_30 ml_X0_68 ⟨rfl, Nat.le_refl _⟩ rfl rfl (Nat.le_of_ble_eq_true rfl) (Nat.le_of_ble_eq_true rfl) rfl rfl (Nat.le_of_ble_eq_true rfl) rfl (fun v9 n9 M_3 hp9 => ?_)
  obtain ⟨rfl, rfl, hP, o_3⟩ := hp9
  have hN := hN.keep o_3 1 rfl (by omega)
  have hA := hA.keep o_3 8 rfl (by omega)
  have hB := hB.keep o_3 8 rfl (by omega)
  have hN2 := hN2.keep o_3 1 rfl (by omega)
  have hA2 := hA2.keep o_3 8 rfl (by omega)
  have hB2 := hB2.keep o_3 8 rfl (by omega)
  have hP2 := hP2.keep o_3 4 rfl (by omega)
  have ho := ho.tr o_3 (by omega) (by omega)
  refine jk_aload_n (q := 34) h dX0_copyFrom_33 rfl rfl ?_
  refine jk_aload_n (q := 35) h dX0_copyFrom_34 rfl rfl ?_
  refine jk_get (q := 38) h fg_X0_28 dX0_copyFrom_35 (hN2.at 0 rfl) rfl rfl ?_
  refine jk_put (q := 41) h (fp_X0_28 _) dX0_copyFrom_38 (hN.at 0 rfl) (Nat.le_of_ble_eq_true rfl) rfl (fun M_4 s_4 => ?_)
  have hN := hN.put (i := 0) s_4 rfl
  have hA := hA.other s_4 8 rfl (by omega)
  have hB := hB.other s_4 8 rfl (by omega)
  have hP := hP.other s_4 4 rfl (by omega)
  have hN2 := hN2.other s_4 1 rfl (by omega)
  have hA2 := hA2.other s_4 8 rfl (by omega)
  have hB2 := hB2.other s_4 8 rfl (by omega)
  have hP2 := hP2.other s_4 4 rfl (by omega)
  have ho := ho.st (i := 0) s_4 (by omega)
  refine jk_aload_n (q := 42) h dX0_copyFrom_41 rfl rfl ?_
  refine jk_aload_n (q := 43) h dX0_copyFrom_42 rfl rfl ?_
  refine jk_get (q := 46) h fg_X0_44 dX0_copyFrom_43 (hN2.at 0 rfl) rfl rfl ?_
  refine jk_put (q := 49) h (fp_X0_44 _) dX0_copyFrom_46 (hN.at 0 rfl) (Nat.le_of_ble_eq_true rfl) rfl (fun M_5 s_5 => ?_)
  have hN := hN.put (i := 0) s_5 rfl
  have hA := hA.other s_5 8 rfl (by omega)
  have hB := hB.other s_5 8 rfl (by omega)
  have hP := hP.other s_5 4 rfl (by omega)
  have hN2 := hN2.other s_5 1 rfl (by omega)
  have hA2 := hA2.other s_5 8 rfl (by omega)
  have hB2 := hB2.other s_5 8 rfl (by omega)
  have hP2 := hP2.other s_5 4 rfl (by omega)
  have ho := ho.st (i := 0) s_5 (by omega)
  exact jk_vret h hR dX0_copyFrom_49 (Nat.le_of_ble_eq_true rfl) (Nat.le_of_ble_eq_true rfl) ⟨rfl, rfl, hN, hA, hB, hP, ho⟩

abbrev ts0 : TS := (fun k => if k = 0 then 4 else if k = 1 then 2 else if k = 2 then 2 else if k = 3 then 20 else 0, (jz, jz, 0), (0, 0), cf0, cf0, pf0)
theorem ts0_set : jfup (jfup (jfup (jfup jz (0 : Int).toNat 4) (1 : Int).toNat 2) (2 : Int).toNat 2) (3 : Int).toNat 20 = ts0.1 := by
  funext k
  match k with
  | 0 => rfl
  | 1 => rfl
  | 2 => rfl
  | 3 => rfl
  | k + 4 => simp [jfup]
theorem jz_F {a b : Int} (h : a ≤ 0) (h2 : 0 ≤ b) : jrF jz a b := fun _ => ⟨h, h2⟩
theorem cf0_Q : cfQ cf0 := by
  exact ⟨jz_F (by decide) (by decide), jz_F (by decide) (by decide), jz_F (by decide) (by decide), ⟨by decide, by decide⟩, jz_F (by decide) (by decide), jz_F (by decide) (by decide), jz_F (by decide) (by decide), jz_F (by decide) (by decide), ⟨by decide, by decide⟩, fun k h => Int.le_refl _⟩
theorem ts0_Q : stQ ts0 := ⟨by decide, ⟨jz_F (by decide) (by decide), jz_F (by decide) (by decide), by decide⟩, by decide, by decide, cf0_Q, cf0_Q, ⟨jz_F (by decide) (by decide), jz_F (by decide) (by decide), jz_F (by decide) (by decide), by decide⟩⟩

set_option maxHeartbeats 4000000 in
set_option maxRecDepth 100000 in
theorem c_X7_init {l : Launch} {D : va_G} {b0 : Nat} {M : jM} {b : Nat} (hS : jPic M b [oB 6 [.null, .null, .null]]) : jCtr l D b0 yX7_init cX7_init 1 none 3 25 476 [.ref b] (b + 1) M (fun v n2 M2 => none = v ∧ b + 26 = n2 ∧ stP M2 b ts0 ∧ jout M M2 b 26) := by
  refine jctr (lv := [some (.ref b)]) RX7 "<init>" rfl rfl (by decide) (Nat.le_of_ble_eq_true rfl) rfl ?_
  intro X h hR hX
  have ho := jout.rf M b 26
  refine jk_aload_n (q := 1) h dX7_init_0 rfl rfl ?_
  refine jk_objInit (q := 4) h dX7_init_1 ml_X7_3 ko_i ko_c (Nat.le_of_ble_eq_true rfl) (Nat.le_of_ble_eq_true rfl) rfl ?_
  refine jk_aload_n (q := 5) h dX7_init_4 rfl rfl ?_
  refine jk_iconst (q := 6) h dX7_init_5 rfl ?_
  refine jk_newa (q := 8) h dX7_init_6 rfl ka_int rfl (Nat.le_of_ble_eq_true rfl) (Nat.le_of_ble_eq_true rfl) rfl (fun M_1 s_1 => ?_)
  have s_1 : jst _ _ _ (aI 4 jz) := s_1
  have hS := hS.snoc s_1
  have ho := ho.st (i := 1) s_1 (by omega)
  refine jk_dup (q := 9) h dX7_init_8 rfl rfl ?_
  refine jk_iconst (q := 10) h dX7_init_9 rfl ?_
  refine jk_iconst (q := 11) h dX7_init_10 rfl ?_
  refine jk_iast (q := 12) h dX7_init_11 (hS.at 1 rfl) (by omega) (by omega) rfl rfl (fun M_2 s_2 => ?_)
  have hS := hS.put (i := 1) s_2 rfl
  have ho := ho.st (i := 1) s_2 (by omega)
  refine jk_dup (q := 13) h dX7_init_12 rfl rfl ?_
  refine jk_iconst (q := 14) h dX7_init_13 rfl ?_
  refine jk_iconst (q := 15) h dX7_init_14 rfl ?_
  refine jk_iast (q := 16) h dX7_init_15 (hS.at 1 rfl) (by omega) (by omega) rfl rfl (fun M_3 s_3 => ?_)
  have hS := hS.put (i := 1) s_3 rfl
  have ho := ho.st (i := 1) s_3 (by omega)
  refine jk_dup (q := 17) h dX7_init_16 rfl rfl ?_
  refine jk_iconst (q := 18) h dX7_init_17 rfl ?_
  refine jk_iconst (q := 19) h dX7_init_18 rfl ?_
  refine jk_iast (q := 20) h dX7_init_19 (hS.at 1 rfl) (by omega) (by omega) rfl rfl (fun M_4 s_4 => ?_)
  have hS := hS.put (i := 1) s_4 rfl
  have ho := ho.st (i := 1) s_4 (by omega)
  refine jk_dup (q := 21) h dX7_init_20 rfl rfl ?_
  refine jk_iconst (q := 22) h dX7_init_21 rfl ?_
  refine jk_bipush (q := 24) h dX7_init_22 (by decide) rfl ?_
  refine jk_iast (q := 25) h dX7_init_24 (hS.at 1 rfl) (by omega) (by omega) rfl rfl (fun M_5 s_5 => ?_)
  have hS := hS.put (i := 1) s_5 rfl
  have ho := ho.st (i := 1) s_5 (by omega)
  refine jk_putF (q := 28) h (fp_X7_9 _) dX7_init_25 rfl fd_X7_0 (hS.at 0 rfl) (Nat.le_of_ble_eq_true rfl) rfl (fun M_6 s_6 => ?_)
  have hS := hS.put (i := 0) s_6 rfl
  have ho := ho.st (i := 0) s_6 (by omega)
  refine jk_aload_n (q := 29) h dX7_init_28 rfl rfl ?_
  refine jk_new (q := 32) h nw_X7_15 dX7_init_29 (Nat.le_of_ble_eq_true rfl) (Nat.le_of_ble_eq_true rfl) rfl (fun M_7 s_7 => ?_)
  have hS := hS.other s_7 2 rfl (by omega)
  have hT := jPic.one s_7
  have ho := ho.tr (jst.out s_7) (by omega) (by omega)
  refine jk_dup (q := 33) h dX7_init_32 rfl rfl ?_
  refine jk_callIN (q := 36) h hX (c_X8_init hT) mi_X8_init dX7_init_33 ml_X7_17 ⟨rfl, Nat.le_refl _⟩ rfl rfl (Nat.le_of_ble_eq_true rfl) (Nat.le_of_ble_eq_true rfl) rfl rfl (Nat.le_of_ble_eq_true rfl) rfl (fun v9 n9 M_8 hp9 => ?_)
  obtain ⟨rfl, rfl, hT, o_8⟩ := hp9
  have hS := hS.keep o_8 2 rfl (by omega)
  have ho := ho.tr o_8 (by omega) (by omega)
  refine jk_putF (q := 39) h (fp_X7_18 _) dX7_init_36 rfl fd_X7_1 (hS.at 0 rfl) (Nat.le_of_ble_eq_true rfl) rfl (fun M_9 s_9 => ?_)
  have hS := hS.put (i := 0) s_9 rfl
  have hT := hT.other s_9 3 rfl (by omega)
  have ho := ho.st (i := 0) s_9 (by omega)
  refine jk_aload_n (q := 40) h dX7_init_39 rfl rfl ?_
  refine jk_new (q := 43) h nw_X7_22 dX7_init_40 (Nat.le_of_ble_eq_true rfl) (Nat.le_of_ble_eq_true rfl) rfl (fun M_10 s_10 => ?_)
  have hS := hS.other s_10 2 rfl (by omega)
  have hT := hT.other s_10 3 rfl (by omega)
  have hN := jPic.one s_10
  have ho := ho.tr (jst.out s_10) (by omega) (by omega)
  refine jk_dup (q := 44) h dX7_init_43 rfl rfl ?_
  refine jk_callIN (q := 47) h hX (c_X0_init hN) mi_X0_init dX7_init_44 ml_X7_24 ⟨rfl, Nat.le_refl _⟩ rfl rfl (Nat.le_of_ble_eq_true rfl) (Nat.le_of_ble_eq_true rfl) rfl rfl (Nat.le_of_ble_eq_true rfl) rfl (fun v9 n9 M_11 hp9 => ?_)
  obtain ⟨rfl, rfl, hN, hA, hB, hP, o_11⟩ := hp9
  have hS := hS.keep o_11 2 rfl (by omega)
  have hT := hT.keep o_11 3 rfl (by omega)
  have ho := ho.tr o_11 (by omega) (by omega)
  refine jk_putF (q := 50) h (fp_X7_25 _) dX7_init_47 rfl fd_X7_2 (hS.at 0 rfl) (Nat.le_of_ble_eq_true rfl) rfl (fun M_12 s_12 => ?_)
  have hS := hS.put (i := 0) s_12 rfl
  have hT := hT.other s_12 3 rfl (by omega)
  have hN := hN.other s_12 1 rfl (by omega)
  have hA := hA.other s_12 8 rfl (by omega)
  have hB := hB.other s_12 8 rfl (by omega)
  have hP := hP.other s_12 4 rfl (by omega)
  have ho := ho.st (i := 0) s_12 (by omega)
  rw [ts0_set] at hS
  exact jk_vret h hR dX7_init_50 (Nat.le_of_ble_eq_true rfl) (Nat.le_of_ble_eq_true rfl) ⟨rfl, rfl, ⟨hS, hT, hN, hA, hB, hP⟩, ho⟩

set_option maxHeartbeats 4000000 in
set_option maxRecDepth 100000 in
theorem c_X7_setting {l : Launch} {D : va_G} {b0 : Nat} {n : Nat} {M : jM} {b : Nat} {x : TS} (h9 : stP M b x) (hQ : stQ x) {q : Int} (hq : 0 ≤ q ∧ q ≤ 3) : jCtr l D b0 yX7_setting cX7_setting 2 (some .int) 1 0 0 [.ref b, jI q] n M (jrd n M (x.1 q.toNat)) := by
  refine jctr (lv := [some (.ref b), some (jI q)]) RX7 "setting" rfl rfl (by decide) (Nat.le_of_ble_eq_true rfl) rfl ?_
  intro X h hR hX
  obtain ⟨hS, hT, hN, hA, hB, hP⟩ := h9
  obtain ⟨hse, htb, hr, hch, hOA, hOB, hOP⟩ := id hQ
  refine jk_iload_n (q := 1) h dX7_setting_0 rfl rfl ?_
  refine jk_iconst (q := 2) h dX7_setting_1 rfl ?_
  refine jk_iconst (q := 3) h dX7_setting_2 rfl ?_
  refine jk_callSN (q := 6) h hX (c_X9_isBetween ⟨by omega, by omega⟩ ⟨by omega, by omega⟩ ⟨by omega, by omega⟩) ms_X9_isBetween dX7_setting_3 ml_X7_29 ⟨rfl, Nat.le_refl _⟩ rfl rfl (Nat.le_of_ble_eq_true rfl) (Nat.le_of_ble_eq_true rfl) rfl rfl (Nat.le_of_ble_eq_true rfl) rfl (fun v9 n9 M9 hp9 => ?_)
  obtain ⟨rfl, rfl, rfl⟩ := hp9
  refine jk_if_eqB (q := 9) (tgt := 18) h dX7_setting_6 (by decide) rfl (fun c6 => ?_) (fun c6 => ?_)
  · omega
  · refine jk_aload_n (q := 10) h dX7_setting_9 rfl rfl ?_
    refine jk_get (q := 13) h fg_X7_9 dX7_setting_10 (hS.at 0 rfl) rfl rfl ?_
    refine jk_iload_n (q := 14) h dX7_setting_13 rfl rfl ?_
    refine jk_ialdI (q := 15) h dX7_setting_14 (hS.at 1 rfl) (by omega) (by omega) rfl rfl ?_
    refine jk_goto (q := 18) (tgt := 19) h dX7_setting_15 (by decide) ?_
    exact jk_iret h hR dX7_setting_19 (Nat.le_of_ble_eq_true rfl) (Nat.le_of_ble_eq_true rfl) (jrd_of rfl)

def inR (q v : Int) : Prop := (q = 0 ∧ 1 ≤ v ∧ v ≤ 10) ∨ (q = 1 ∧ 0 ≤ v ∧ v ≤ 6) ∨ (q = 2 ∧ 0 ≤ v ∧ v ≤ 6) ∨ (q = 3 ∧ 0 ≤ v ∧ v ≤ 100)
end
