-- ===== PART A: goes FIRST, ahead of the names: the tables' words, and 'selects' of the private methods out of them =====
/-- a private method of a class that the tables say can be made, by its rows of tables_1 -/
def lw_okq (q : MethodName × Nat) : Prop := (q.1.cls ≠ "java/lang/invoke/MethodHandle" ∧ q.1.cls ≠ "java/lang/invoke/VarHandle") ∧ Cond.instantiable q.1.cls q.2 ∈ tables_1 ∧ Cond.privateMethod q.1 ∈ tables_1 ∧ Cond.instanceMethod q.1 ∈ tables_1
theorem lw_p0 : lw_okq (⟨"GarbleWords", "readPad", "()Z"⟩, 8) := ⟨⟨by decide +kernel, by decide +kernel⟩, List.mem_of_getElem? (i := 14) (by decide +kernel), List.mem_of_getElem? (i := 302) (by decide +kernel), List.mem_of_getElem? (i := 303) (by decide +kernel)⟩
theorem lw_p1 : lw_okq (⟨"GarbleWords", "sendMessage", "()I"⟩, 8) := ⟨⟨by decide +kernel, by decide +kernel⟩, List.mem_of_getElem? (i := 14) (by decide +kernel), List.mem_of_getElem? (i := 413) (by decide +kernel), List.mem_of_getElem? (i := 414) (by decide +kernel)⟩
theorem lw_p2 : lw_okq (⟨"GarbleWords$Route", "choose", "(IIII)V"⟩, 4) := ⟨⟨by decide +kernel, by decide +kernel⟩, List.mem_of_getElem? (i := 168) (by decide +kernel), List.mem_of_getElem? (i := 435) (by decide +kernel), List.mem_of_getElem? (i := 436) (by decide +kernel)⟩
theorem lw_p3 : lw_okq (⟨"GarbleWords$Route", "isNoWorse", "(III)Z"⟩, 4) := ⟨⟨by decide +kernel, by decide +kernel⟩, List.mem_of_getElem? (i := 168) (by decide +kernel), List.mem_of_getElem? (i := 447) (by decide +kernel), List.mem_of_getElem? (i := 448) (by decide +kernel)⟩
theorem lw_p4 : lw_okq (⟨"GarbleWords$Telegram", "writePlain", "(J)V"⟩, 9) := ⟨⟨by decide +kernel, by decide +kernel⟩, List.mem_of_getElem? (i := 50) (by decide +kernel), List.mem_of_getElem? (i := 458) (by decide +kernel), List.mem_of_getElem? (i := 459) (by decide +kernel)⟩
theorem lw_p5 : lw_okq (⟨"GarbleWords$Telegram", "writeLetter", "(I)V"⟩, 9) := ⟨⟨by decide +kernel, by decide +kernel⟩, List.mem_of_getElem? (i := 50) (by decide +kernel), List.mem_of_getElem? (i := 467) (by decide +kernel), List.mem_of_getElem? (i := 468) (by decide +kernel)⟩
theorem lw_p6 : lw_okq (⟨"GarbleWords$Telegram", "writeCode", "(I)V"⟩, 9) := ⟨⟨by decide +kernel, by decide +kernel⟩, List.mem_of_getElem? (i := 50) (by decide +kernel), List.mem_of_getElem? (i := 477) (by decide +kernel), List.mem_of_getElem? (i := 478) (by decide +kernel)⟩
theorem lw_p7 : lw_okq (⟨"GarbleWords$Reception", "receiveCode", "(LGarbleWords$State;I)V"⟩, 4) := ⟨⟨by decide +kernel, by decide +kernel⟩, List.mem_of_getElem? (i := 200) (by decide +kernel), List.mem_of_getElem? (i := 621) (by decide +kernel), List.mem_of_getElem? (i := 622) (by decide +kernel)⟩
theorem lw_p8 : lw_okq (⟨"GarbleWords$Reception", "receivePlain", "(LGarbleWords$Telegram;I)V"⟩, 4) := ⟨⟨by decide +kernel, by decide +kernel⟩, List.mem_of_getElem? (i := 200) (by decide +kernel), List.mem_of_getElem? (i := 634) (by decide +kernel), List.mem_of_getElem? (i := 635) (by decide +kernel)⟩
def lw_privs_1 : List (MethodName × Nat) := [(⟨"GarbleWords", "readPad", "()Z"⟩, 8), (⟨"GarbleWords", "sendMessage", "()I"⟩, 8), (⟨"GarbleWords$Route", "choose", "(IIII)V"⟩, 4), (⟨"GarbleWords$Route", "isNoWorse", "(III)Z"⟩, 4), (⟨"GarbleWords$Telegram", "writePlain", "(J)V"⟩, 9), (⟨"GarbleWords$Telegram", "writeLetter", "(I)V"⟩, 9), (⟨"GarbleWords$Telegram", "writeCode", "(I)V"⟩, 9), (⟨"GarbleWords$Reception", "receiveCode", "(LGarbleWords$State;I)V"⟩, 4), (⟨"GarbleWords$Reception", "receivePlain", "(LGarbleWords$Telegram;I)V"⟩, 4)]
theorem lw_r1 : ∀ q ∈ lw_privs_1, lw_okq q := List.forall_mem_cons.mpr ⟨lw_p0, List.forall_mem_cons.mpr ⟨lw_p1, List.forall_mem_cons.mpr ⟨lw_p2, List.forall_mem_cons.mpr ⟨lw_p3, List.forall_mem_cons.mpr ⟨lw_p4, List.forall_mem_cons.mpr ⟨lw_p5, List.forall_mem_cons.mpr ⟨lw_p6, List.forall_mem_cons.mpr ⟨lw_p7, List.forall_mem_cons.mpr ⟨lw_p8, fun _ h => absurd h List.not_mem_nil⟩⟩⟩⟩⟩⟩⟩⟩⟩
def lw_privs : List (MethodName × Nat) := lw_privs_1
def lw_tbl : List Cond := k2_sels lw_privs ++ tables_1
theorem lw_privs_ok : ∀ q ∈ lw_privs, lw_okq q := lw_r1
def RX0 : String := "GarbleWords$Book"
def TX0 : u_T := fun k => match k with
  | 0 => ("GarbleWords$Book", "codes", "[I", true)
  | 1 => ("GarbleWords$Book", "words", "[J", true)
  | _ => ("GarbleWords$Book", "size", "I", false)
def tyX0 : Nat → FieldType := fun k => match k with
  | 0 => .array .int
  | 1 => .array .long
  | _ => .int
abbrev wsX00 : List Cond := u_ws RX0 TX0 3
theorem nmX0 : ∀ a, a < 3 → ∀ b, b < 3 → a ≠ b → (TX0 a).2.1 ≠ (TX0 b).2.1 := by decide +kernel
theorem tyX0_ok : ∀ k, k < 3 → parseFieldDescriptor (TX0 k).2.2.1 = some (tyX0 k) := by decide +kernel
abbrev cX0_init : ByteArray := prog_2_method_1_code
def yX0_init : MethodName := ⟨RX0, "<init>", "()V"⟩
abbrev cX0_has : ByteArray := prog_2_method_2_code
def yX0_has : MethodName := ⟨RX0, "has", "(I)Z"⟩
abbrev cX0_codeOf : ByteArray := prog_2_method_3_code
def yX0_codeOf : MethodName := ⟨RX0, "codeOf", "(I)I"⟩
abbrev cX0_wordAt : ByteArray := prog_2_method_4_code
def yX0_wordAt : MethodName := ⟨RX0, "wordAt", "(II)J"⟩
abbrev cX0_wordsOf : ByteArray := prog_2_method_5_code
def yX0_wordsOf : MethodName := ⟨RX0, "wordsOf", "(I)I"⟩
abbrev cX0_lettersOf : ByteArray := prog_2_method_6_code
def yX0_lettersOf : MethodName := ⟨RX0, "lettersOf", "(I)I"⟩
abbrev cX0_means : ByteArray := prog_2_method_8_code
def yX0_means : MethodName := ⟨RX0, "means", "(ILGarbleWords$Words;II)Z"⟩
abbrev cX0_find : ByteArray := prog_2_method_9_code
def yX0_find : MethodName := ⟨RX0, "find", "(LGarbleWords$Words;II)I"⟩
abbrev cX0_leastFromOthers : ByteArray := prog_2_method_10_code
def yX0_leastFromOthers : MethodName := ⟨RX0, "leastFromOthers", "(II)I"⟩
abbrev cX0_leastDistance : ByteArray := prog_2_method_11_code
def yX0_leastDistance : MethodName := ⟨RX0, "leastDistance", "()I"⟩
abbrev cX0_append : ByteArray := prog_2_method_12_code
def yX0_append : MethodName := ⟨RX0, "append", "(LGarbleWords$Words;I)V"⟩
abbrev cX0_remove : ByteArray := prog_2_method_13_code
def yX0_remove : MethodName := ⟨RX0, "remove", "(I)V"⟩
abbrev cX0_copyFrom : ByteArray := prog_2_method_14_code
def yX0_copyFrom : MethodName := ⟨RX0, "copyFrom", "(LGarbleWords$Book;)V"⟩
def RX1 : String := "GarbleWords$FreeCodes"
def TX1 : u_T := fun k => match k with
  | _ => ("GarbleWords$FreeCodes", "near", "[Z", true)
def tyX1 : Nat → FieldType := fun k => match k with
  | _ => .array .boolean
abbrev wsX10 : List Cond := u_ws RX1 TX1 1
theorem nmX1 : ∀ a, a < 1 → ∀ b, b < 1 → a ≠ b → (TX1 a).2.1 ≠ (TX1 b).2.1 := by decide +kernel
theorem tyX1_ok : ∀ k, k < 1 → parseFieldDescriptor (TX1 k).2.2.1 = some (tyX1 k) := by decide +kernel
abbrev cX1_init : ByteArray := prog_3_method_1_code
def yX1_init : MethodName := ⟨RX1, "<init>", "()V"⟩
abbrev cX1_lookAt : ByteArray := prog_3_method_2_code
def yX1_lookAt : MethodName := ⟨RX1, "lookAt", "(LGarbleWords$Book;I)V"⟩
abbrev cX1_markNear : ByteArray := prog_3_method_3_code
def yX1_markNear : MethodName := ⟨RX1, "markNear", "(II)V"⟩
abbrev cX1_lowestFrom : ByteArray := prog_3_method_4_code
def yX1_lowestFrom : MethodName := ⟨RX1, "lowestFrom", "(I)I"⟩
def RX2 : String := "GarbleWords$History"
def TX2 : u_T := fun k => match k with
  | 0 => ("GarbleWords$History", "states", "[LGarbleWords$State;", true)
  | 1 => ("GarbleWords$History", "oldest", "I", false)
  | _ => ("GarbleWords$History", "size", "I", false)
def tyX2 : Nat → FieldType := fun k => match k with
  | 0 => .array (.object "GarbleWords$State")
  | 1 => .int
  | _ => .int
abbrev wsX20 : List Cond := u_ws RX2 TX2 3
theorem nmX2 : ∀ a, a < 3 → ∀ b, b < 3 → a ≠ b → (TX2 a).2.1 ≠ (TX2 b).2.1 := by decide +kernel
theorem tyX2_ok : ∀ k, k < 3 → parseFieldDescriptor (TX2 k).2.2.1 = some (tyX2 k) := by decide +kernel
abbrev cX2_init : ByteArray := prog_4_method_1_code
def yX2_init : MethodName := ⟨RX2, "<init>", "()V"⟩
abbrev cX2_keep : ByteArray := prog_4_method_2_code
def yX2_keep : MethodName := ⟨RX2, "keep", "(LGarbleWords$State;)V"⟩
def RX3 : String := "GarbleWords$Pad"
def TX3 : u_T := fun k => match k with
  | 0 => ("GarbleWords$Pad", "signs", "[I", true)
  | _ => ("GarbleWords$Pad", "length", "I", false)
def tyX3 : Nat → FieldType := fun k => match k with
  | 0 => .array .int
  | _ => .int
abbrev wsX30 : List Cond := u_ws RX3 TX3 2
theorem nmX3 : ∀ a, a < 2 → ∀ b, b < 2 → a ≠ b → (TX3 a).2.1 ≠ (TX3 b).2.1 := by decide +kernel
theorem tyX3_ok : ∀ k, k < 2 → parseFieldDescriptor (TX3 k).2.2.1 = some (tyX3 k) := by decide +kernel
abbrev cX3_init : ByteArray := prog_5_method_1_code
def yX3_init : MethodName := ⟨RX3, "<init>", "()V"⟩
abbrev cX3_append : ByteArray := prog_5_method_2_code
def yX3_append : MethodName := ⟨RX3, "append", "(I)V"⟩
abbrev cX3_firstFault : ByteArray := prog_5_method_3_code
def yX3_firstFault : MethodName := ⟨RX3, "firstFault", "()I"⟩
abbrev cX3_readInto : ByteArray := prog_5_method_4_code
def yX3_readInto : MethodName := ⟨RX3, "readInto", "(LGarbleWords$Words;)V"⟩
def RX4 : String := "GarbleWords$Reception"
def TX4 : u_T := fun k => match k with
  | 0 => ("GarbleWords$Reception", "how", "I", false)
  | 1 => ("GarbleWords$Reception", "entry", "I", false)
  | 2 => ("GarbleWords$Reception", "place", "I", false)
  | _ => ("GarbleWords$Reception", "asSent", "Z", false)
def tyX4 : Nat → FieldType := fun k => match k with
  | 0 => .int
  | 1 => .int
  | 2 => .int
  | _ => .boolean
abbrev wsX40 : List Cond := u_ws RX4 TX4 4
theorem nmX4 : ∀ a, a < 4 → ∀ b, b < 4 → a ≠ b → (TX4 a).2.1 ≠ (TX4 b).2.1 := by decide +kernel
theorem tyX4_ok : ∀ k, k < 4 → parseFieldDescriptor (TX4 k).2.2.1 = some (tyX4 k) := by decide +kernel
abbrev cX4_init : ByteArray := prog_6_method_1_code
def yX4_init : MethodName := ⟨RX4, "<init>", "()V"⟩
abbrev cX4_receive : ByteArray := prog_6_method_2_code
def yX4_receive : MethodName := ⟨RX4, "receive", "(LGarbleWords$State;I)V"⟩
abbrev cX4_isCodeWord : ByteArray := prog_6_method_3_code
def yX4_isCodeWord : MethodName := ⟨RX4, "isCodeWord", "(LGarbleWords$Telegram;I)Z"⟩
abbrev cX4_receiveCode : ByteArray := prog_6_method_4_code
def yX4_receiveCode : MethodName := ⟨RX4, "receiveCode", "(LGarbleWords$State;I)V"⟩
abbrev cX4_unlikeLetters : ByteArray := prog_6_method_5_code
def yX4_unlikeLetters : MethodName := ⟨RX4, "unlikeLetters", "(LGarbleWords$Telegram;II)I"⟩
abbrev cX4_lastUnlike : ByteArray := prog_6_method_6_code
def yX4_lastUnlike : MethodName := ⟨RX4, "lastUnlike", "(LGarbleWords$Telegram;II)I"⟩
abbrev cX4_receivePlain : ByteArray := prog_6_method_7_code
def yX4_receivePlain : MethodName := ⟨RX4, "receivePlain", "(LGarbleWords$Telegram;I)V"⟩
def RX5 : String := "GarbleWords$Route"
def TX5 : u_T := fun k => match k with
  | 0 => ("GarbleWords$Route", "costs", "[I", true)
  | 1 => ("GarbleWords$Route", "counts", "[I", true)
  | 2 => ("GarbleWords$Route", "spans", "[I", true)
  | _ => ("GarbleWords$Route", "entries", "[I", true)
def tyX5 : Nat → FieldType := fun k => match k with
  | 0 => .array .int
  | 1 => .array .int
  | 2 => .array .int
  | _ => .array .int
abbrev wsX50 : List Cond := u_ws RX5 TX5 4
theorem nmX5 : ∀ a, a < 4 → ∀ b, b < 4 → a ≠ b → (TX5 a).2.1 ≠ (TX5 b).2.1 := by decide +kernel
theorem tyX5_ok : ∀ k, k < 4 → parseFieldDescriptor (TX5 k).2.2.1 = some (tyX5 k) := by decide +kernel
abbrev cX5_init : ByteArray := prog_7_method_1_code
def yX5_init : MethodName := ⟨RX5, "<init>", "()V"⟩
abbrev cX5_plan : ByteArray := prog_7_method_2_code
def yX5_plan : MethodName := ⟨RX5, "plan", "(LGarbleWords$State;LGarbleWords$Words;III)I"⟩
abbrev cX5_isNoWorse : ByteArray := prog_7_method_3_code
def yX5_isNoWorse : MethodName := ⟨RX5, "isNoWorse", "(III)Z"⟩
abbrev cX5_choose : ByteArray := prog_7_method_4_code
def yX5_choose : MethodName := ⟨RX5, "choose", "(IIII)V"⟩
def RX6 : String := "GarbleWords$State"
def TX6 : u_T := fun k => match k with
  | 0 => ("GarbleWords$State", "settings", "[I", true)
  | 1 => ("GarbleWords$State", "book", "LGarbleWords$Book;", true)
  | _ => ("GarbleWords$State", "telegram", "LGarbleWords$Telegram;", true)
def tyX6 : Nat → FieldType := fun k => match k with
  | 0 => .array .int
  | 1 => .object "GarbleWords$Book"
  | _ => .object "GarbleWords$Telegram"
abbrev wsX60 : List Cond := u_ws RX6 TX6 3
theorem nmX6 : ∀ a, a < 3 → ∀ b, b < 3 → a ≠ b → (TX6 a).2.1 ≠ (TX6 b).2.1 := by decide +kernel
theorem tyX6_ok : ∀ k, k < 3 → parseFieldDescriptor (TX6 k).2.2.1 = some (tyX6 k) := by decide +kernel
abbrev cX6_init : ByteArray := prog_8_method_1_code
def yX6_init : MethodName := ⟨RX6, "<init>", "()V"⟩
abbrev cX6_codeCost : ByteArray := prog_8_method_2_code
def yX6_codeCost : MethodName := ⟨RX6, "codeCost", "()I"⟩
abbrev cX6_apart : ByteArray := prog_8_method_3_code
def yX6_apart : MethodName := ⟨RX6, "apart", "()I"⟩
abbrev cX6_plainCost : ByteArray := prog_8_method_4_code
def yX6_plainCost : MethodName := ⟨RX6, "plainCost", "(J)I"⟩
abbrev cX6_plainCostOfPhrase : ByteArray := prog_8_method_5_code
def yX6_plainCostOfPhrase : MethodName := ⟨RX6, "plainCostOfPhrase", "(I)I"⟩
abbrev cX6_plainCostOfMessage : ByteArray := prog_8_method_6_code
def yX6_plainCostOfMessage : MethodName := ⟨RX6, "plainCostOfMessage", "()I"⟩
abbrev cX6_timesSent : ByteArray := prog_8_method_7_code
def yX6_timesSent : MethodName := ⟨RX6, "timesSent", "(I)I"⟩
abbrev cX6_copyFrom : ByteArray := prog_8_method_8_code
def yX6_copyFrom : MethodName := ⟨RX6, "copyFrom", "(LGarbleWords$State;)V"⟩
def RX7 : String := "GarbleWords$Telegram"
def TX7 : u_T := fun k => match k with
  | 0 => ("GarbleWords$Telegram", "message", "LGarbleWords$Words;", true)
  | 1 => ("GarbleWords$Telegram", "firsts", "[I", true)
  | 2 => ("GarbleWords$Telegram", "spans", "[I", true)
  | 3 => ("GarbleWords$Telegram", "asCode", "[I", true)
  | 4 => ("GarbleWords$Telegram", "costs", "[I", true)
  | 5 => ("GarbleWords$Telegram", "lengths", "[I", true)
  | 6 => ("GarbleWords$Telegram", "sent", "[I", true)
  | 7 => ("GarbleWords$Telegram", "received", "[I", true)
  | _ => ("GarbleWords$Telegram", "size", "I", false)
def tyX7 : Nat → FieldType := fun k => match k with
  | 0 => .object "GarbleWords$Words"
  | 1 => .array .int
  | 2 => .array .int
  | 3 => .array .int
  | 4 => .array .int
  | 5 => .array .int
  | 6 => .array .int
  | 7 => .array .int
  | _ => .int
abbrev wsX70 : List Cond := u_ws RX7 TX7 9
theorem nmX7 : ∀ a, a < 9 → ∀ b, b < 9 → a ≠ b → (TX7 a).2.1 ≠ (TX7 b).2.1 := by decide +kernel
theorem tyX7_ok : ∀ k, k < 9 → parseFieldDescriptor (TX7 k).2.2.1 = some (tyX7 k) := by decide +kernel
abbrev cX7_init : ByteArray := prog_9_method_1_code
def yX7_init : MethodName := ⟨RX7, "<init>", "()V"⟩
abbrev cX7_has : ByteArray := prog_9_method_2_code
def yX7_has : MethodName := ⟨RX7, "has", "(I)Z"⟩
abbrev cX7_hasPlace : ByteArray := prog_9_method_3_code
def yX7_hasPlace : MethodName := ⟨RX7, "hasPlace", "(II)Z"⟩
abbrev cX7_receivedAt : ByteArray := prog_9_method_4_code
def yX7_receivedAt : MethodName := ⟨RX7, "receivedAt", "(II)I"⟩
abbrev cX7_costInAll : ByteArray := prog_9_method_5_code
def yX7_costInAll : MethodName := ⟨RX7, "costInAll", "()I"⟩
abbrev cX7_garbledLetters : ByteArray := prog_9_method_6_code
def yX7_garbledLetters : MethodName := ⟨RX7, "garbledLetters", "()I"⟩
abbrev cX7_write : ByteArray := prog_9_method_7_code
def yX7_write : MethodName := ⟨RX7, "write", "(LGarbleWords$State;LGarbleWords$Route;)V"⟩
abbrev cX7_writePlain : ByteArray := prog_9_method_8_code
def yX7_writePlain : MethodName := ⟨RX7, "writePlain", "(J)V"⟩
abbrev cX7_writeCode : ByteArray := prog_9_method_9_code
def yX7_writeCode : MethodName := ⟨RX7, "writeCode", "(I)V"⟩
abbrev cX7_writeLetter : ByteArray := prog_9_method_10_code
def yX7_writeLetter : MethodName := ⟨RX7, "writeLetter", "(I)V"⟩
abbrev cX7_copyFrom : ByteArray := prog_9_method_11_code
def yX7_copyFrom : MethodName := ⟨RX7, "copyFrom", "(LGarbleWords$Telegram;)V"⟩
def RX8 : String := "GarbleWords$Words"
def TX8 : u_T := fun k => match k with
  | 0 => ("GarbleWords$Words", "words", "[J", true)
  | _ => ("GarbleWords$Words", "size", "I", false)
def tyX8 : Nat → FieldType := fun k => match k with
  | 0 => .array .long
  | _ => .int
abbrev wsX80 : List Cond := u_ws RX8 TX8 2
theorem nmX8 : ∀ a, a < 2 → ∀ b, b < 2 → a ≠ b → (TX8 a).2.1 ≠ (TX8 b).2.1 := by decide +kernel
theorem tyX8_ok : ∀ k, k < 2 → parseFieldDescriptor (TX8 k).2.2.1 = some (tyX8 k) := by decide +kernel
abbrev cX8_init : ByteArray := prog_10_method_1_code
def yX8_init : MethodName := ⟨RX8, "<init>", "()V"⟩
abbrev cX8_wordAt : ByteArray := prog_10_method_2_code
def yX8_wordAt : MethodName := ⟨RX8, "wordAt", "(I)J"⟩
abbrev cX8_append : ByteArray := prog_10_method_3_code
def yX8_append : MethodName := ⟨RX8, "append", "(J)V"⟩
abbrev cX8_copyFrom : ByteArray := prog_10_method_4_code
def yX8_copyFrom : MethodName := ⟨RX8, "copyFrom", "(LGarbleWords$Words;)V"⟩
abbrev cX8_hasLike : ByteArray := prog_10_method_5_code
def yX8_hasLike : MethodName := ⟨RX8, "hasLike", "(III)Z"⟩
def RX9 : String := "GarbleWords"
def TX9 : u_T := fun k => match k with
  | 0 => ("GarbleWords", "now", "LGarbleWords$State;", true)
  | 1 => ("GarbleWords", "history", "LGarbleWords$History;", true)
  | 2 => ("GarbleWords", "slots", "[LGarbleWords$State;", true)
  | 3 => ("GarbleWords", "pad", "LGarbleWords$Pad;", true)
  | 4 => ("GarbleWords", "read", "LGarbleWords$Words;", true)
  | 5 => ("GarbleWords", "route", "LGarbleWords$Route;", true)
  | 6 => ("GarbleWords", "free", "LGarbleWords$FreeCodes;", true)
  | _ => ("GarbleWords", "reception", "LGarbleWords$Reception;", true)
def tyX9 : Nat → FieldType := fun k => match k with
  | 0 => .object "GarbleWords$State"
  | 1 => .object "GarbleWords$History"
  | 2 => .array (.object "GarbleWords$State")
  | 3 => .object "GarbleWords$Pad"
  | 4 => .object "GarbleWords$Words"
  | 5 => .object "GarbleWords$Route"
  | 6 => .object "GarbleWords$FreeCodes"
  | _ => .object "GarbleWords$Reception"
abbrev wsX90 : List Cond := u_ws RX9 TX9 8
theorem nmX9 : ∀ a, a < 8 → ∀ b, b < 8 → a ≠ b → (TX9 a).2.1 ≠ (TX9 b).2.1 := by decide +kernel
theorem tyX9_ok : ∀ k, k < 8 → parseFieldDescriptor (TX9 k).2.2.1 = some (tyX9 k) := by decide +kernel
abbrev cX9_init : ByteArray := prog_1_method_1_code
def yX9_init : MethodName := ⟨RX9, "<init>", "()V"⟩
abbrev cX9_set : ByteArray := prog_1_method_2_code
def yX9_set : MethodName := ⟨RX9, "set", "(II)I"⟩
abbrev cX9_enter : ByteArray := prog_1_method_3_code
def yX9_enter : MethodName := ⟨RX9, "enter", "()I"⟩
abbrev cX9_recode : ByteArray := prog_1_method_4_code
def yX9_recode : MethodName := ⟨RX9, "recode", "(II)I"⟩
abbrev cX9_drop : ByteArray := prog_1_method_5_code
def yX9_drop : MethodName := ⟨RX9, "drop", "(I)I"⟩
abbrev cX9_send : ByteArray := prog_1_method_6_code
def yX9_send : MethodName := ⟨RX9, "send", "()I"⟩
abbrev cX9_sendAgain : ByteArray := prog_1_method_7_code
def yX9_sendAgain : MethodName := ⟨RX9, "sendAgain", "()I"⟩
abbrev cX9_garble : ByteArray := prog_1_method_8_code
def yX9_garble : MethodName := ⟨RX9, "garble", "(III)I"⟩
abbrev cX9_entry : ByteArray := prog_1_method_9_code
def yX9_entry : MethodName := ⟨RX9, "entry", "(II)I"⟩
abbrev cX9_count : ByteArray := prog_1_method_11_code
def yX9_count : MethodName := ⟨RX9, "count", "(I)I"⟩
abbrev cX9_letter : ByteArray := prog_1_method_12_code
def yX9_letter : MethodName := ⟨RX9, "letter", "(II)I"⟩
abbrev cX9_received : ByteArray := prog_1_method_13_code
def yX9_received : MethodName := ⟨RX9, "received", "(II)I"⟩
abbrev cX9_receivedSo : ByteArray := prog_1_method_14_code
def yX9_receivedSo : MethodName := ⟨RX9, "receivedSo", "(I)I"⟩
abbrev cX9_costOf : ByteArray := prog_1_method_15_code
def yX9_costOf : MethodName := ⟨RX9, "costOf", "()I"⟩
abbrev cX9_saves : ByteArray := prog_1_method_16_code
def yX9_saves : MethodName := ⟨RX9, "saves", "(I)I"⟩
abbrev cX9_put : ByteArray := prog_1_method_20_code
def yX9_put : MethodName := ⟨RX9, "put", "(J)I"⟩
abbrev cX9_wipe : ByteArray := prog_1_method_21_code
def yX9_wipe : MethodName := ⟨RX9, "wipe", "()I"⟩
abbrev cX9_readPad : ByteArray := prog_1_method_26_code
def yX9_readPad : MethodName := ⟨RX9, "readPad", "()Z"⟩
abbrev cX9_sendMessage : ByteArray := prog_1_method_27_code
def yX9_sendMessage : MethodName := ⟨RX9, "sendMessage", "()I"⟩
abbrev cX9_signsIn : ByteArray := prog_1_method_28_code
def yX9_signsIn : MethodName := ⟨RX9, "signsIn", "(J)I"⟩
abbrev cX9_isCode : ByteArray := prog_1_method_29_code
def yX9_isCode : MethodName := ⟨RX9, "isCode", "(I)Z"⟩
abbrev cX9_codeLetterOf : ByteArray := prog_1_method_30_code
def yX9_codeLetterOf : MethodName := ⟨RX9, "codeLetterOf", "(II)I"⟩
abbrev cX9_unlikePlaces : ByteArray := prog_1_method_31_code
def yX9_unlikePlaces : MethodName := ⟨RX9, "unlikePlaces", "(II)I"⟩
abbrev cX9_unlikeInHalf : ByteArray := prog_1_method_32_code
def yX9_unlikeInHalf : MethodName := ⟨RX9, "unlikeInHalf", "(II)I"⟩
abbrev cX9_longerWord : ByteArray := prog_1_method_33_code
def yX9_longerWord : MethodName := ⟨RX9, "longerWord", "(JI)J"⟩
abbrev cX9_lengthOf : ByteArray := prog_1_method_34_code
def yX9_lengthOf : MethodName := ⟨RX9, "lengthOf", "(J)I"⟩
abbrev cX9_plainLetterOf : ByteArray := prog_1_method_35_code
def yX9_plainLetterOf : MethodName := ⟨RX9, "plainLetterOf", "(JI)I"⟩
abbrev cX9_checkLetterOf : ByteArray := prog_1_method_36_code
def yX9_checkLetterOf : MethodName := ⟨RX9, "checkLetterOf", "(J)I"⟩
abbrev cX9_at : ByteArray := prog_1_method_37_code
def yX9_at : MethodName := ⟨RX9, "at", "([II)I"⟩
abbrev cX9_at_ : ByteArray := prog_1_method_38_code
def yX9_at_ : MethodName := ⟨RX9, "at", "([JI)J"⟩
abbrev cX9_lay : ByteArray := prog_1_method_39_code
def yX9_lay : MethodName := ⟨RX9, "lay", "([III)V"⟩
abbrev cX9_lay_ : ByteArray := prog_1_method_40_code
def yX9_lay_ : MethodName := ⟨RX9, "lay", "([JIJ)V"⟩
abbrev cX9_copyRow : ByteArray := prog_1_method_41_code
def yX9_copyRow : MethodName := ⟨RX9, "copyRow", "([I[I)V"⟩
abbrev cX9_copyRow_ : ByteArray := prog_1_method_42_code
def yX9_copyRow_ : MethodName := ⟨RX9, "copyRow", "([J[J)V"⟩
def RX10 : String := "GarbleWordsModel"
def TX10 : u_T := fun k => match k with
  | _ => ("", "", "", false)
def tyX10 : Nat → FieldType := fun k => match k with
  | _ => .int
abbrev wsX100 : List Cond := u_ws RX10 TX10 0
theorem nmX10 : ∀ a, a < 0 → ∀ b, b < 0 → a ≠ b → (TX10 a).2.1 ≠ (TX10 b).2.1 := by decide +kernel
theorem tyX10_ok : ∀ k, k < 0 → parseFieldDescriptor (TX10 k).2.2.1 = some (tyX10 k) := by decide +kernel
def RJ9 : String := "java/lang/Math"
def TJ9 : u_T := fun k => match k with
  | _ => ("", "", "", false)
def tyJ9 : Nat → FieldType := fun k => match k with
  | _ => .int
abbrev wsJ90 : List Cond := u_ws RJ9 TJ9 0
theorem nmJ9 : ∀ a, a < 0 → ∀ b, b < 0 → a ≠ b → (TJ9 a).2.1 ≠ (TJ9 b).2.1 := by decide +kernel
theorem tyJ9_ok : ∀ k, k < 0 → parseFieldDescriptor (TJ9 k).2.2.1 = some (tyJ9 k) := by decide +kernel
abbrev cJ9_max_7cf53 : ByteArray := prog_13_method_65_code
def yJ9_max_7cf53 : MethodName := ⟨RJ9, "max", "(II)I"⟩
abbrev cJ9_min_7cf53 : ByteArray := prog_13_method_69_code
def yJ9_min_7cf53 : MethodName := ⟨RJ9, "min", "(II)I"⟩
def RJ10 : String := "java/lang/System"
def TJ10 : u_T := fun k => match k with
  | _ => ("", "", "", false)
def tyJ10 : Nat → FieldType := fun k => match k with
  | _ => .int
abbrev wsJ100 : List Cond := u_ws RJ10 TJ10 0
theorem nmJ10 : ∀ a, a < 0 → ∀ b, b < 0 → a ≠ b → (TJ10 a).2.1 ≠ (TJ10 b).2.1 := by decide +kernel
theorem tyJ10_ok : ∀ k, k < 0 → parseFieldDescriptor (TJ10 k).2.2.1 = some (tyJ10 k) := by decide +kernel
def RL : String := "GarbleWordsLaw"
abbrev cL_cell : ByteArray := method_2_code
def yL_cell : MethodName := ⟨RL, "cell", "([II)I"⟩
abbrev cL_low : ByteArray := method_3_code
def yL_low : MethodName := ⟨RL, "low", "(II)I"⟩
abbrev cL_size : ByteArray := method_4_code
def yL_size : MethodName := ⟨RL, "size", "(I)I"⟩
abbrev cL_letter : ByteArray := method_5_code
def yL_letter : MethodName := ⟨RL, "letter", "(II)I"⟩
abbrev cL_plain : ByteArray := method_6_code
def yL_plain : MethodName := ⟨RL, "plain", "(I[I)I"⟩
abbrev cL_digit : ByteArray := method_7_code
def yL_digit : MethodName := ⟨RL, "digit", "(II)I"⟩
abbrev cL_apart : ByteArray := method_8_code
def yL_apart : MethodName := ⟨RL, "apart", "(II)I"⟩
abbrev cL_entryOf : ByteArray := method_9_code
def yL_entryOf : MethodName := ⟨RL, "entryOf", "(II[I[I[I)I"⟩
abbrev cL_cost : ByteArray := method_10_code
def yL_cost : MethodName := ⟨RL, "cost", "(II[I[I[I)I"⟩
abbrev cL_bits : ByteArray := method_11_code
def yL_bits : MethodName := ⟨RL, "bits", "(I)I"⟩
abbrev cL_best : ByteArray := method_12_code
def yL_best : MethodName := ⟨RL, "best", "(I[I[I[I)I"⟩
abbrev cL_send : ByteArray := method_13_code
def yL_send : MethodName := ⟨RL, "send", "([I[I[I[I)V"⟩
abbrev cL_receive : ByteArray := method_14_code
def yL_receive : MethodName := ⟨RL, "receive", "(I[I[I[I[I)V"⟩
abbrev cL_text : ByteArray := method_15_code
def yL_text : MethodName := ⟨RL, "text", "(I[I[I[I[I[I)Z"⟩
abbrev cL_same : ByteArray := method_16_code
def yL_same : MethodName := ⟨RL, "same", "(LGarbleWords;[I[I[I[I[I)Z"⟩
abbrev cL_types : ByteArray := method_17_code
def yL_types : MethodName := ⟨RL, "types", "(LGarbleWords;I)Z"⟩
abbrev cL_word : ByteArray := method_18_code
def yL_word : MethodName := ⟨RL, "word", "(I)I"⟩
abbrev cL_far : ByteArray := method_19_code
def yL_far : MethodName := ⟨RL, "far", "(II[I[I)Z"⟩
abbrev cL_law : ByteArray := code
def yL_law : MethodName := ⟨RL, "law", "([I)Z"⟩
abbrev vwCl : List vw_C := [(RX0, TX0, 3), (RX1, TX1, 1), (RX2, TX2, 3), (RX3, TX3, 2), (RX4, TX4, 4), (RX5, TX5, 4), (RX6, TX6, 3), (RX7, TX7, 9), (RX8, TX8, 2), (RX9, TX9, 8)]
