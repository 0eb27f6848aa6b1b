def RX0 : String := "Dataroom$Answer"
def TX0 : u_T := fun k => match k with
  | 0 => ("Dataroom$Answer", "party", "I", true)
  | 1 => ("Dataroom$Answer", "files", "I", true)
  | 2 => ("Dataroom$Answer", "bit", "I", true)
  | 3 => ("Dataroom$Answer", "given", "I", true)
  | 4 => ("Dataroom$Answer", "hour", "I", true)
  | _ => ("Dataroom$Answer", "recalled", "Z", false)
def tyX0 : Nat → FieldType := fun k => match k with
  | 0 => .int
  | 1 => .int
  | 2 => .int
  | 3 => .int
  | 4 => .int
  | _ => .boolean
abbrev wsX00 : List Cond := u_ws RX0 TX0 6
theorem nmX0 : ∀ a, a < 6 → ∀ b, b < 6 → a ≠ b → (TX0 a).2.1 ≠ (TX0 b).2.1 := by decide +kernel
theorem tyX0_ok : ∀ k, k < 6 → parseFieldDescriptor (TX0 k).2.2.1 = some (tyX0 k) := by decide +kernel
abbrev cX0_init : ByteArray := prog_2_method_1_code
def yX0_init : MethodName := ⟨RX0, "<init>", "(IIIII)V"⟩
abbrev cX0_standsFor : ByteArray := prog_2_method_2_code
def yX0_standsFor : MethodName := ⟨RX0, "standsFor", "(LDataroom$Party;)Z"⟩
abbrev cX0_tell : ByteArray := prog_2_method_3_code
def yX0_tell : MethodName := ⟨RX0, "tell", "(I)I"⟩
def RX1 : String := "Dataroom$Card"
def TX1 : u_T := fun k => match k with
  | 0 => ("Dataroom$Card", "number", "I", false)
  | _ => ("Dataroom$Card", "sealedTill", "I", false)
def tyX1 : Nat → FieldType := fun k => match k with
  | 0 => .int
  | _ => .int
abbrev wsX10 : List Cond := u_ws RX1 TX1 2
theorem nmX1 : ∀ a, a < 2 → ∀ b, b < 2 → a ≠ b → (TX1 a).2.1 ≠ (TX1 b).2.1 := by decide +kernel
theorem tyX1_ok : ∀ k, k < 2 → parseFieldDescriptor (TX1 k).2.2.1 = some (tyX1 k) := by decide +kernel
abbrev cX1_init : ByteArray := prog_3_method_1_code
def yX1_init : MethodName := ⟨RX1, "<init>", "(I)V"⟩
abbrev cX1_isClosedIn : ByteArray := prog_3_method_2_code
def yX1_isClosedIn : MethodName := ⟨RX1, "isClosedIn", "(I)Z"⟩
def RX2 : String := "Dataroom$Knowledge"
def TX2 : u_T := fun k => match k with
  | 0 => ("Dataroom$Knowledge", "rows", "[I", true)
  | _ => ("Dataroom$Knowledge", "learned", "I", false)
def tyX2 : Nat → FieldType := fun k => match k with
  | 0 => .array .int
  | _ => .int
abbrev wsX20 : List Cond := u_ws RX2 TX2 2
theorem nmX2 : ∀ a, a < 2 → ∀ b, b < 2 → a ≠ b → (TX2 a).2.1 ≠ (TX2 b).2.1 := by decide +kernel
theorem tyX2_ok : ∀ k, k < 2 → parseFieldDescriptor (TX2 k).2.2.1 = some (tyX2 k) := by decide +kernel
abbrev cX2_init : ByteArray := prog_4_method_1_code
def yX2_init : MethodName := ⟨RX2, "<init>", "()V"⟩
abbrev cX2_forget : ByteArray := prog_4_method_2_code
def yX2_forget : MethodName := ⟨RX2, "forget", "()V"⟩
abbrev cX2_learn : ByteArray := prog_4_method_3_code
def yX2_learn : MethodName := ⟨RX2, "learn", "(I)V"⟩
abbrev cX2_learnFrom : ByteArray := prog_4_method_4_code
def yX2_learnFrom : MethodName := ⟨RX2, "learnFrom", "(LDataroom$Knowledge;)V"⟩
abbrev cX2_knows : ByteArray := prog_4_method_5_code
def yX2_knows : MethodName := ⟨RX2, "knows", "(I)Z"⟩
abbrev cX2_wouldReach : ByteArray := prog_4_method_6_code
def yX2_wouldReach : MethodName := ⟨RX2, "wouldReach", "(II)Z"⟩
def RX3 : String := "Dataroom$Marks"
def TX3 : u_T := fun k => match k with
  | 0 => ("Dataroom$Marks", "words", "[J", true)
  | _ => ("Dataroom$Marks", "used", "I", false)
def tyX3 : Nat → FieldType := fun k => match k with
  | 0 => .array .long
  | _ => .int
abbrev wsX30 : List Cond := u_ws RX3 TX3 2
theorem nmX3 : ∀ a, a < 2 → ∀ b, b < 2 → a ≠ b → (TX3 a).2.1 ≠ (TX3 b).2.1 := by decide +kernel
theorem tyX3_ok : ∀ k, k < 2 → parseFieldDescriptor (TX3 k).2.2.1 = some (tyX3 k) := by decide +kernel
abbrev cX3_init : ByteArray := prog_5_method_1_code
def yX3_init : MethodName := ⟨RX3, "<init>", "()V"⟩
abbrev cX3_begin : ByteArray := prog_5_method_2_code
def yX3_begin : MethodName := ⟨RX3, "begin", "(I)V"⟩
abbrev cX3_add : ByteArray := prog_5_method_3_code
def yX3_add : MethodName := ⟨RX3, "add", "(I)V"⟩
abbrev cX3_sets : ByteArray := prog_5_method_4_code
def yX3_sets : MethodName := ⟨RX3, "sets", "()I"⟩
abbrev cX3_isMarked : ByteArray := prog_5_method_5_code
def yX3_isMarked : MethodName := ⟨RX3, "isMarked", "(I)Z"⟩
abbrev cX3_crossed : ByteArray := prog_5_method_6_code
def yX3_crossed : MethodName := ⟨RX3, "crossed", "(JI)J"⟩
def RX4 : String := "Dataroom$Party"
def TX4 : u_T := fun k => match k with
  | 0 => ("Dataroom$Party", "place", "I", true)
  | 1 => ("Dataroom$Party", "budget", "I", false)
  | 2 => ("Dataroom$Party", "rights", "[LDataroom$Right;", true)
  | 3 => ("Dataroom$Party", "known", "[LDataroom$Knowledge;", true)
  | _ => ("Dataroom$Party", "fared", "[I", true)
def tyX4 : Nat → FieldType := fun k => match k with
  | 0 => .int
  | 1 => .int
  | 2 => .array (.object "Dataroom$Right")
  | 3 => .array (.object "Dataroom$Knowledge")
  | _ => .array .int
abbrev wsX40 : List Cond := u_ws RX4 TX4 5
theorem nmX4 : ∀ a, a < 5 → ∀ b, b < 5 → a ≠ b → (TX4 a).2.1 ≠ (TX4 b).2.1 := by decide +kernel
theorem tyX4_ok : ∀ k, k < 5 → parseFieldDescriptor (TX4 k).2.2.1 = some (tyX4 k) := by decide +kernel
abbrev cX4_init : ByteArray := prog_6_method_1_code
def yX4_init : MethodName := ⟨RX4, "<init>", "(II)V"⟩
abbrev cX4_rightFor : ByteArray := prog_6_method_2_code
def yX4_rightFor : MethodName := ⟨RX4, "rightFor", "(I)LDataroom$Right;"⟩
abbrev cX4_setRight : ByteArray := prog_6_method_3_code
def yX4_setRight : MethodName := ⟨RX4, "setRight", "(ILDataroom$Right;)V"⟩
abbrev cX4_rightIn : ByteArray := prog_6_method_4_code
def yX4_rightIn : MethodName := ⟨RX4, "rightIn", "(II)I"⟩
abbrev cX4_countQuestion : ByteArray := prog_6_method_5_code
def yX4_countQuestion : MethodName := ⟨RX4, "countQuestion", "(I)V"⟩
abbrev cX4_questions : ByteArray := prog_6_method_6_code
def yX4_questions : MethodName := ⟨RX4, "questions", "(I)I"⟩
abbrev cX4_learn : ByteArray := prog_6_method_7_code
def yX4_learn : MethodName := ⟨RX4, "learn", "(II)V"⟩
abbrev cX4_forget : ByteArray := prog_6_method_8_code
def yX4_forget : MethodName := ⟨RX4, "forget", "()V"⟩
abbrev cX4_learnedInAll : ByteArray := prog_6_method_9_code
def yX4_learnedInAll : MethodName := ⟨RX4, "learnedInAll", "()I"⟩
abbrev cX4_costOf : ByteArray := prog_6_method_10_code
def yX4_costOf : MethodName := ⟨RX4, "costOf", "(II)I"⟩
abbrev cX4_wouldFindUnread : ByteArray := prog_6_method_11_code
def yX4_wouldFindUnread : MethodName := ⟨RX4, "wouldFindUnread", "(III)Z"⟩
abbrev cX4_wouldFind : ByteArray := prog_6_method_12_code
def yX4_wouldFind : MethodName := ⟨RX4, "wouldFind", "(III)Z"⟩
def RX5 : String := "Dataroom$Right"
def TX5 : u_T := fun k => match k with
  | 0 => ("Dataroom$Right", "kind", "I", true)
  | 1 => ("Dataroom$Right", "from", "I", true)
  | _ => ("Dataroom$Right", "to", "I", true)
def tyX5 : Nat → FieldType := fun k => match k with
  | 0 => .int
  | 1 => .int
  | _ => .int
abbrev wsX50 : List Cond := u_ws RX5 TX5 3
theorem nmX5 : ∀ a, a < 3 → ∀ b, b < 3 → a ≠ b → (TX5 a).2.1 ≠ (TX5 b).2.1 := by decide +kernel
theorem tyX5_ok : ∀ k, k < 3 → parseFieldDescriptor (TX5 k).2.2.1 = some (tyX5 k) := by decide +kernel
abbrev cX5_init : ByteArray := prog_7_method_1_code
def yX5_init : MethodName := ⟨RX5, "<init>", "(III)V"⟩
abbrev cX5_in : ByteArray := prog_7_method_2_code
def yX5_in : MethodName := ⟨RX5, "in", "(I)I"⟩
def RX6 : String := "Dataroom"
def TX6 : u_T := fun k => match k with
  | 0 => ("Dataroom", "allFiles", "Ljava/util/ArrayList;", true)
  | 1 => ("Dataroom", "allParties", "Ljava/util/ArrayList;", true)
  | 2 => ("Dataroom", "allAnswers", "Ljava/util/ArrayList;", true)
  | 3 => ("Dataroom", "now", "I", false)
  | 4 => ("Dataroom", "shared", "LDataroom$Knowledge;", true)
  | _ => ("Dataroom", "marks", "LDataroom$Marks;", true)
def tyX6 : Nat → FieldType := fun k => match k with
  | 0 => .object "java/util/ArrayList"
  | 1 => .object "java/util/ArrayList"
  | 2 => .object "java/util/ArrayList"
  | 3 => .int
  | 4 => .object "Dataroom$Knowledge"
  | _ => .object "Dataroom$Marks"
abbrev wsX60 : List Cond := u_ws RX6 TX6 6
theorem nmX6 : ∀ a, a < 6 → ∀ b, b < 6 → a ≠ b → (TX6 a).2.1 ≠ (TX6 b).2.1 := by decide +kernel
theorem tyX6_ok : ∀ k, k < 6 → parseFieldDescriptor (TX6 k).2.2.1 = some (tyX6 k) := by decide +kernel
abbrev cX6_init : ByteArray := prog_1_method_1_code
def yX6_init : MethodName := ⟨RX6, "<init>", "()V"⟩
abbrev cX6_file : ByteArray := prog_1_method_2_code
def yX6_file : MethodName := ⟨RX6, "file", "(I)I"⟩
abbrev cX6_change : ByteArray := prog_1_method_3_code
def yX6_change : MethodName := ⟨RX6, "change", "(II)I"⟩
abbrev cX6_party : ByteArray := prog_1_method_4_code
def yX6_party : MethodName := ⟨RX6, "party", "(I)I"⟩
abbrev cX6_budget : ByteArray := prog_1_method_5_code
def yX6_budget : MethodName := ⟨RX6, "budget", "(II)I"⟩
abbrev cX6_right : ByteArray := prog_1_method_6_code
def yX6_right : MethodName := ⟨RX6, "right", "(IIIII)V"⟩
abbrev cX6_takeBack : ByteArray := prog_1_method_7_code
def yX6_takeBack : MethodName := ⟨RX6, "takeBack", "(II)I"⟩
abbrev cX6_seal : ByteArray := prog_1_method_8_code
def yX6_seal : MethodName := ⟨RX6, "seal", "(II)V"⟩
abbrev cX6_pass : ByteArray := prog_1_method_9_code
def yX6_pass : MethodName := ⟨RX6, "pass", "(I)I"⟩
abbrev cX6_ask : ByteArray := prog_1_method_10_code
def yX6_ask : MethodName := ⟨RX6, "ask", "(III)I"⟩
abbrev cX6_cost : ByteArray := prog_1_method_11_code
def yX6_cost : MethodName := ⟨RX6, "cost", "(III)I"⟩
abbrev cX6_answer : ByteArray := prog_1_method_12_code
def yX6_answer : MethodName := ⟨RX6, "answer", "(II)I"⟩
abbrev cX6_spent : ByteArray := prog_1_method_13_code
def yX6_spent : MethodName := ⟨RX6, "spent", "(I)I"⟩
abbrev cX6_spentAnew : ByteArray := prog_1_method_14_code
def yX6_spentAnew : MethodName := ⟨RX6, "spentAnew", "(I)I"⟩
abbrev cX6_finds : ByteArray := prog_1_method_15_code
def yX6_finds : MethodName := ⟨RX6, "finds", "(II)I"⟩
abbrev cX6_together : ByteArray := prog_1_method_16_code
def yX6_together : MethodName := ⟨RX6, "together", "(II)I"⟩
abbrev cX6_rightTo : ByteArray := prog_1_method_17_code
def yX6_rightTo : MethodName := ⟨RX6, "rightTo", "(II)I"⟩
abbrev cX6_isSealed : ByteArray := prog_1_method_18_code
def yX6_isSealed : MethodName := ⟨RX6, "isSealed", "(I)Z"⟩
abbrev cX6_count : ByteArray := prog_1_method_19_code
def yX6_count : MethodName := ⟨RX6, "count", "(II)I"⟩
abbrev cX6_partyAt : ByteArray := prog_1_method_20_code
def yX6_partyAt : MethodName := ⟨RX6, "partyAt", "(I)LDataroom$Party;"⟩
abbrev cX6_fileAt : ByteArray := prog_1_method_21_code
def yX6_fileAt : MethodName := ⟨RX6, "fileAt", "(I)LDataroom$Card;"⟩
abbrev cX6_requireFile : ByteArray := prog_1_method_22_code
def yX6_requireFile : MethodName := ⟨RX6, "requireFile", "(I)V"⟩
abbrev cX6_requireRange : ByteArray := prog_1_method_23_code
def yX6_requireRange : MethodName := ⟨RX6, "requireRange", "(III)V"⟩
abbrev cX6_requireQuestion : ByteArray := prog_1_method_24_code
def yX6_requireQuestion : MethodName := ⟨RX6, "requireQuestion", "(II)V"⟩
abbrev cX6_holds : ByteArray := prog_1_method_25_code
def yX6_holds : MethodName := ⟨RX6, "holds", "(II)Z"⟩
abbrev cX6_covers : ByteArray := prog_1_method_26_code
def yX6_covers : MethodName := ⟨RX6, "covers", "(II)Z"⟩
abbrev cX6_refusalOf : ByteArray := prog_1_method_27_code
def yX6_refusalOf : MethodName := ⟨RX6, "refusalOf", "(LDataroom$Party;II)I"⟩
abbrev cX6_lacksRight : ByteArray := prog_1_method_28_code
def yX6_lacksRight : MethodName := ⟨RX6, "lacksRight", "(LDataroom$Party;I)Z"⟩
abbrev cX6_hasSealed : ByteArray := prog_1_method_29_code
def yX6_hasSealed : MethodName := ⟨RX6, "hasSealed", "(I)Z"⟩
abbrev cX6_sumOf : ByteArray := prog_1_method_30_code
def yX6_sumOf : MethodName := ⟨RX6, "sumOf", "(II)I"⟩
abbrev cX6_recall : ByteArray := prog_1_method_31_code
def yX6_recall : MethodName := ⟨RX6, "recall", "(LDataroom$Party;I)I"⟩
abbrev cX6_learnAnew : ByteArray := prog_1_method_32_code
def yX6_learnAnew : MethodName := ⟨RX6, "learnAnew", "(LDataroom$Party;)V"⟩
abbrev cX6_countStanding : ByteArray := prog_1_method_33_code
def yX6_countStanding : MethodName := ⟨RX6, "countStanding", "(LDataroom$Party;)I"⟩
abbrev cX6_countKnownSets : ByteArray := prog_1_method_34_code
def yX6_countKnownSets : MethodName := ⟨RX6, "countKnownSets", "(LDataroom$Party;I)I"⟩
abbrev cX6_generatorsOf : ByteArray := prog_1_method_35_code
def yX6_generatorsOf : MethodName := ⟨RX6, "generatorsOf", "(I)I"⟩
abbrev cX6_shareKnowledge : ByteArray := prog_1_method_36_code
def yX6_shareKnowledge : MethodName := ⟨RX6, "shareKnowledge", "(II)V"⟩
def RX7 : String := "DataroomModel"
def TX7 : u_T := fun k => match k with
  | _ => ("", "", "", false)
def tyX7 : Nat → FieldType := fun k => match k with
  | _ => .int
abbrev wsX70 : List Cond := u_ws RX7 TX7 0
theorem nmX7 : ∀ a, a < 0 → ∀ b, b < 0 → a ≠ b → (TX7 a).2.1 ≠ (TX7 b).2.1 := by decide +kernel
theorem tyX7_ok : ∀ k, k < 0 → parseFieldDescriptor (TX7 k).2.2.1 = some (tyX7 k) := by decide +kernel
def RJx145de : String := "java/io/Serializable"
def TJx145de : u_T := fun k => match k with
  | _ => ("", "", "", false)
def tyJx145de : Nat → FieldType := fun k => match k with
  | _ => .int
abbrev wsJx145de0 : List Cond := u_ws RJx145de TJx145de 0
theorem nmJx145de : ∀ a, a < 0 → ∀ b, b < 0 → a ≠ b → (TJx145de a).2.1 ≠ (TJx145de b).2.1 := by decide +kernel
theorem tyJx145de_ok : ∀ k, k < 0 → parseFieldDescriptor (TJx145de k).2.2.1 = some (tyJx145de k) := by decide +kernel
def RJx8e188 : String := "java/lang/Cloneable"
def TJx8e188 : u_T := fun k => match k with
  | _ => ("", "", "", false)
def tyJx8e188 : Nat → FieldType := fun k => match k with
  | _ => .int
abbrev wsJx8e1880 : List Cond := u_ws RJx8e188 TJx8e188 0
theorem nmJx8e188 : ∀ a, a < 0 → ∀ b, b < 0 → a ≠ b → (TJx8e188 a).2.1 ≠ (TJx8e188 b).2.1 := by decide +kernel
theorem tyJx8e188_ok : ∀ k, k < 0 → parseFieldDescriptor (TJx8e188 k).2.2.1 = some (tyJx8e188 k) := by decide +kernel
def RJxab1ab : String := "java/lang/Iterable"
def TJxab1ab : u_T := fun k => match k with
  | _ => ("", "", "", false)
def tyJxab1ab : Nat → FieldType := fun k => match k with
  | _ => .int
abbrev wsJxab1ab0 : List Cond := u_ws RJxab1ab TJxab1ab 0
theorem nmJxab1ab : ∀ a, a < 0 → ∀ b, b < 0 → a ≠ b → (TJxab1ab a).2.1 ≠ (TJxab1ab b).2.1 := by decide +kernel
theorem tyJxab1ab_ok : ∀ k, k < 0 → parseFieldDescriptor (TJxab1ab k).2.2.1 = some (tyJxab1ab k) := by decide +kernel
def RJ13 : String := "java/lang/Long"
def TJ13 : u_T := fun k => match k with
  | _ => ("", "", "", false)
def tyJ13 : Nat → FieldType := fun k => match k with
  | _ => .int
abbrev wsJ130 : List Cond := u_ws RJ13 TJ13 0
theorem nmJ13 : ∀ a, a < 0 → ∀ b, b < 0 → a ≠ b → (TJ13 a).2.1 ≠ (TJ13 b).2.1 := by decide +kernel
theorem tyJ13_ok : ∀ k, k < 0 → parseFieldDescriptor (TJ13 k).2.2.1 = some (tyJ13 k) := by decide +kernel
abbrev cJ13_bitCount_95d88 : ByteArray := prog_17_method_50_code
def yJ13_bitCount_95d88 : MethodName := ⟨RJ13, "bitCount", "(J)I"⟩
def RJ9 : String := "java/lang/Math"
def TJ9 : u_T := fun k => match k with
  | _ => ("", "", "", false)
def tyJ9 : Nat → FieldType := fun k => match k with
  | _ => .int
abbrev wsJ90 : List Cond := u_ws RJ9 TJ9 0
theorem nmJ9 : ∀ a, a < 0 → ∀ b, b < 0 → a ≠ b → (TJ9 a).2.1 ≠ (TJ9 b).2.1 := by decide +kernel
theorem tyJ9_ok : ∀ k, k < 0 → parseFieldDescriptor (TJ9 k).2.2.1 = some (tyJ9 k) := by decide +kernel
abbrev cJ9_max_7cf53 : ByteArray := prog_18_method_65_code
def yJ9_max_7cf53 : MethodName := ⟨RJ9, "max", "(II)I"⟩
abbrev cJ9_min_7cf53 : ByteArray := prog_18_method_69_code
def yJ9_min_7cf53 : MethodName := ⟨RJ9, "min", "(II)I"⟩
def RJ0 : String := "java/lang/String"
def TJ0 : u_T := fun k => match k with
  | _ => ("", "", "", false)
def tyJ0 : Nat → FieldType := fun k => match k with
  | _ => .int
abbrev wsJ00 : List Cond := u_ws RJ0 TJ0 0
theorem nmJ0 : ∀ a, a < 0 → ∀ b, b < 0 → a ≠ b → (TJ0 a).2.1 ≠ (TJ0 b).2.1 := by decide +kernel
theorem tyJ0_ok : ∀ k, k < 0 → parseFieldDescriptor (TJ0 k).2.2.1 = some (tyJ0 k) := by decide +kernel
def RJ10 : String := "java/lang/System"
def TJ10 : u_T := fun k => match k with
  | _ => ("", "", "", false)
def tyJ10 : Nat → FieldType := fun k => match k with
  | _ => .int
abbrev wsJ100 : List Cond := u_ws RJ10 TJ10 0
theorem nmJ10 : ∀ a, a < 0 → ∀ b, b < 0 → a ≠ b → (TJ10 a).2.1 ≠ (TJ10 b).2.1 := by decide +kernel
theorem tyJ10_ok : ∀ k, k < 0 → parseFieldDescriptor (TJ10 k).2.2.1 = some (tyJ10 k) := by decide +kernel
def RJxa1e45 : String := "java/util/AbstractCollection"
def TJxa1e45 : u_T := fun k => match k with
  | _ => ("", "", "", false)
def tyJxa1e45 : Nat → FieldType := fun k => match k with
  | _ => .int
abbrev wsJxa1e450 : List Cond := u_ws RJxa1e45 TJxa1e45 0
theorem nmJxa1e45 : ∀ a, a < 0 → ∀ b, b < 0 → a ≠ b → (TJxa1e45 a).2.1 ≠ (TJxa1e45 b).2.1 := by decide +kernel
theorem tyJxa1e45_ok : ∀ k, k < 0 → parseFieldDescriptor (TJxa1e45 k).2.2.1 = some (tyJxa1e45 k) := by decide +kernel
abbrev cJxa1e45_init_da8c8 : ByteArray := prog_23_method_1_code
def yJxa1e45_init_da8c8 : MethodName := ⟨RJxa1e45, "<init>", "()V"⟩
def RJxc12de : String := "java/util/AbstractList"
def TJxc12de : u_T := fun k => match k with
  | _ => ("", "", "", false)
def tyJxc12de : Nat → FieldType := fun k => match k with
  | _ => .int
abbrev wsJxc12de0 : List Cond := u_ws RJxc12de TJxc12de 0
theorem nmJxc12de : ∀ a, a < 0 → ∀ b, b < 0 → a ≠ b → (TJxc12de a).2.1 ≠ (TJxc12de b).2.1 := by decide +kernel
theorem tyJxc12de_ok : ∀ k, k < 0 → parseFieldDescriptor (TJxc12de k).2.2.1 = some (tyJxc12de k) := by decide +kernel
abbrev cJxc12de_init_da8c8 : ByteArray := prog_24_method_1_code
def yJxc12de_init_da8c8 : MethodName := ⟨RJxc12de, "<init>", "()V"⟩
def RJx4a65c : String := "java/util/ArrayList"
def TJx4a65c : u_T := fun k => match k with
  | 0 => ("java/util/AbstractList", "modCount", "I", false)
  | 1 => ("java/util/ArrayList", "elementData", "[Ljava/lang/Object;", false)
  | _ => ("java/util/ArrayList", "size", "I", false)
def tyJx4a65c : Nat → FieldType := fun k => match k with
  | 0 => .int
  | 1 => .array (.object "java/lang/Object")
  | _ => .int
abbrev wsJx4a65c0 : List Cond := u_ws RJx4a65c TJx4a65c 3
theorem nmJx4a65c : ∀ a, a < 3 → ∀ b, b < 3 → a ≠ b → (TJx4a65c a).2.1 ≠ (TJx4a65c b).2.1 := by decide +kernel
theorem tyJx4a65c_ok : ∀ k, k < 3 → parseFieldDescriptor (TJx4a65c k).2.2.1 = some (tyJx4a65c k) := by decide +kernel
abbrev cJx4a65c_init_da8c8 : ByteArray := prog_25_method_2_code
def yJx4a65c_init_da8c8 : MethodName := ⟨RJx4a65c, "<init>", "()V"⟩
abbrev cJx4a65c_grow_92f84 : ByteArray := prog_25_method_6_code
def yJx4a65c_grow_92f84 : MethodName := ⟨RJx4a65c, "grow", "(I)[Ljava/lang/Object;"⟩
abbrev cJx4a65c_grow_d5877 : ByteArray := prog_25_method_7_code
def yJx4a65c_grow_d5877 : MethodName := ⟨RJx4a65c, "grow", "()[Ljava/lang/Object;"⟩
abbrev cJx4a65c_size_8abf5 : ByteArray := prog_25_method_8_code
def yJx4a65c_size_8abf5 : MethodName := ⟨RJx4a65c, "size", "()I"⟩
abbrev cJx4a65c_elementData_915e3 : ByteArray := prog_25_method_18_code
def yJx4a65c_elementData_915e3 : MethodName := ⟨RJx4a65c, "elementData", "(I)Ljava/lang/Object;"⟩
abbrev cJx4a65c_get_915e3 : ByteArray := prog_25_method_20_code
def yJx4a65c_get_915e3 : MethodName := ⟨RJx4a65c, "get", "(I)Ljava/lang/Object;"⟩
abbrev cJx4a65c_add_72be8 : ByteArray := prog_25_method_24_code
def yJx4a65c_add_72be8 : MethodName := ⟨RJx4a65c, "add", "(Ljava/lang/Object;[Ljava/lang/Object;I)V"⟩
abbrev cJx4a65c_add_9ea2d : ByteArray := prog_25_method_25_code
def yJx4a65c_add_9ea2d : MethodName := ⟨RJx4a65c, "add", "(Ljava/lang/Object;)Z"⟩
def RJ7 : String := "java/util/Arrays"
def TJ7 : u_T := fun k => match k with
  | _ => ("", "", "", false)
def tyJ7 : Nat → FieldType := fun k => match k with
  | _ => .int
abbrev wsJ70 : List Cond := u_ws RJ7 TJ7 0
theorem nmJ7 : ∀ a, a < 0 → ∀ b, b < 0 → a ≠ b → (TJ7 a).2.1 ≠ (TJ7 b).2.1 := by decide +kernel
theorem tyJ7_ok : ∀ k, k < 0 → parseFieldDescriptor (TJ7 k).2.2.1 = some (tyJ7 k) := by decide +kernel
abbrev cJ7_copyOf_1904c : ByteArray := prog_26_method_119_code
def yJ7_copyOf_1904c : MethodName := ⟨RJ7, "copyOf", "([Ljava/lang/Object;I)[Ljava/lang/Object;"⟩
abbrev cJ7_copyOf_6403c : ByteArray := prog_26_method_120_code
def yJ7_copyOf_6403c : MethodName := ⟨RJ7, "copyOf", "([Ljava/lang/Object;ILjava/lang/Class;)[Ljava/lang/Object;"⟩
def RJx5ef63 : String := "java/util/Collection"
def TJx5ef63 : u_T := fun k => match k with
  | _ => ("", "", "", false)
def tyJx5ef63 : Nat → FieldType := fun k => match k with
  | _ => .int
abbrev wsJx5ef630 : List Cond := u_ws RJx5ef63 TJx5ef63 0
theorem nmJx5ef63 : ∀ a, a < 0 → ∀ b, b < 0 → a ≠ b → (TJx5ef63 a).2.1 ≠ (TJx5ef63 b).2.1 := by decide +kernel
theorem tyJx5ef63_ok : ∀ k, k < 0 → parseFieldDescriptor (TJx5ef63 k).2.2.1 = some (tyJx5ef63 k) := by decide +kernel
def RJxbd725 : String := "java/util/List"
def TJxbd725 : u_T := fun k => match k with
  | _ => ("", "", "", false)
def tyJxbd725 : Nat → FieldType := fun k => match k with
  | _ => .int
abbrev wsJxbd7250 : List Cond := u_ws RJxbd725 TJxbd725 0
theorem nmJxbd725 : ∀ a, a < 0 → ∀ b, b < 0 → a ≠ b → (TJxbd725 a).2.1 ≠ (TJxbd725 b).2.1 := by decide +kernel
theorem tyJxbd725_ok : ∀ k, k < 0 → parseFieldDescriptor (TJxbd725 k).2.2.1 = some (tyJxbd725 k) := by decide +kernel
def RJ15 : String := "java/util/Objects"
def TJ15 : u_T := fun k => match k with
  | _ => ("", "", "", false)
def tyJ15 : Nat → FieldType := fun k => match k with
  | _ => .int
abbrev wsJ150 : List Cond := u_ws RJ15 TJ15 0
theorem nmJ15 : ∀ a, a < 0 → ∀ b, b < 0 → a ≠ b → (TJ15 a).2.1 ≠ (TJ15 b).2.1 := by decide +kernel
theorem tyJ15_ok : ∀ k, k < 0 → parseFieldDescriptor (TJ15 k).2.2.1 = some (tyJ15 k) := by decide +kernel
abbrev cJ15_checkIndex_7cf53 : ByteArray := prog_29_method_17_code
def yJ15_checkIndex_7cf53 : MethodName := ⟨RJ15, "checkIndex", "(II)I"⟩
def RJxf0a74 : String := "java/util/RandomAccess"
def TJxf0a74 : u_T := fun k => match k with
  | _ => ("", "", "", false)
def tyJxf0a74 : Nat → FieldType := fun k => match k with
  | _ => .int
abbrev wsJxf0a740 : List Cond := u_ws RJxf0a74 TJxf0a74 0
theorem nmJxf0a74 : ∀ a, a < 0 → ∀ b, b < 0 → a ≠ b → (TJxf0a74 a).2.1 ≠ (TJxf0a74 b).2.1 := by decide +kernel
theorem tyJxf0a74_ok : ∀ k, k < 0 → parseFieldDescriptor (TJxf0a74 k).2.2.1 = some (tyJxf0a74 k) := by decide +kernel
def RJxa66e6 : String := "java/util/SequencedCollection"
def TJxa66e6 : u_T := fun k => match k with
  | _ => ("", "", "", false)
def tyJxa66e6 : Nat → FieldType := fun k => match k with
  | _ => .int
abbrev wsJxa66e60 : List Cond := u_ws RJxa66e6 TJxa66e6 0
theorem nmJxa66e6 : ∀ a, a < 0 → ∀ b, b < 0 → a ≠ b → (TJxa66e6 a).2.1 ≠ (TJxa66e6 b).2.1 := by decide +kernel
theorem tyJxa66e6_ok : ∀ k, k < 0 → parseFieldDescriptor (TJxa66e6 k).2.2.1 = some (tyJxa66e6 k) := by decide +kernel
def RJ8 : String := "jdk/internal/util/ArraysSupport"
def TJ8 : u_T := fun k => match k with
  | _ => ("", "", "", false)
def tyJ8 : Nat → FieldType := fun k => match k with
  | _ => .int
abbrev wsJ80 : List Cond := u_ws RJ8 TJ8 0
theorem nmJ8 : ∀ a, a < 0 → ∀ b, b < 0 → a ≠ b → (TJ8 a).2.1 ≠ (TJ8 b).2.1 := by decide +kernel
theorem tyJ8_ok : ∀ k, k < 0 → parseFieldDescriptor (TJ8 k).2.2.1 = some (tyJ8 k) := by decide +kernel
abbrev cJ8_newLength_cabcc : ByteArray := prog_32_method_27_code
def yJ8_newLength_cabcc : MethodName := ⟨RJ8, "newLength", "(III)I"⟩
abbrev cJ8_hugeLength_7cf53 : ByteArray := prog_32_method_28_code
def yJ8_hugeLength_7cf53 : MethodName := ⟨RJ8, "hugeLength", "(II)I"⟩
def RJ3 : String := "jdk/internal/util/Preconditions"
def TJ3 : u_T := fun k => match k with
  | _ => ("", "", "", false)
def tyJ3 : Nat → FieldType := fun k => match k with
  | _ => .int
abbrev wsJ30 : List Cond := u_ws RJ3 TJ3 0
theorem nmJ3 : ∀ a, a < 0 → ∀ b, b < 0 → a ≠ b → (TJ3 a).2.1 ≠ (TJ3 b).2.1 := by decide +kernel
theorem tyJ3_ok : ∀ k, k < 0 → parseFieldDescriptor (TJ3 k).2.2.1 = some (tyJ3 k) := by decide +kernel
abbrev cJ3_checkIndex_8e157 : ByteArray := prog_33_method_11_code
def yJ3_checkIndex_8e157 : MethodName := ⟨RJ3, "checkIndex", "(IILjava/util/function/BiFunction;)I"⟩
def RL : String := "DataroomLaw"
abbrev cL_cell : ByteArray := method_2_code
def yL_cell : MethodName := ⟨RL, "cell", "([II)I"⟩
abbrev cL_low : ByteArray := method_3_code
def yL_low : MethodName := ⟨RL, "low", "(II)I"⟩
abbrev cL_file : ByteArray := method_4_code
def yL_file : MethodName := ⟨RL, "file", "(LDataroom;I)I"⟩
abbrev cL_change : ByteArray := method_5_code
def yL_change : MethodName := ⟨RL, "change", "(LDataroom;II)I"⟩
abbrev cL_party : ByteArray := method_6_code
def yL_party : MethodName := ⟨RL, "party", "(LDataroom;I)I"⟩
abbrev cL_budget : ByteArray := method_7_code
def yL_budget : MethodName := ⟨RL, "budget", "(LDataroom;II)I"⟩
abbrev cL_right : ByteArray := method_8_code
def yL_right : MethodName := ⟨RL, "right", "(LDataroom;IIIII)I"⟩
abbrev cL_takeBack : ByteArray := method_9_code
def yL_takeBack : MethodName := ⟨RL, "takeBack", "(LDataroom;II)I"⟩
abbrev cL_seal : ByteArray := method_10_code
def yL_seal : MethodName := ⟨RL, "seal", "(LDataroom;II)I"⟩
abbrev cL_pass : ByteArray := method_11_code
def yL_pass : MethodName := ⟨RL, "pass", "(LDataroom;I)I"⟩
abbrev cL_ask : ByteArray := method_12_code
def yL_ask : MethodName := ⟨RL, "ask", "(LDataroom;III)I"⟩
abbrev cL_cost : ByteArray := method_13_code
def yL_cost : MethodName := ⟨RL, "cost", "(LDataroom;III)I"⟩
abbrev cL_answer : ByteArray := method_14_code
def yL_answer : MethodName := ⟨RL, "answer", "(LDataroom;II)I"⟩
abbrev cL_spent : ByteArray := method_15_code
def yL_spent : MethodName := ⟨RL, "spent", "(LDataroom;I)I"⟩
abbrev cL_finds : ByteArray := method_17_code
def yL_finds : MethodName := ⟨RL, "finds", "(LDataroom;II)I"⟩
abbrev cL_together : ByteArray := method_18_code
def yL_together : MethodName := ⟨RL, "together", "(LDataroom;II)I"⟩
abbrev cL_rightTo : ByteArray := method_19_code
def yL_rightTo : MethodName := ⟨RL, "rightTo", "(LDataroom;II)I"⟩
abbrev cL_isSealed : ByteArray := method_20_code
def yL_isSealed : MethodName := ⟨RL, "isSealed", "(LDataroom;I)I"⟩
abbrev cL_count : ByteArray := method_21_code
def yL_count : MethodName := ⟨RL, "count", "(LDataroom;II)I"⟩
abbrev cL_act : ByteArray := method_22_code
def yL_act : MethodName := ⟨RL, "act", "(LDataroom;I)I"⟩
abbrev cL_areAlike : ByteArray := method_23_code
def yL_areAlike : MethodName := ⟨RL, "areAlike", "(LDataroom;LDataroom;I)Z"⟩
abbrev cL_isSo : ByteArray := method_24_code
def yL_isSo : MethodName := ⟨RL, "isSo", "(LDataroom;)Z"⟩
abbrev cL_law : ByteArray := code
def yL_law : MethodName := ⟨RL, "law", "([I)Z"⟩
abbrev vwCl : List vw_C := [(RJx4a65c, TJx4a65c, 3), (RX0, TX0, 6), (RX1, TX1, 2), (RX2, TX2, 2), (RX3, TX3, 2), (RX4, TX4, 5), (RX5, TX5, 3), (RX6, TX6, 6)]
