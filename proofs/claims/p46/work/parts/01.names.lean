def RX0 : String := "WitnessesMustLie$Alike"
def TX0 : u_T := fun k => match k with
  | _ => ("WitnessesMustLie$Says", "number", "I", true)
def tyX0 : Nat → FieldType := fun k => match k with
  | _ => .int
abbrev wsX00 : List Cond := u_ws RX0 TX0 1
theorem nmX0 : ∀ a, a < 1 → ∀ b, b < 1 → a ≠ b → (TX0 a).2.1 ≠ (TX0 b).2.1 := by decide +kernel
theorem tyX0_ok : ∀ k, k < 1 → parseFieldDescriptor (TX0 k).2.2.1 = some (tyX0 k) := by decide +kernel
abbrev cX0_init : ByteArray := prog_2_method_1_code
def yX0_init : MethodName := ⟨RX0, "<init>", "(I)V"⟩
abbrev cX0_trueWorlds : ByteArray := prog_2_method_2_code
def yX0_trueWorlds : MethodName := ⟨RX0, "trueWorlds", "(JJJ)J"⟩
abbrev cX0_words : ByteArray := prog_2_method_3_code
def yX0_words : MethodName := ⟨RX0, "words", "(I)I"⟩
def RX1 : String := "WitnessesMustLie$Both"
def TX1 : u_T := fun k => match k with
  | _ => ("WitnessesMustLie$Says", "number", "I", true)
def tyX1 : Nat → FieldType := fun k => match k with
  | _ => .int
abbrev wsX10 : List Cond := u_ws RX1 TX1 1
theorem nmX1 : ∀ a, a < 1 → ∀ b, b < 1 → a ≠ b → (TX1 a).2.1 ≠ (TX1 b).2.1 := by decide +kernel
theorem tyX1_ok : ∀ k, k < 1 → parseFieldDescriptor (TX1 k).2.2.1 = some (tyX1 k) := by decide +kernel
abbrev cX1_init : ByteArray := prog_3_method_1_code
def yX1_init : MethodName := ⟨RX1, "<init>", "(I)V"⟩
abbrev cX1_trueWorlds : ByteArray := prog_3_method_2_code
def yX1_trueWorlds : MethodName := ⟨RX1, "trueWorlds", "(JJJ)J"⟩
abbrev cX1_words : ByteArray := prog_3_method_3_code
def yX1_words : MethodName := ⟨RX1, "words", "(I)I"⟩
abbrev cX1_facts : ByteArray := prog_3_method_4_code
def yX1_facts : MethodName := ⟨RX1, "facts", "(III)I"⟩
def RX2 : String := "WitnessesMustLie$Denies"
def TX2 : u_T := fun k => match k with
  | _ => ("WitnessesMustLie$Says", "number", "I", true)
def tyX2 : Nat → FieldType := fun k => match k with
  | _ => .int
abbrev wsX20 : List Cond := u_ws RX2 TX2 1
theorem nmX2 : ∀ a, a < 1 → ∀ b, b < 1 → a ≠ b → (TX2 a).2.1 ≠ (TX2 b).2.1 := by decide +kernel
theorem tyX2_ok : ∀ k, k < 1 → parseFieldDescriptor (TX2 k).2.2.1 = some (tyX2 k) := by decide +kernel
abbrev cX2_init : ByteArray := prog_4_method_1_code
def yX2_init : MethodName := ⟨RX2, "<init>", "(I)V"⟩
abbrev cX2_trueWorlds : ByteArray := prog_4_method_2_code
def yX2_trueWorlds : MethodName := ⟨RX2, "trueWorlds", "(JJJ)J"⟩
abbrev cX2_words : ByteArray := prog_4_method_3_code
def yX2_words : MethodName := ⟨RX2, "words", "(I)I"⟩
def RX3 : String := "WitnessesMustLie$Either"
def TX3 : u_T := fun k => match k with
  | _ => ("WitnessesMustLie$Says", "number", "I", true)
def tyX3 : Nat → FieldType := fun k => match k with
  | _ => .int
abbrev wsX30 : List Cond := u_ws RX3 TX3 1
theorem nmX3 : ∀ a, a < 1 → ∀ b, b < 1 → a ≠ b → (TX3 a).2.1 ≠ (TX3 b).2.1 := by decide +kernel
theorem tyX3_ok : ∀ k, k < 1 → parseFieldDescriptor (TX3 k).2.2.1 = some (tyX3 k) := by decide +kernel
abbrev cX3_init : ByteArray := prog_5_method_1_code
def yX3_init : MethodName := ⟨RX3, "<init>", "(I)V"⟩
abbrev cX3_trueWorlds : ByteArray := prog_5_method_2_code
def yX3_trueWorlds : MethodName := ⟨RX3, "trueWorlds", "(JJJ)J"⟩
abbrev cX3_words : ByteArray := prog_5_method_3_code
def yX3_words : MethodName := ⟨RX3, "words", "(I)I"⟩
def RX4 : String := "WitnessesMustLie$Expert"
def TX4 : u_T := fun k => match k with
  | _ => ("WitnessesMustLie$Says", "number", "I", true)
def tyX4 : Nat → FieldType := fun k => match k with
  | _ => .int
abbrev wsX40 : List Cond := u_ws RX4 TX4 1
theorem nmX4 : ∀ a, a < 1 → ∀ b, b < 1 → a ≠ b → (TX4 a).2.1 ≠ (TX4 b).2.1 := by decide +kernel
theorem tyX4_ok : ∀ k, k < 1 → parseFieldDescriptor (TX4 k).2.2.1 = some (tyX4 k) := by decide +kernel
abbrev cX4_init : ByteArray := prog_6_method_1_code
def yX4_init : MethodName := ⟨RX4, "<init>", "(I)V"⟩
abbrev cX4_trueWorlds : ByteArray := prog_6_method_2_code
def yX4_trueWorlds : MethodName := ⟨RX4, "trueWorlds", "(JJJ)J"⟩
abbrev cX4_words : ByteArray := prog_6_method_3_code
def yX4_words : MethodName := ⟨RX4, "words", "(I)I"⟩
def RX5 : String := "WitnessesMustLie$If"
def TX5 : u_T := fun k => match k with
  | _ => ("WitnessesMustLie$Says", "number", "I", true)
def tyX5 : Nat → FieldType := fun k => match k with
  | _ => .int
abbrev wsX50 : List Cond := u_ws RX5 TX5 1
theorem nmX5 : ∀ a, a < 1 → ∀ b, b < 1 → a ≠ b → (TX5 a).2.1 ≠ (TX5 b).2.1 := by decide +kernel
theorem tyX5_ok : ∀ k, k < 1 → parseFieldDescriptor (TX5 k).2.2.1 = some (tyX5 k) := by decide +kernel
abbrev cX5_init : ByteArray := prog_7_method_1_code
def yX5_init : MethodName := ⟨RX5, "<init>", "(I)V"⟩
abbrev cX5_trueWorlds : ByteArray := prog_7_method_2_code
def yX5_trueWorlds : MethodName := ⟨RX5, "trueWorlds", "(JJJ)J"⟩
abbrev cX5_words : ByteArray := prog_7_method_3_code
def yX5_words : MethodName := ⟨RX5, "words", "(I)I"⟩
def RX6 : String := "WitnessesMustLie$Poet"
def TX6 : u_T := fun k => match k with
  | _ => ("WitnessesMustLie$Says", "number", "I", true)
def tyX6 : Nat → FieldType := fun k => match k with
  | _ => .int
abbrev wsX60 : List Cond := u_ws RX6 TX6 1
theorem nmX6 : ∀ a, a < 1 → ∀ b, b < 1 → a ≠ b → (TX6 a).2.1 ≠ (TX6 b).2.1 := by decide +kernel
theorem tyX6_ok : ∀ k, k < 1 → parseFieldDescriptor (TX6 k).2.2.1 = some (tyX6 k) := by decide +kernel
abbrev cX6_init : ByteArray := prog_8_method_1_code
def yX6_init : MethodName := ⟨RX6, "<init>", "(I)V"⟩
abbrev cX6_trueWorlds : ByteArray := prog_8_method_2_code
def yX6_trueWorlds : MethodName := ⟨RX6, "trueWorlds", "(JJJ)J"⟩
abbrev cX6_words : ByteArray := prog_8_method_3_code
def yX6_words : MethodName := ⟨RX6, "words", "(I)I"⟩
abbrev cX6_facts : ByteArray := prog_8_method_4_code
def yX6_facts : MethodName := ⟨RX6, "facts", "(III)I"⟩
def RX7 : String := "WitnessesMustLie$Saying"
def TX7 : u_T := fun k => match k with
  | 0 => ("WitnessesMustLie$Saying", "teller", "I", true)
  | 1 => ("WitnessesMustLie$Saying", "kind", "LWitnessesMustLie$Says;", true)
  | 2 => ("WitnessesMustLie$Saying", "figure", "I", true)
  | 3 => ("WitnessesMustLie$Saying", "a", "I", true)
  | 4 => ("WitnessesMustLie$Saying", "b", "I", true)
  | _ => ("WitnessesMustLie$Saying", "trueWorlds", "J", true)
def tyX7 : Nat → FieldType := fun k => match k with
  | 0 => .int
  | 1 => .object "WitnessesMustLie$Says"
  | 2 => .int
  | 3 => .int
  | 4 => .int
  | _ => .long
abbrev wsX70 : List Cond := u_ws RX7 TX7 6
theorem nmX7 : ∀ a, a < 6 → ∀ b, b < 6 → a ≠ b → (TX7 a).2.1 ≠ (TX7 b).2.1 := by decide +kernel
theorem tyX7_ok : ∀ k, k < 6 → parseFieldDescriptor (TX7 k).2.2.1 = some (tyX7 k) := by decide +kernel
abbrev cX7_init : ByteArray := prog_9_method_1_code
def yX7_init : MethodName := ⟨RX7, "<init>", "(ILWitnessesMustLie$Says;IIIJ)V"⟩
abbrev cX7_told : ByteArray := prog_9_method_2_code
def yX7_told : MethodName := ⟨RX7, "told", "(I)I"⟩
abbrev cX7_words : ByteArray := prog_9_method_3_code
def yX7_words : MethodName := ⟨RX7, "words", "()I"⟩
abbrev cX7_facts : ByteArray := prog_9_method_4_code
def yX7_facts : MethodName := ⟨RX7, "facts", "()I"⟩
def RX8 : String := "WitnessesMustLie$Says"
def TX8 : u_T := fun k => match k with
  | _ => ("WitnessesMustLie$Says", "number", "I", true)
def tyX8 : Nat → FieldType := fun k => match k with
  | _ => .int
abbrev wsX80 : List Cond := u_ws RX8 TX8 1
theorem nmX8 : ∀ a, a < 1 → ∀ b, b < 1 → a ≠ b → (TX8 a).2.1 ≠ (TX8 b).2.1 := by decide +kernel
theorem tyX8_ok : ∀ k, k < 1 → parseFieldDescriptor (TX8 k).2.2.1 = some (tyX8 k) := by decide +kernel
abbrev cX8_init : ByteArray := prog_10_method_1_code
def yX8_init : MethodName := ⟨RX8, "<init>", "(I)V"⟩
abbrev cX8_worldsOf : ByteArray := prog_10_method_2_code
def yX8_worldsOf : MethodName := ⟨RX8, "worldsOf", "(III)J"⟩
abbrev cX8_trueWorlds : ByteArray := prog_10_method_3_code
def yX8_trueWorlds : MethodName := ⟨RX8, "trueWorlds", "(JJJ)J"⟩
abbrev cX8_words : ByteArray := prog_10_method_4_code
def yX8_words : MethodName := ⟨RX8, "words", "(I)I"⟩
abbrev cX8_facts : ByteArray := prog_10_method_5_code
def yX8_facts : MethodName := ⟨RX8, "facts", "(III)I"⟩
def RX9 : String := "WitnessesMustLie$Shelf"
def TX9 : u_T := fun k => match k with
  | 0 => ("WitnessesMustLie$Shelf", "numbers", "[I", true)
  | 1 => ("WitnessesMustLie$Shelf", "holds", "I", false)
  | 2 => ("WitnessesMustLie$Shelf", "kind", "LWitnessesMustLie$Says;", false)
  | 3 => ("WitnessesMustLie$Shelf", "figure", "I", false)
  | 4 => ("WitnessesMustLie$Shelf", "sort", "I", false)
  | _ => ("WitnessesMustLie$Shelf", "length", "I", false)
def tyX9 : Nat → FieldType := fun k => match k with
  | 0 => .array .int
  | 1 => .int
  | 2 => .object "WitnessesMustLie$Says"
  | 3 => .int
  | 4 => .int
  | _ => .int
abbrev wsX90 : List Cond := u_ws RX9 TX9 6
theorem nmX9 : ∀ a, a < 6 → ∀ b, b < 6 → a ≠ b → (TX9 a).2.1 ≠ (TX9 b).2.1 := by decide +kernel
theorem tyX9_ok : ∀ k, k < 6 → parseFieldDescriptor (TX9 k).2.2.1 = some (tyX9 k) := by decide +kernel
abbrev cX9_init : ByteArray := prog_11_method_1_code
def yX9_init : MethodName := ⟨RX9, "<init>", "(LWitnessesMustLie$Says;)V"⟩
abbrev cX9_holdNothing : ByteArray := prog_11_method_2_code
def yX9_holdNothing : MethodName := ⟨RX9, "holdNothing", "()V"⟩
abbrev cX9_holdSaying : ByteArray := prog_11_method_3_code
def yX9_holdSaying : MethodName := ⟨RX9, "holdSaying", "(LWitnessesMustLie$Says;I)V"⟩
abbrev cX9_holdRow : ByteArray := prog_11_method_4_code
def yX9_holdRow : MethodName := ⟨RX9, "holdRow", "(II)V"⟩
abbrev cX9_isEmpty : ByteArray := prog_11_method_5_code
def yX9_isEmpty : MethodName := ⟨RX9, "isEmpty", "()Z"⟩
abbrev cX9_refusalAsSaying : ByteArray := prog_11_method_6_code
def yX9_refusalAsSaying : MethodName := ⟨RX9, "refusalAsSaying", "()I"⟩
abbrev cX9_refusalAsRow : ByteArray := prog_11_method_7_code
def yX9_refusalAsRow : MethodName := ⟨RX9, "refusalAsRow", "()I"⟩
abbrev cX9_refusalUnless : ByteArray := prog_11_method_8_code
def yX9_refusalUnless : MethodName := ⟨RX9, "refusalUnless", "(I)I"⟩
abbrev cX9_worldsOf : ByteArray := prog_11_method_9_code
def yX9_worldsOf : MethodName := ⟨RX9, "worldsOf", "(II)J"⟩
abbrev cX9_hasPlaces : ByteArray := prog_11_method_10_code
def yX9_hasPlaces : MethodName := ⟨RX9, "hasPlaces", "(II)Z"⟩
abbrev cX9_numberAt : ByteArray := prog_11_method_11_code
def yX9_numberAt : MethodName := ⟨RX9, "numberAt", "(I)I"⟩
abbrev cX9_setNumber : ByteArray := prog_11_method_12_code
def yX9_setNumber : MethodName := ⟨RX9, "setNumber", "(II)Z"⟩
abbrev cX9_lowestBits : ByteArray := prog_11_method_13_code
def yX9_lowestBits : MethodName := ⟨RX9, "lowestBits", "(I)I"⟩
def RX10 : String := "WitnessesMustLie$Trial"
def TX10 : u_T := fun k => match k with
  | 0 => ("WitnessesMustLie$Trial", "laws", "Ljava/util/ArrayList;", true)
  | 1 => ("WitnessesMustLie$Trial", "said", "Ljava/util/ArrayList;", true)
  | 2 => ("WitnessesMustLie$Trial", "known", "[I", true)
  | 3 => ("WitnessesMustLie$Trial", "witnesses", "I", false)
  | _ => ("WitnessesMustLie$Trial", "truthWorld", "I", false)
def tyX10 : Nat → FieldType := fun k => match k with
  | 0 => .object "java/util/ArrayList"
  | 1 => .object "java/util/ArrayList"
  | 2 => .array .int
  | 3 => .int
  | _ => .int
abbrev wsX100 : List Cond := u_ws RX10 TX10 5
theorem nmX10 : ∀ a, a < 5 → ∀ b, b < 5 → a ≠ b → (TX10 a).2.1 ≠ (TX10 b).2.1 := by decide +kernel
theorem tyX10_ok : ∀ k, k < 5 → parseFieldDescriptor (TX10 k).2.2.1 = some (tyX10 k) := by decide +kernel
abbrev cX10_init : ByteArray := prog_12_method_1_code
def yX10_init : MethodName := ⟨RX10, "<init>", "()V"⟩
abbrev cX10_becomes : ByteArray := prog_12_method_2_code
def yX10_becomes : MethodName := ⟨RX10, "becomes", "(LWitnessesMustLie$Trial;)V"⟩
abbrev cX10_refill : ByteArray := prog_12_method_3_code
def yX10_refill : MethodName := ⟨RX10, "refill", "(Ljava/util/ArrayList;Ljava/util/ArrayList;)V"⟩
abbrev cX10_hasWitness : ByteArray := prog_12_method_4_code
def yX10_hasWitness : MethodName := ⟨RX10, "hasWitness", "(I)Z"⟩
abbrev cX10_knownBy : ByteArray := prog_12_method_5_code
def yX10_knownBy : MethodName := ⟨RX10, "knownBy", "(I)I"⟩
abbrev cX10_addLaw : ByteArray := prog_12_method_6_code
def yX10_addLaw : MethodName := ⟨RX10, "addLaw", "(LWitnessesMustLie$Saying;)Z"⟩
abbrev cX10_addSaid : ByteArray := prog_12_method_7_code
def yX10_addSaid : MethodName := ⟨RX10, "addSaid", "(LWitnessesMustLie$Saying;)Z"⟩
abbrev cX10_addWitness : ByteArray := prog_12_method_8_code
def yX10_addWitness : MethodName := ⟨RX10, "addWitness", "(I)Z"⟩
abbrev cX10_setTruth : ByteArray := prog_12_method_9_code
def yX10_setTruth : MethodName := ⟨RX10, "setTruth", "(I)Z"⟩
abbrev cX10_mayBe : ByteArray := prog_12_method_10_code
def yX10_mayBe : MethodName := ⟨RX10, "mayBe", "()J"⟩
abbrev cX10_left : ByteArray := prog_12_method_11_code
def yX10_left : MethodName := ⟨RX10, "left", "()J"⟩
abbrev cX10_mayBeOrLeft : ByteArray := prog_12_method_12_code
def yX10_mayBeOrLeft : MethodName := ⟨RX10, "mayBeOrLeft", "(I)J"⟩
abbrev cX10_leftBySaid : ByteArray := prog_12_method_13_code
def yX10_leftBySaid : MethodName := ⟨RX10, "leftBySaid", "(JI)J"⟩
abbrev cX10_leftByTellers : ByteArray := prog_12_method_14_code
def yX10_leftByTellers : MethodName := ⟨RX10, "leftByTellers", "(I)J"⟩
abbrev cX10_isPlainBy : ByteArray := prog_12_method_15_code
def yX10_isPlainBy : MethodName := ⟨RX10, "isPlainBy", "(I)Z"⟩
abbrev cX10_trueOnes : ByteArray := prog_12_method_16_code
def yX10_trueOnes : MethodName := ⟨RX10, "trueOnes", "(I)I"⟩
abbrev cX10_wordsSaid : ByteArray := prog_12_method_17_code
def yX10_wordsSaid : MethodName := ⟨RX10, "wordsSaid", "()I"⟩
abbrev cX10_reachedFrom : ByteArray := prog_12_method_18_code
def yX10_reachedFrom : MethodName := ⟨RX10, "reachedFrom", "(JJ)J"⟩
def RX11 : String := "WitnessesMustLie"
def TX11 : u_T := fun k => match k with
  | 0 => ("WitnessesMustLie", "kinds", "Ljava/util/ArrayList;", true)
  | 1 => ("WitnessesMustLie", "shelves", "[LWitnessesMustLie$Shelf;", true)
  | 2 => ("WitnessesMustLie", "court", "LWitnessesMustLie$Trial;", true)
  | 3 => ("WitnessesMustLie", "kept", "LWitnessesMustLie$Trial;", true)
  | 4 => ("WitnessesMustLie", "tried", "LWitnessesMustLie$Trial;", true)
  | 5 => ("WitnessesMustLie", "isKept", "Z", false)
  | 6 => ("WitnessesMustLie", "oneLies", "[J", true)
  | _ => ("WitnessesMustLie", "otherLies", "[J", true)
def tyX11 : Nat → FieldType := fun k => match k with
  | 0 => .object "java/util/ArrayList"
  | 1 => .array (.object "WitnessesMustLie$Shelf")
  | 2 => .object "WitnessesMustLie$Trial"
  | 3 => .object "WitnessesMustLie$Trial"
  | 4 => .object "WitnessesMustLie$Trial"
  | 5 => .boolean
  | 6 => .array .long
  | _ => .array .long
abbrev wsX110 : List Cond := u_ws RX11 TX11 8
theorem nmX11 : ∀ a, a < 8 → ∀ b, b < 8 → a ≠ b → (TX11 a).2.1 ≠ (TX11 b).2.1 := by decide +kernel
theorem tyX11_ok : ∀ k, k < 8 → parseFieldDescriptor (TX11 k).2.2.1 = some (tyX11 k) := by decide +kernel
abbrev cX11_init : ByteArray := prog_1_method_1_code
def yX11_init : MethodName := ⟨RX11, "<init>", "()V"⟩
abbrev cX11_trial : ByteArray := prog_1_method_2_code
def yX11_trial : MethodName := ⟨RX11, "trial", "(I)I"⟩
abbrev cX11_law : ByteArray := prog_1_method_3_code
def yX11_law : MethodName := ⟨RX11, "law", "(II)I"⟩
abbrev cX11_said : ByteArray := prog_1_method_4_code
def yX11_said : MethodName := ⟨RX11, "said", "(II)I"⟩
abbrev cX11_knows : ByteArray := prog_1_method_5_code
def yX11_knows : MethodName := ⟨RX11, "knows", "(I)I"⟩
abbrev cX11_rules : ByteArray := prog_1_method_7_code
def yX11_rules : MethodName := ⟨RX11, "rules", "(III)I"⟩
abbrev cX11_says : ByteArray := prog_1_method_8_code
def yX11_says : MethodName := ⟨RX11, "says", "(IIII)I"⟩
abbrev cX11_unsays : ByteArray := prog_1_method_9_code
def yX11_unsays : MethodName := ⟨RX11, "unsays", "()I"⟩
abbrev cX11_witness : ByteArray := prog_1_method_10_code
def yX11_witness : MethodName := ⟨RX11, "witness", "(I)I"⟩
abbrev cX11_truth : ByteArray := prog_1_method_11_code
def yX11_truth : MethodName := ⟨RX11, "truth", "(I)I"⟩
abbrev cX11_worlds : ByteArray := prog_1_method_12_code
def yX11_worlds : MethodName := ⟨RX11, "worlds", "(I)J"⟩
abbrev cX11_many : ByteArray := prog_1_method_13_code
def yX11_many : MethodName := ⟨RX11, "many", "(I)I"⟩
abbrev cX11_proved : ByteArray := prog_1_method_14_code
def yX11_proved : MethodName := ⟨RX11, "proved", "(I)I"⟩
abbrev cX11_slips : ByteArray := prog_1_method_15_code
def yX11_slips : MethodName := ⟨RX11, "slips", "(I)I"⟩
abbrev cX11_alone : ByteArray := prog_1_method_16_code
def yX11_alone : MethodName := ⟨RX11, "alone", "(I)I"⟩
abbrev cX11_clash : ByteArray := prog_1_method_17_code
def yX11_clash : MethodName := ⟨RX11, "clash", "()I"⟩
abbrev cX11_proof : ByteArray := prog_1_method_18_code
def yX11_proof : MethodName := ⟨RX11, "proof", "(I)I"⟩
abbrev cX11_slipped : ByteArray := prog_1_method_19_code
def yX11_slipped : MethodName := ⟨RX11, "slipped", "()I"⟩
abbrev cX11_ask : ByteArray := prog_1_method_20_code
def yX11_ask : MethodName := ⟨RX11, "ask", "()I"⟩
abbrev cX11_plain : ByteArray := prog_1_method_21_code
def yX11_plain : MethodName := ⟨RX11, "plain", "()I"⟩
abbrev cX11_order : ByteArray := prog_1_method_22_code
def yX11_order : MethodName := ⟨RX11, "order", "(I)I"⟩
abbrev cX11_without : ByteArray := prog_1_method_23_code
def yX11_without : MethodName := ⟨RX11, "without", "(I)I"⟩
abbrev cX11_lie : ByteArray := prog_1_method_24_code
def yX11_lie : MethodName := ⟨RX11, "lie", "(II)I"⟩
abbrev cX11_tells : ByteArray := prog_1_method_26_code
def yX11_tells : MethodName := ⟨RX11, "tells", "(III)I"⟩
abbrev cX11_verdict : ByteArray := prog_1_method_27_code
def yX11_verdict : MethodName := ⟨RX11, "verdict", "()I"⟩
abbrev cX11_certain : ByteArray := prog_1_method_28_code
def yX11_certain : MethodName := ⟨RX11, "certain", "(I)I"⟩
abbrev cX11_knowsOf : ByteArray := prog_1_method_29_code
def yX11_knowsOf : MethodName := ⟨RX11, "knowsOf", "(II)I"⟩
abbrev cX11_allKnow : ByteArray := prog_1_method_30_code
def yX11_allKnow : MethodName := ⟨RX11, "allKnow", "(I)I"⟩
abbrev cX11_seeds : ByteArray := prog_1_method_34_code
def yX11_seeds : MethodName := ⟨RX11, "seeds", "(III)I"⟩
abbrev cX11_image : ByteArray := prog_1_method_35_code
def yX11_image : MethodName := ⟨RX11, "image", "()I"⟩
abbrev cX11_restore : ByteArray := prog_1_method_36_code
def yX11_restore : MethodName := ⟨RX11, "restore", "()I"⟩
abbrev cX11_count : ByteArray := prog_1_method_37_code
def yX11_count : MethodName := ⟨RX11, "count", "(I)I"⟩
abbrev cX11_keep : ByteArray := prog_1_method_38_code
def yX11_keep : MethodName := ⟨RX11, "keep", "(IIII)I"⟩
abbrev cX11_row : ByteArray := prog_1_method_39_code
def yX11_row : MethodName := ⟨RX11, "row", "(III)I"⟩
abbrev cX11_put : ByteArray := prog_1_method_40_code
def yX11_put : MethodName := ⟨RX11, "put", "(III)I"⟩
abbrev cX11_element : ByteArray := prog_1_method_41_code
def yX11_element : MethodName := ⟨RX11, "element", "(II)J"⟩
abbrev cX11_isFact : ByteArray := prog_1_method_45_code
def yX11_isFact : MethodName := ⟨RX11, "isFact", "(I)Z"⟩
abbrev cX11_areFacts : ByteArray := prog_1_method_46_code
def yX11_areFacts : MethodName := ⟨RX11, "areFacts", "(I)Z"⟩
abbrev cX11_isWorld : ByteArray := prog_1_method_47_code
def yX11_isWorld : MethodName := ⟨RX11, "isWorld", "(I)Z"⟩
abbrev cX11_isEitherOr : ByteArray := prog_1_method_48_code
def yX11_isEitherOr : MethodName := ⟨RX11, "isEitherOr", "(I)Z"⟩
abbrev cX11_oneIf : ByteArray := prog_1_method_49_code
def yX11_oneIf : MethodName := ⟨RX11, "oneIf", "(Z)I"⟩
abbrev cX11_refusedLong : ByteArray := prog_1_method_50_code
def yX11_refusedLong : MethodName := ⟨RX11, "refusedLong", "(I)J"⟩
abbrev cX11_shelfAt : ByteArray := prog_1_method_51_code
def yX11_shelfAt : MethodName := ⟨RX11, "shelfAt", "(I)LWitnessesMustLie$Shelf;"⟩
abbrev cX11_kindNumbered : ByteArray := prog_1_method_52_code
def yX11_kindNumbered : MethodName := ⟨RX11, "kindNumbered", "(I)LWitnessesMustLie$Says;"⟩
abbrev cX11_sayingIn : ByteArray := prog_1_method_53_code
def yX11_sayingIn : MethodName := ⟨RX11, "sayingIn", "(Ljava/util/ArrayList;I)LWitnessesMustLie$Saying;"⟩
abbrev cX11_newSaying : ByteArray := prog_1_method_54_code
def yX11_newSaying : MethodName := ⟨RX11, "newSaying", "(ILWitnessesMustLie$Says;III)LWitnessesMustLie$Saying;"⟩
abbrev cX11_worldsWith : ByteArray := prog_1_method_55_code
def yX11_worldsWith : MethodName := ⟨RX11, "worldsWith", "(I)J"⟩
abbrev cX11_factBit : ByteArray := prog_1_method_56_code
def yX11_factBit : MethodName := ⟨RX11, "factBit", "(I)I"⟩
abbrev cX11_hasWorld : ByteArray := prog_1_method_57_code
def yX11_hasWorld : MethodName := ⟨RX11, "hasWorld", "(JI)Z"⟩
abbrev cX11_factsOfAll : ByteArray := prog_1_method_58_code
def yX11_factsOfAll : MethodName := ⟨RX11, "factsOfAll", "(J)I"⟩
abbrev cX11_factsOfNone : ByteArray := prog_1_method_59_code
def yX11_factsOfNone : MethodName := ⟨RX11, "factsOfNone", "(J)I"⟩
abbrev cX11_factsAlike : ByteArray := prog_1_method_60_code
def yX11_factsAlike : MethodName := ⟨RX11, "factsAlike", "(J)I"⟩
abbrev cX11_isProvedBy : ByteArray := prog_1_method_61_code
def yX11_isProvedBy : MethodName := ⟨RX11, "isProvedBy", "(JI)Z"⟩
abbrev cX11_likeInKnown : ByteArray := prog_1_method_62_code
def yX11_likeInKnown : MethodName := ⟨RX11, "likeInKnown", "(JII)J"⟩
abbrev cX11_brokenPlace : ByteArray := prog_1_method_63_code
def yX11_brokenPlace : MethodName := ⟨RX11, "brokenPlace", "(LWitnessesMustLie$Shelf;)I"⟩
abbrev cX11_digitsBehind : ByteArray := prog_1_method_64_code
def yX11_digitsBehind : MethodName := ⟨RX11, "digitsBehind", "(I)I"⟩
abbrev cX11_isDigit : ByteArray := prog_1_method_65_code
def yX11_isDigit : MethodName := ⟨RX11, "isDigit", "(I)Z"⟩
abbrev cX11_digitAt : ByteArray := prog_1_method_66_code
def yX11_digitAt : MethodName := ⟨RX11, "digitAt", "(LWitnessesMustLie$Shelf;I)I"⟩
abbrev cX11_twoDigitsAt : ByteArray := prog_1_method_67_code
def yX11_twoDigitsAt : MethodName := ⟨RX11, "twoDigitsAt", "(LWitnessesMustLie$Shelf;I)I"⟩
abbrev cX11_enact : ByteArray := prog_1_method_68_code
def yX11_enact : MethodName := ⟨RX11, "enact", "(LWitnessesMustLie$Shelf;)I"⟩
abbrev cX11_isEnacted : ByteArray := prog_1_method_69_code
def yX11_isEnacted : MethodName := ⟨RX11, "isEnacted", "(LWitnessesMustLie$Shelf;I)Z"⟩
abbrev cX11_sayingAt : ByteArray := prog_1_method_70_code
def yX11_sayingAt : MethodName := ⟨RX11, "sayingAt", "(LWitnessesMustLie$Shelf;II)LWitnessesMustLie$Saying;"⟩
abbrev cX11_leastOrder : ByteArray := prog_1_method_71_code
def yX11_leastOrder : MethodName := ⟨RX11, "leastOrder", "(I)I"⟩
abbrev cX11_digitsWithAhead : ByteArray := prog_1_method_72_code
def yX11_digitsWithAhead : MethodName := ⟨RX11, "digitsWithAhead", "(I)I"⟩
abbrev cX11_digitsOf : ByteArray := prog_1_method_73_code
def yX11_digitsOf : MethodName := ⟨RX11, "digitsOf", "(II)I"⟩
abbrev cX11_kindOfCode : ByteArray := prog_1_method_74_code
def yX11_kindOfCode : MethodName := ⟨RX11, "kindOfCode", "(I)I"⟩
abbrev cX11_firstOfCode : ByteArray := prog_1_method_75_code
def yX11_firstOfCode : MethodName := ⟨RX11, "firstOfCode", "(I)I"⟩
abbrev cX11_secondOfCode : ByteArray := prog_1_method_76_code
def yX11_secondOfCode : MethodName := ⟨RX11, "secondOfCode", "(I)I"⟩
abbrev cX11_worldsOfCode : ByteArray := prog_1_method_77_code
def yX11_worldsOfCode : MethodName := ⟨RX11, "worldsOfCode", "(I)J"⟩
abbrev cX11_isLie : ByteArray := prog_1_method_78_code
def yX11_isLie : MethodName := ⟨RX11, "isLie", "(II)Z"⟩
abbrev cX11_nextSeed : ByteArray := prog_1_method_84_code
def yX11_nextSeed : MethodName := ⟨RX11, "nextSeed", "(I)I"⟩
abbrev cX11_drawnBelow : ByteArray := prog_1_method_85_code
def yX11_drawnBelow : MethodName := ⟨RX11, "drawnBelow", "(II)I"⟩
abbrev cX11_seedAfterDraws : ByteArray := prog_1_method_86_code
def yX11_seedAfterDraws : MethodName := ⟨RX11, "seedAfterDraws", "(I)I"⟩
abbrev cX11_worldsOfDraws : ByteArray := prog_1_method_87_code
def yX11_worldsOfDraws : MethodName := ⟨RX11, "worldsOfDraws", "(I)J"⟩
def RX12 : String := "WitnessesMustLieModel"
def TX12 : u_T := fun k => match k with
  | _ => ("", "", "", false)
def tyX12 : Nat → FieldType := fun k => match k with
  | _ => .int
abbrev wsX120 : List Cond := u_ws RX12 TX12 0
theorem nmX12 : ∀ a, a < 0 → ∀ b, b < 0 → a ≠ b → (TX12 a).2.1 ≠ (TX12 b).2.1 := by decide +kernel
theorem tyX12_ok : ∀ k, k < 0 → parseFieldDescriptor (TX12 k).2.2.1 = some (tyX12 k) := by decide +kernel
def RJx145de : String := "java/io/Serializable"
def TJx145de : u_T := fun k => match k with
  | _ => ("", "", "", false)
def tyJx145de : Nat → FieldType := fun k => match k with
  | _ => .int
abbrev wsJx145de0 : List Cond := u_ws RJx145de TJx145de 0
theorem nmJx145de : ∀ a, a < 0 → ∀ b, b < 0 → a ≠ b → (TJx145de a).2.1 ≠ (TJx145de b).2.1 := by decide +kernel
theorem tyJx145de_ok : ∀ k, k < 0 → parseFieldDescriptor (TJx145de k).2.2.1 = some (tyJx145de k) := by decide +kernel
def RJx8e188 : String := "java/lang/Cloneable"
def TJx8e188 : u_T := fun k => match k with
  | _ => ("", "", "", false)
def tyJx8e188 : Nat → FieldType := fun k => match k with
  | _ => .int
abbrev wsJx8e1880 : List Cond := u_ws RJx8e188 TJx8e188 0
theorem nmJx8e188 : ∀ a, a < 0 → ∀ b, b < 0 → a ≠ b → (TJx8e188 a).2.1 ≠ (TJx8e188 b).2.1 := by decide +kernel
theorem tyJx8e188_ok : ∀ k, k < 0 → parseFieldDescriptor (TJx8e188 k).2.2.1 = some (tyJx8e188 k) := by decide +kernel
def RJ6 : String := "java/lang/Integer"
def TJ6 : u_T := fun k => match k with
  | _ => ("", "", "", false)
def tyJ6 : Nat → FieldType := fun k => match k with
  | _ => .int
abbrev wsJ60 : List Cond := u_ws RJ6 TJ6 0
theorem nmJ6 : ∀ a, a < 0 → ∀ b, b < 0 → a ≠ b → (TJ6 a).2.1 ≠ (TJ6 b).2.1 := by decide +kernel
theorem tyJ6_ok : ∀ k, k < 0 → parseFieldDescriptor (TJ6 k).2.2.1 = some (tyJ6 k) := by decide +kernel
abbrev cJ6_numberOfTrailingZeros_0f7a4 : ByteArray := prog_20_method_48_code
def yJ6_numberOfTrailingZeros_0f7a4 : MethodName := ⟨RJ6, "numberOfTrailingZeros", "(I)I"⟩
abbrev cJ6_bitCount_0f7a4 : ByteArray := prog_20_method_49_code
def yJ6_bitCount_0f7a4 : MethodName := ⟨RJ6, "bitCount", "(I)I"⟩
def RJxab1ab : String := "java/lang/Iterable"
def TJxab1ab : u_T := fun k => match k with
  | _ => ("", "", "", false)
def tyJxab1ab : Nat → FieldType := fun k => match k with
  | _ => .int
abbrev wsJxab1ab0 : List Cond := u_ws RJxab1ab TJxab1ab 0
theorem nmJxab1ab : ∀ a, a < 0 → ∀ b, b < 0 → a ≠ b → (TJxab1ab a).2.1 ≠ (TJxab1ab b).2.1 := by decide +kernel
theorem tyJxab1ab_ok : ∀ k, k < 0 → parseFieldDescriptor (TJxab1ab k).2.2.1 = some (tyJxab1ab k) := by decide +kernel
def RJ13 : String := "java/lang/Long"
def TJ13 : u_T := fun k => match k with
  | _ => ("", "", "", false)
def tyJ13 : Nat → FieldType := fun k => match k with
  | _ => .int
abbrev wsJ130 : List Cond := u_ws RJ13 TJ13 0
theorem nmJ13 : ∀ a, a < 0 → ∀ b, b < 0 → a ≠ b → (TJ13 a).2.1 ≠ (TJ13 b).2.1 := by decide +kernel
theorem tyJ13_ok : ∀ k, k < 0 → parseFieldDescriptor (TJ13 k).2.2.1 = some (tyJ13 k) := by decide +kernel
abbrev cJ13_bitCount_95d88 : ByteArray := prog_22_method_50_code
def yJ13_bitCount_95d88 : MethodName := ⟨RJ13, "bitCount", "(J)I"⟩
def RJ9 : String := "java/lang/Math"
def TJ9 : u_T := fun k => match k with
  | _ => ("", "", "", false)
def tyJ9 : Nat → FieldType := fun k => match k with
  | _ => .int
abbrev wsJ90 : List Cond := u_ws RJ9 TJ9 0
theorem nmJ9 : ∀ a, a < 0 → ∀ b, b < 0 → a ≠ b → (TJ9 a).2.1 ≠ (TJ9 b).2.1 := by decide +kernel
theorem tyJ9_ok : ∀ k, k < 0 → parseFieldDescriptor (TJ9 k).2.2.1 = some (tyJ9 k) := by decide +kernel
abbrev cJ9_max_7cf53 : ByteArray := prog_23_method_65_code
def yJ9_max_7cf53 : MethodName := ⟨RJ9, "max", "(II)I"⟩
abbrev cJ9_min_7cf53 : ByteArray := prog_23_method_69_code
def yJ9_min_7cf53 : MethodName := ⟨RJ9, "min", "(II)I"⟩
def RJ0 : String := "java/lang/String"
def TJ0 : u_T := fun k => match k with
  | _ => ("", "", "", false)
def tyJ0 : Nat → FieldType := fun k => match k with
  | _ => .int
abbrev wsJ00 : List Cond := u_ws RJ0 TJ0 0
theorem nmJ0 : ∀ a, a < 0 → ∀ b, b < 0 → a ≠ b → (TJ0 a).2.1 ≠ (TJ0 b).2.1 := by decide +kernel
theorem tyJ0_ok : ∀ k, k < 0 → parseFieldDescriptor (TJ0 k).2.2.1 = some (tyJ0 k) := by decide +kernel
def RJ10 : String := "java/lang/System"
def TJ10 : u_T := fun k => match k with
  | _ => ("", "", "", false)
def tyJ10 : Nat → FieldType := fun k => match k with
  | _ => .int
abbrev wsJ100 : List Cond := u_ws RJ10 TJ10 0
theorem nmJ10 : ∀ a, a < 0 → ∀ b, b < 0 → a ≠ b → (TJ10 a).2.1 ≠ (TJ10 b).2.1 := by decide +kernel
theorem tyJ10_ok : ∀ k, k < 0 → parseFieldDescriptor (TJ10 k).2.2.1 = some (tyJ10 k) := by decide +kernel
def RJxa1e45 : String := "java/util/AbstractCollection"
def TJxa1e45 : u_T := fun k => match k with
  | _ => ("", "", "", false)
def tyJxa1e45 : Nat → FieldType := fun k => match k with
  | _ => .int
abbrev wsJxa1e450 : List Cond := u_ws RJxa1e45 TJxa1e45 0
theorem nmJxa1e45 : ∀ a, a < 0 → ∀ b, b < 0 → a ≠ b → (TJxa1e45 a).2.1 ≠ (TJxa1e45 b).2.1 := by decide +kernel
theorem tyJxa1e45_ok : ∀ k, k < 0 → parseFieldDescriptor (TJxa1e45 k).2.2.1 = some (tyJxa1e45 k) := by decide +kernel
abbrev cJxa1e45_init_da8c8 : ByteArray := prog_28_method_1_code
def yJxa1e45_init_da8c8 : MethodName := ⟨RJxa1e45, "<init>", "()V"⟩
def RJxc12de : String := "java/util/AbstractList"
def TJxc12de : u_T := fun k => match k with
  | _ => ("", "", "", false)
def tyJxc12de : Nat → FieldType := fun k => match k with
  | _ => .int
abbrev wsJxc12de0 : List Cond := u_ws RJxc12de TJxc12de 0
theorem nmJxc12de : ∀ a, a < 0 → ∀ b, b < 0 → a ≠ b → (TJxc12de a).2.1 ≠ (TJxc12de b).2.1 := by decide +kernel
theorem tyJxc12de_ok : ∀ k, k < 0 → parseFieldDescriptor (TJxc12de k).2.2.1 = some (tyJxc12de k) := by decide +kernel
abbrev cJxc12de_init_da8c8 : ByteArray := prog_29_method_1_code
def yJxc12de_init_da8c8 : MethodName := ⟨RJxc12de, "<init>", "()V"⟩
def RJx4a65c : String := "java/util/ArrayList"
def TJx4a65c : u_T := fun k => match k with
  | 0 => ("java/util/AbstractList", "modCount", "I", false)
  | 1 => ("java/util/ArrayList", "elementData", "[Ljava/lang/Object;", false)
  | _ => ("java/util/ArrayList", "size", "I", false)
def tyJx4a65c : Nat → FieldType := fun k => match k with
  | 0 => .int
  | 1 => .array (.object "java/lang/Object")
  | _ => .int
abbrev wsJx4a65c0 : List Cond := u_ws RJx4a65c TJx4a65c 3
theorem nmJx4a65c : ∀ a, a < 3 → ∀ b, b < 3 → a ≠ b → (TJx4a65c a).2.1 ≠ (TJx4a65c b).2.1 := by decide +kernel
theorem tyJx4a65c_ok : ∀ k, k < 3 → parseFieldDescriptor (TJx4a65c k).2.2.1 = some (tyJx4a65c k) := by decide +kernel
abbrev cJx4a65c_init_da8c8 : ByteArray := prog_30_method_2_code
def yJx4a65c_init_da8c8 : MethodName := ⟨RJx4a65c, "<init>", "()V"⟩
abbrev cJx4a65c_grow_92f84 : ByteArray := prog_30_method_6_code
def yJx4a65c_grow_92f84 : MethodName := ⟨RJx4a65c, "grow", "(I)[Ljava/lang/Object;"⟩
abbrev cJx4a65c_grow_d5877 : ByteArray := prog_30_method_7_code
def yJx4a65c_grow_d5877 : MethodName := ⟨RJx4a65c, "grow", "()[Ljava/lang/Object;"⟩
abbrev cJx4a65c_size_8abf5 : ByteArray := prog_30_method_8_code
def yJx4a65c_size_8abf5 : MethodName := ⟨RJx4a65c, "size", "()I"⟩
abbrev cJx4a65c_elementData_915e3 : ByteArray := prog_30_method_18_code
def yJx4a65c_elementData_915e3 : MethodName := ⟨RJx4a65c, "elementData", "(I)Ljava/lang/Object;"⟩
abbrev cJx4a65c_get_915e3 : ByteArray := prog_30_method_20_code
def yJx4a65c_get_915e3 : MethodName := ⟨RJx4a65c, "get", "(I)Ljava/lang/Object;"⟩
abbrev cJx4a65c_add_72be8 : ByteArray := prog_30_method_24_code
def yJx4a65c_add_72be8 : MethodName := ⟨RJx4a65c, "add", "(Ljava/lang/Object;[Ljava/lang/Object;I)V"⟩
abbrev cJx4a65c_add_9ea2d : ByteArray := prog_30_method_25_code
def yJx4a65c_add_9ea2d : MethodName := ⟨RJx4a65c, "add", "(Ljava/lang/Object;)Z"⟩
abbrev cJx4a65c_remove_915e3 : ByteArray := prog_30_method_29_code
def yJx4a65c_remove_915e3 : MethodName := ⟨RJx4a65c, "remove", "(I)Ljava/lang/Object;"⟩
abbrev cJx4a65c_fastRemove_b59b0 : ByteArray := prog_30_method_39_code
def yJx4a65c_fastRemove_b59b0 : MethodName := ⟨RJx4a65c, "fastRemove", "([Ljava/lang/Object;I)V"⟩
abbrev cJx4a65c_clear_da8c8 : ByteArray := prog_30_method_40_code
def yJx4a65c_clear_da8c8 : MethodName := ⟨RJx4a65c, "clear", "()V"⟩
def RJ7 : String := "java/util/Arrays"
def TJ7 : u_T := fun k => match k with
  | _ => ("", "", "", false)
def tyJ7 : Nat → FieldType := fun k => match k with
  | _ => .int
abbrev wsJ70 : List Cond := u_ws RJ7 TJ7 0
theorem nmJ7 : ∀ a, a < 0 → ∀ b, b < 0 → a ≠ b → (TJ7 a).2.1 ≠ (TJ7 b).2.1 := by decide +kernel
theorem tyJ7_ok : ∀ k, k < 0 → parseFieldDescriptor (TJ7 k).2.2.1 = some (tyJ7 k) := by decide +kernel
abbrev cJ7_copyOf_1904c : ByteArray := prog_31_method_119_code
def yJ7_copyOf_1904c : MethodName := ⟨RJ7, "copyOf", "([Ljava/lang/Object;I)[Ljava/lang/Object;"⟩
abbrev cJ7_copyOf_6403c : ByteArray := prog_31_method_120_code
def yJ7_copyOf_6403c : MethodName := ⟨RJ7, "copyOf", "([Ljava/lang/Object;ILjava/lang/Class;)[Ljava/lang/Object;"⟩
def RJx5ef63 : String := "java/util/Collection"
def TJx5ef63 : u_T := fun k => match k with
  | _ => ("", "", "", false)
def tyJx5ef63 : Nat → FieldType := fun k => match k with
  | _ => .int
abbrev wsJx5ef630 : List Cond := u_ws RJx5ef63 TJx5ef63 0
theorem nmJx5ef63 : ∀ a, a < 0 → ∀ b, b < 0 → a ≠ b → (TJx5ef63 a).2.1 ≠ (TJx5ef63 b).2.1 := by decide +kernel
theorem tyJx5ef63_ok : ∀ k, k < 0 → parseFieldDescriptor (TJx5ef63 k).2.2.1 = some (tyJx5ef63 k) := by decide +kernel
def RJxbd725 : String := "java/util/List"
def TJxbd725 : u_T := fun k => match k with
  | _ => ("", "", "", false)
def tyJxbd725 : Nat → FieldType := fun k => match k with
  | _ => .int
abbrev wsJxbd7250 : List Cond := u_ws RJxbd725 TJxbd725 0
theorem nmJxbd725 : ∀ a, a < 0 → ∀ b, b < 0 → a ≠ b → (TJxbd725 a).2.1 ≠ (TJxbd725 b).2.1 := by decide +kernel
theorem tyJxbd725_ok : ∀ k, k < 0 → parseFieldDescriptor (TJxbd725 k).2.2.1 = some (tyJxbd725 k) := by decide +kernel
def RJ15 : String := "java/util/Objects"
def TJ15 : u_T := fun k => match k with
  | _ => ("", "", "", false)
def tyJ15 : Nat → FieldType := fun k => match k with
  | _ => .int
abbrev wsJ150 : List Cond := u_ws RJ15 TJ15 0
theorem nmJ15 : ∀ a, a < 0 → ∀ b, b < 0 → a ≠ b → (TJ15 a).2.1 ≠ (TJ15 b).2.1 := by decide +kernel
theorem tyJ15_ok : ∀ k, k < 0 → parseFieldDescriptor (TJ15 k).2.2.1 = some (tyJ15 k) := by decide +kernel
abbrev cJ15_checkIndex_7cf53 : ByteArray := prog_34_method_17_code
def yJ15_checkIndex_7cf53 : MethodName := ⟨RJ15, "checkIndex", "(II)I"⟩
def RJxf0a74 : String := "java/util/RandomAccess"
def TJxf0a74 : u_T := fun k => match k with
  | _ => ("", "", "", false)
def tyJxf0a74 : Nat → FieldType := fun k => match k with
  | _ => .int
abbrev wsJxf0a740 : List Cond := u_ws RJxf0a74 TJxf0a74 0
theorem nmJxf0a74 : ∀ a, a < 0 → ∀ b, b < 0 → a ≠ b → (TJxf0a74 a).2.1 ≠ (TJxf0a74 b).2.1 := by decide +kernel
theorem tyJxf0a74_ok : ∀ k, k < 0 → parseFieldDescriptor (TJxf0a74 k).2.2.1 = some (tyJxf0a74 k) := by decide +kernel
def RJxa66e6 : String := "java/util/SequencedCollection"
def TJxa66e6 : u_T := fun k => match k with
  | _ => ("", "", "", false)
def tyJxa66e6 : Nat → FieldType := fun k => match k with
  | _ => .int
abbrev wsJxa66e60 : List Cond := u_ws RJxa66e6 TJxa66e6 0
theorem nmJxa66e6 : ∀ a, a < 0 → ∀ b, b < 0 → a ≠ b → (TJxa66e6 a).2.1 ≠ (TJxa66e6 b).2.1 := by decide +kernel
theorem tyJxa66e6_ok : ∀ k, k < 0 → parseFieldDescriptor (TJxa66e6 k).2.2.1 = some (tyJxa66e6 k) := by decide +kernel
def RJ8 : String := "jdk/internal/util/ArraysSupport"
def TJ8 : u_T := fun k => match k with
  | _ => ("", "", "", false)
def tyJ8 : Nat → FieldType := fun k => match k with
  | _ => .int
abbrev wsJ80 : List Cond := u_ws RJ8 TJ8 0
theorem nmJ8 : ∀ a, a < 0 → ∀ b, b < 0 → a ≠ b → (TJ8 a).2.1 ≠ (TJ8 b).2.1 := by decide +kernel
theorem tyJ8_ok : ∀ k, k < 0 → parseFieldDescriptor (TJ8 k).2.2.1 = some (tyJ8 k) := by decide +kernel
abbrev cJ8_newLength_cabcc : ByteArray := prog_37_method_27_code
def yJ8_newLength_cabcc : MethodName := ⟨RJ8, "newLength", "(III)I"⟩
abbrev cJ8_hugeLength_7cf53 : ByteArray := prog_37_method_28_code
def yJ8_hugeLength_7cf53 : MethodName := ⟨RJ8, "hugeLength", "(II)I"⟩
def RJ3 : String := "jdk/internal/util/Preconditions"
def TJ3 : u_T := fun k => match k with
  | _ => ("", "", "", false)
def tyJ3 : Nat → FieldType := fun k => match k with
  | _ => .int
abbrev wsJ30 : List Cond := u_ws RJ3 TJ3 0
theorem nmJ3 : ∀ a, a < 0 → ∀ b, b < 0 → a ≠ b → (TJ3 a).2.1 ≠ (TJ3 b).2.1 := by decide +kernel
theorem tyJ3_ok : ∀ k, k < 0 → parseFieldDescriptor (TJ3 k).2.2.1 = some (tyJ3 k) := by decide +kernel
abbrev cJ3_checkIndex_8e157 : ByteArray := prog_38_method_11_code
def yJ3_checkIndex_8e157 : MethodName := ⟨RJ3, "checkIndex", "(IILjava/util/function/BiFunction;)I"⟩
def RL : String := "WitnessesMustLieLaw"
abbrev cL_at : ByteArray := method_2_code
def yL_at : MethodName := ⟨RL, "at", "([II)I"⟩
abbrev cL_some : ByteArray := method_3_code
def yL_some : MethodName := ⟨RL, "some", "(II)I"⟩
abbrev cL_holds : ByteArray := method_4_code
def yL_holds : MethodName := ⟨RL, "holds", "(II)Z"⟩
abbrev cL_world : ByteArray := method_5_code
def yL_world : MethodName := ⟨RL, "world", "(LWitnessesMustLie;[I[I)V"⟩
abbrev cL_saying : ByteArray := method_6_code
def yL_saying : MethodName := ⟨RL, "saying", "(I)I"⟩
abbrev cL_told : ByteArray := method_7_code
def yL_told : MethodName := ⟨RL, "told", "(LWitnessesMustLie;)J"⟩
abbrev cL_law : ByteArray := code
def yL_law : MethodName := ⟨RL, "law", "([I)Z"⟩
