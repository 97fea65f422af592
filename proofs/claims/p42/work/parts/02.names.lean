def RX0 : String := "Fuzzyseg$Document"
def TX0 : u_T := fun k => match k with
  | _ => ("Fuzzyseg$Document", "rows", "Ljava/util/List;", true)
def tyX0 : Nat → FieldType := fun k => match k with
  | _ => .object "java/util/List"
abbrev wsX00 : List Cond := u_ws RX0 TX0 1
theorem nmX0 : ∀ a, a < 1 → ∀ b, b < 1 → a ≠ b → (TX0 a).2.1 ≠ (TX0 b).2.1 := by decide +kernel
theorem tyX0_ok : ∀ k, k < 1 → parseFieldDescriptor (TX0 k).2.2.1 = some (tyX0 k) := by decide +kernel
abbrev cX0_init : ByteArray := prog_2_method_1_code
def yX0_init : MethodName := ⟨RX0, "<init>", "()V"⟩
abbrev cX0_size : ByteArray := prog_2_method_2_code
def yX0_size : MethodName := ⟨RX0, "size", "()I"⟩
abbrev cX0_at : ByteArray := prog_2_method_3_code
def yX0_at : MethodName := ⟨RX0, "at", "(I)LFuzzyseg$Segment;"⟩
abbrev cX0_cut : ByteArray := prog_2_method_4_code
def yX0_cut : MethodName := ⟨RX0, "cut", "(LFuzzyseg$Text;[Z)V"⟩
abbrev cX0_isEnd : ByteArray := prog_2_method_5_code
def yX0_isEnd : MethodName := ⟨RX0, "isEnd", "(LFuzzyseg$Text;I[Z)Z"⟩
abbrev cX0_isAbbreviation : ByteArray := prog_2_method_6_code
def yX0_isAbbreviation : MethodName := ⟨RX0, "isAbbreviation", "(I[Z)Z"⟩
abbrev cX0_hasEqualBefore : ByteArray := prog_2_method_7_code
def yX0_hasEqualBefore : MethodName := ⟨RX0, "hasEqualBefore", "(I)Z"⟩
abbrev cX0_firstFilledEqualBefore : ByteArray := prog_2_method_8_code
def yX0_firstFilledEqualBefore : MethodName := ⟨RX0, "firstFilledEqualBefore", "(I)I"⟩
abbrev cX0_spreadAnswer : ByteArray := prog_2_method_9_code
def yX0_spreadAnswer : MethodName := ⟨RX0, "spreadAnswer", "(I)I"⟩
abbrev cX0_countNotEmpty : ByteArray := prog_2_method_10_code
def yX0_countNotEmpty : MethodName := ⟨RX0, "countNotEmpty", "()I"⟩
def RX1 : String := "Fuzzyseg$Edits"
def TX1 : u_T := fun k => match k with
  | 0 => ("Fuzzyseg$Edits", "weights", "LFuzzyseg$Weights;", true)
  | 1 => ("Fuzzyseg$Edits", "firstRow", "[I", true)
  | 2 => ("Fuzzyseg$Edits", "secondRow", "[I", true)
  | _ => ("Fuzzyseg$Edits", "inserting", "[I", true)
def tyX1 : Nat → FieldType := fun k => match k with
  | 0 => .object "Fuzzyseg$Weights"
  | 1 => .array .int
  | 2 => .array .int
  | _ => .array .int
abbrev wsX10 : List Cond := u_ws RX1 TX1 4
theorem nmX1 : ∀ a, a < 4 → ∀ b, b < 4 → a ≠ b → (TX1 a).2.1 ≠ (TX1 b).2.1 := by decide +kernel
theorem tyX1_ok : ∀ k, k < 4 → parseFieldDescriptor (TX1 k).2.2.1 = some (tyX1 k) := by decide +kernel
abbrev cX1_init : ByteArray := prog_3_method_1_code
def yX1_init : MethodName := ⟨RX1, "<init>", "()V"⟩
abbrev cX1_costByRows : ByteArray := prog_3_method_2_code
def yX1_costByRows : MethodName := ⟨RX1, "costByRows", "(LFuzzyseg$Text;LFuzzyseg$Text;)I"⟩
abbrev cX1_costByTails : ByteArray := prog_3_method_3_code
def yX1_costByTails : MethodName := ⟨RX1, "costByTails", "(LFuzzyseg$Text;LFuzzyseg$Text;)I"⟩
abbrev cX1_compare : ByteArray := prog_3_method_4_code
def yX1_compare : MethodName := ⟨RX1, "compare", "(LFuzzyseg$Text;LFuzzyseg$Text;)I"⟩
abbrev cX1_compareAtMost : ByteArray := prog_3_method_5_code
def yX1_compareAtMost : MethodName := ⟨RX1, "compareAtMost", "(LFuzzyseg$Text;LFuzzyseg$Text;)I"⟩
abbrev cX1_costAtLeast : ByteArray := prog_3_method_6_code
def yX1_costAtLeast : MethodName := ⟨RX1, "costAtLeast", "(LFuzzyseg$Text;LFuzzyseg$Text;)I"⟩
abbrev cX1_share : ByteArray := prog_3_method_7_code
def yX1_share : MethodName := ⟨RX1, "share", "(LFuzzyseg$Text;LFuzzyseg$Text;I)I"⟩
def RX2 : String := "Fuzzyseg$Memory"
def TX2 : u_T := fun k => match k with
  | 0 => ("Fuzzyseg$Memory", "edits", "LFuzzyseg$Edits;", true)
  | 1 => ("Fuzzyseg$Memory", "terms", "LFuzzyseg$Terms;", true)
  | _ => ("Fuzzyseg$Memory", "rows", "Ljava/util/List;", true)
def tyX2 : Nat → FieldType := fun k => match k with
  | 0 => .object "Fuzzyseg$Edits"
  | 1 => .object "Fuzzyseg$Terms"
  | _ => .object "java/util/List"
abbrev wsX20 : List Cond := u_ws RX2 TX2 3
theorem nmX2 : ∀ a, a < 3 → ∀ b, b < 3 → a ≠ b → (TX2 a).2.1 ≠ (TX2 b).2.1 := by decide +kernel
theorem tyX2_ok : ∀ k, k < 3 → parseFieldDescriptor (TX2 k).2.2.1 = some (tyX2 k) := by decide +kernel
abbrev cX2_init : ByteArray := prog_4_method_1_code
def yX2_init : MethodName := ⟨RX2, "<init>", "()V"⟩
abbrev cX2_size : ByteArray := prog_4_method_2_code
def yX2_size : MethodName := ⟨RX2, "size", "()I"⟩
abbrev cX2_at : ByteArray := prog_4_method_3_code
def yX2_at : MethodName := ⟨RX2, "at", "(I)LFuzzyseg$Unit;"⟩
abbrev cX2_put : ByteArray := prog_4_method_4_code
def yX2_put : MethodName := ⟨RX2, "put", "(LFuzzyseg$Text;LFuzzyseg$Text;)I"⟩
abbrev cX2_countLive : ByteArray := prog_4_method_5_code
def yX2_countLive : MethodName := ⟨RX2, "countLive", "()I"⟩
abbrev cX2_rate : ByteArray := prog_4_method_7_code
def yX2_rate : MethodName := ⟨RX2, "rate", "(LFuzzyseg$Text;LFuzzyseg$Unit;)I"⟩
abbrev cX2_findByBounds : ByteArray := prog_4_method_8_code
def yX2_findByBounds : MethodName := ⟨RX2, "findByBounds", "(LFuzzyseg$Text;)I"⟩
abbrev cX2_findAmongAll : ByteArray := prog_4_method_9_code
def yX2_findAmongAll : MethodName := ⟨RX2, "findAmongAll", "(LFuzzyseg$Text;)I"⟩
abbrev cX2_agreesOn : ByteArray := prog_4_method_10_code
def yX2_agreesOn : MethodName := ⟨RX2, "agreesOn", "(LFuzzyseg$Text;)Z"⟩
abbrev cX2_lessMissed : ByteArray := prog_4_method_11_code
def yX2_lessMissed : MethodName := ⟨RX2, "lessMissed", "(II)I"⟩
abbrev cX2_isBetter : ByteArray := prog_4_method_12_code
def yX2_isBetter : MethodName := ⟨RX2, "isBetter", "(IIII)Z"⟩
def RX3 : String := "Fuzzyseg$Pairs"
def TX3 : u_T := fun k => match k with
  | 0 => ("Fuzzyseg$Pairs", "left", "LFuzzyseg$Text;", true)
  | _ => ("Fuzzyseg$Pairs", "right", "LFuzzyseg$Text;", true)
def tyX3 : Nat → FieldType := fun k => match k with
  | 0 => .object "Fuzzyseg$Text"
  | _ => .object "Fuzzyseg$Text"
abbrev wsX30 : List Cond := u_ws RX3 TX3 2
theorem nmX3 : ∀ a, a < 2 → ∀ b, b < 2 → a ≠ b → (TX3 a).2.1 ≠ (TX3 b).2.1 := by decide +kernel
theorem tyX3_ok : ∀ k, k < 2 → parseFieldDescriptor (TX3 k).2.2.1 = some (tyX3 k) := by decide +kernel
abbrev cX3_init : ByteArray := prog_5_method_1_code
def yX3_init : MethodName := ⟨RX3, "<init>", "()V"⟩
abbrev cX3_countShared : ByteArray := prog_5_method_2_code
def yX3_countShared : MethodName := ⟨RX3, "countShared", "(LFuzzyseg$Text;LFuzzyseg$Text;)I"⟩
abbrev cX3_copyPlain : ByteArray := prog_5_method_3_code
def yX3_copyPlain : MethodName := ⟨RX3, "copyPlain", "(LFuzzyseg$Text;LFuzzyseg$Text;)V"⟩
abbrev cX3_hasPair : ByteArray := prog_5_method_4_code
def yX3_hasPair : MethodName := ⟨RX3, "hasPair", "(LFuzzyseg$Text;III)Z"⟩
def RX4 : String := "Fuzzyseg$Segment"
def TX4 : u_T := fun k => match k with
  | 0 => ("Fuzzyseg$Segment", "text", "LFuzzyseg$Text;", true)
  | 1 => ("Fuzzyseg$Segment", "target", "LFuzzyseg$Text;", true)
  | 2 => ("Fuzzyseg$Segment", "state", "C", false)
  | 3 => ("Fuzzyseg$Segment", "fillingUnit", "I", false)
  | _ => ("Fuzzyseg$Segment", "fillingScore", "I", false)
def tyX4 : Nat → FieldType := fun k => match k with
  | 0 => .object "Fuzzyseg$Text"
  | 1 => .object "Fuzzyseg$Text"
  | 2 => .char
  | 3 => .int
  | _ => .int
abbrev wsX40 : List Cond := u_ws RX4 TX4 5
theorem nmX4 : ∀ a, a < 5 → ∀ b, b < 5 → a ≠ b → (TX4 a).2.1 ≠ (TX4 b).2.1 := by decide +kernel
theorem tyX4_ok : ∀ k, k < 5 → parseFieldDescriptor (TX4 k).2.2.1 = some (tyX4 k) := by decide +kernel
abbrev cX4_init : ByteArray := prog_6_method_1_code
def yX4_init : MethodName := ⟨RX4, "<init>", "()V"⟩
abbrev cX4_isEmpty : ByteArray := prog_6_method_2_code
def yX4_isEmpty : MethodName := ⟨RX4, "isEmpty", "()Z"⟩
abbrev cX4_setFilling : ByteArray := prog_6_method_3_code
def yX4_setFilling : MethodName := ⟨RX4, "setFilling", "(LFuzzyseg$Unit;II)V"⟩
abbrev cX4_setRepeat : ByteArray := prog_6_method_4_code
def yX4_setRepeat : MethodName := ⟨RX4, "setRepeat", "(LFuzzyseg$Text;)V"⟩
abbrev cX4_setAnswer : ByteArray := prog_6_method_5_code
def yX4_setAnswer : MethodName := ⟨RX4, "setAnswer", "(LFuzzyseg$Text;)V"⟩
abbrev cX4_setGiven : ByteArray := prog_6_method_6_code
def yX4_setGiven : MethodName := ⟨RX4, "setGiven", "(LFuzzyseg$Text;C)V"⟩
abbrev cX4_adaptNumbers : ByteArray := prog_6_method_7_code
def yX4_adaptNumbers : MethodName := ⟨RX4, "adaptNumbers", "(LFuzzyseg$Text;)V"⟩
def RX5 : String := "Fuzzyseg$Terms"
def TX5 : u_T := fun k => match k with
  | 0 => ("Fuzzyseg$Terms", "sources", "[I", true)
  | 1 => ("Fuzzyseg$Terms", "targets", "[I", true)
  | _ => ("Fuzzyseg$Terms", "count", "I", false)
def tyX5 : Nat → FieldType := fun k => match k with
  | 0 => .array .int
  | 1 => .array .int
  | _ => .int
abbrev wsX50 : List Cond := u_ws RX5 TX5 3
theorem nmX5 : ∀ a, a < 3 → ∀ b, b < 3 → a ≠ b → (TX5 a).2.1 ≠ (TX5 b).2.1 := by decide +kernel
theorem tyX5_ok : ∀ k, k < 3 → parseFieldDescriptor (TX5 k).2.2.1 = some (tyX5 k) := by decide +kernel
abbrev cX5_init : ByteArray := prog_7_method_1_code
def yX5_init : MethodName := ⟨RX5, "<init>", "()V"⟩
abbrev cX5_size : ByteArray := prog_7_method_2_code
def yX5_size : MethodName := ⟨RX5, "size", "()I"⟩
abbrev cX5_has : ByteArray := prog_7_method_3_code
def yX5_has : MethodName := ⟨RX5, "has", "(II)Z"⟩
abbrev cX5_put : ByteArray := prog_7_method_4_code
def yX5_put : MethodName := ⟨RX5, "put", "(II)V"⟩
abbrev cX5_countMissed : ByteArray := prog_7_method_5_code
def yX5_countMissed : MethodName := ⟨RX5, "countMissed", "(LFuzzyseg$Text;LFuzzyseg$Text;)I"⟩
def RX6 : String := "Fuzzyseg$Text"
def TX6 : u_T := fun k => match k with
  | 0 => ("Fuzzyseg$Text", "codes", "[I", true)
  | _ => ("Fuzzyseg$Text", "count", "I", false)
def tyX6 : Nat → FieldType := fun k => match k with
  | 0 => .array .int
  | _ => .int
abbrev wsX60 : List Cond := u_ws RX6 TX6 2
theorem nmX6 : ∀ a, a < 2 → ∀ b, b < 2 → a ≠ b → (TX6 a).2.1 ≠ (TX6 b).2.1 := by decide +kernel
theorem tyX6_ok : ∀ k, k < 2 → parseFieldDescriptor (TX6 k).2.2.1 = some (tyX6 k) := by decide +kernel
abbrev cX6_init : ByteArray := prog_8_method_1_code
def yX6_init : MethodName := ⟨RX6, "<init>", "()V"⟩
abbrev cX6_size : ByteArray := prog_8_method_2_code
def yX6_size : MethodName := ⟨RX6, "size", "()I"⟩
abbrev cX6_hasPlace : ByteArray := prog_8_method_3_code
def yX6_hasPlace : MethodName := ⟨RX6, "hasPlace", "(I)Z"⟩
abbrev cX6_at : ByteArray := prog_8_method_4_code
def yX6_at : MethodName := ⟨RX6, "at", "(I)I"⟩
abbrev cX6_put : ByteArray := prog_8_method_5_code
def yX6_put : MethodName := ⟨RX6, "put", "(I)V"⟩
abbrev cX6_replaceAt : ByteArray := prog_8_method_6_code
def yX6_replaceAt : MethodName := ⟨RX6, "replaceAt", "(II)V"⟩
abbrev cX6_makeEmpty : ByteArray := prog_8_method_7_code
def yX6_makeEmpty : MethodName := ⟨RX6, "makeEmpty", "()V"⟩
abbrev cX6_copyRange : ByteArray := prog_8_method_8_code
def yX6_copyRange : MethodName := ⟨RX6, "copyRange", "(LFuzzyseg$Text;II)V"⟩
abbrev cX6_copyAll : ByteArray := prog_8_method_9_code
def yX6_copyAll : MethodName := ⟨RX6, "copyAll", "(LFuzzyseg$Text;)V"⟩
abbrev cX6_takeAll : ByteArray := prog_8_method_10_code
def yX6_takeAll : MethodName := ⟨RX6, "takeAll", "(LFuzzyseg$Text;)V"⟩
abbrev cX6_isSameAs : ByteArray := prog_8_method_11_code
def yX6_isSameAs : MethodName := ⟨RX6, "isSameAs", "(LFuzzyseg$Text;)Z"⟩
abbrev cX6_has : ByteArray := prog_8_method_12_code
def yX6_has : MethodName := ⟨RX6, "has", "(I)Z"⟩
abbrev cX6_countKind : ByteArray := prog_8_method_13_code
def yX6_countKind : MethodName := ⟨RX6, "countKind", "(I)I"⟩
abbrev cX6_placeOfNumber : ByteArray := prog_8_method_14_code
def yX6_placeOfNumber : MethodName := ⟨RX6, "placeOfNumber", "(I)I"⟩
abbrev cX6_numberAtPlace : ByteArray := prog_8_method_15_code
def yX6_numberAtPlace : MethodName := ⟨RX6, "numberAtPlace", "(I)I"⟩
def RX7 : String := "Fuzzyseg$Token"
def TX7 : u_T := fun k => match k with
  | _ => ("", "", "", false)
def tyX7 : Nat → FieldType := fun k => match k with
  | _ => .int
abbrev wsX70 : List Cond := u_ws RX7 TX7 0
theorem nmX7 : ∀ a, a < 0 → ∀ b, b < 0 → a ≠ b → (TX7 a).2.1 ≠ (TX7 b).2.1 := by decide +kernel
theorem tyX7_ok : ∀ k, k < 0 → parseFieldDescriptor (TX7 k).2.2.1 = some (tyX7 k) := by decide +kernel
abbrev cX7_codeOf : ByteArray := prog_9_method_2_code
def yX7_codeOf : MethodName := ⟨RX7, "codeOf", "(II)I"⟩
abbrev cX7_kindIn : ByteArray := prog_9_method_3_code
def yX7_kindIn : MethodName := ⟨RX7, "kindIn", "(I)I"⟩
abbrev cX7_valueIn : ByteArray := prog_9_method_4_code
def yX7_valueIn : MethodName := ⟨RX7, "valueIn", "(I)I"⟩
abbrev cX7_stemIn : ByteArray := prog_9_method_5_code
def yX7_stemIn : MethodName := ⟨RX7, "stemIn", "(I)I"⟩
abbrev cX7_letterOf : ByteArray := prog_9_method_6_code
def yX7_letterOf : MethodName := ⟨RX7, "letterOf", "(I)C"⟩
def RX8 : String := "Fuzzyseg$Unit"
def TX8 : u_T := fun k => match k with
  | 0 => ("Fuzzyseg$Unit", "source", "LFuzzyseg$Text;", true)
  | 1 => ("Fuzzyseg$Unit", "target", "LFuzzyseg$Text;", true)
  | _ => ("Fuzzyseg$Unit", "live", "Z", false)
def tyX8 : Nat → FieldType := fun k => match k with
  | 0 => .object "Fuzzyseg$Text"
  | 1 => .object "Fuzzyseg$Text"
  | _ => .boolean
abbrev wsX80 : List Cond := u_ws RX8 TX8 3
theorem nmX8 : ∀ a, a < 3 → ∀ b, b < 3 → a ≠ b → (TX8 a).2.1 ≠ (TX8 b).2.1 := by decide +kernel
theorem tyX8_ok : ∀ k, k < 3 → parseFieldDescriptor (TX8 k).2.2.1 = some (tyX8 k) := by decide +kernel
abbrev cX8_init : ByteArray := prog_10_method_1_code
def yX8_init : MethodName := ⟨RX8, "<init>", "()V"⟩
def RX9 : String := "Fuzzyseg$Weights"
def TX9 : u_T := fun k => match k with
  | _ => ("Fuzzyseg$Weights", "byKind", "[I", true)
def tyX9 : Nat → FieldType := fun k => match k with
  | _ => .array .int
abbrev wsX90 : List Cond := u_ws RX9 TX9 1
theorem nmX9 : ∀ a, a < 1 → ∀ b, b < 1 → a ≠ b → (TX9 a).2.1 ≠ (TX9 b).2.1 := by decide +kernel
theorem tyX9_ok : ∀ k, k < 1 → parseFieldDescriptor (TX9 k).2.2.1 = some (tyX9 k) := by decide +kernel
abbrev cX9_init : ByteArray := prog_11_method_1_code
def yX9_init : MethodName := ⟨RX9, "<init>", "()V"⟩
abbrev cX9_ofKind : ByteArray := prog_11_method_2_code
def yX9_ofKind : MethodName := ⟨RX9, "ofKind", "(I)I"⟩
abbrev cX9_change : ByteArray := prog_11_method_3_code
def yX9_change : MethodName := ⟨RX9, "change", "(II)V"⟩
abbrev cX9_ofToken : ByteArray := prog_11_method_4_code
def yX9_ofToken : MethodName := ⟨RX9, "ofToken", "(I)I"⟩
abbrev cX9_ofText : ByteArray := prog_11_method_5_code
def yX9_ofText : MethodName := ⟨RX9, "ofText", "(LFuzzyseg$Text;)I"⟩
abbrev cX9_ofReplacing : ByteArray := prog_11_method_6_code
def yX9_ofReplacing : MethodName := ⟨RX9, "ofReplacing", "(II)I"⟩
def RX10 : String := "Fuzzyseg"
def TX10 : u_T := fun k => match k with
  | 0 => ("Fuzzyseg", "draft", "LFuzzyseg$Text;", true)
  | 1 => ("Fuzzyseg", "takenSource", "LFuzzyseg$Text;", true)
  | 2 => ("Fuzzyseg", "abbreviations", "[Z", true)
  | 3 => ("Fuzzyseg", "memory", "LFuzzyseg$Memory;", true)
  | 4 => ("Fuzzyseg", "edits", "LFuzzyseg$Edits;", true)
  | 5 => ("Fuzzyseg", "weights", "LFuzzyseg$Weights;", true)
  | 6 => ("Fuzzyseg", "terms", "LFuzzyseg$Terms;", true)
  | 7 => ("Fuzzyseg", "pairs", "LFuzzyseg$Pairs;", true)
  | _ => ("Fuzzyseg", "document", "LFuzzyseg$Document;", true)
def tyX10 : Nat → FieldType := fun k => match k with
  | 0 => .object "Fuzzyseg$Text"
  | 1 => .object "Fuzzyseg$Text"
  | 2 => .array .boolean
  | 3 => .object "Fuzzyseg$Memory"
  | 4 => .object "Fuzzyseg$Edits"
  | 5 => .object "Fuzzyseg$Weights"
  | 6 => .object "Fuzzyseg$Terms"
  | 7 => .object "Fuzzyseg$Pairs"
  | _ => .object "Fuzzyseg$Document"
abbrev wsX100 : List Cond := u_ws RX10 TX10 9
theorem nmX10 : ∀ a, a < 9 → ∀ b, b < 9 → a ≠ b → (TX10 a).2.1 ≠ (TX10 b).2.1 := by decide +kernel
theorem tyX10_ok : ∀ k, k < 9 → parseFieldDescriptor (TX10 k).2.2.1 = some (tyX10 k) := by decide +kernel
abbrev cX10_init : ByteArray := prog_1_method_1_code
def yX10_init : MethodName := ⟨RX10, "<init>", "()V"⟩
abbrev cX10_word : ByteArray := prog_1_method_2_code
def yX10_word : MethodName := ⟨RX10, "word", "(I)I"⟩
abbrev cX10_number : ByteArray := prog_1_method_3_code
def yX10_number : MethodName := ⟨RX10, "number", "(I)I"⟩
abbrev cX10_tag : ByteArray := prog_1_method_4_code
def yX10_tag : MethodName := ⟨RX10, "tag", "(I)I"⟩
abbrev cX10_mark : ByteArray := prog_1_method_5_code
def yX10_mark : MethodName := ⟨RX10, "mark", "(C)I"⟩
abbrev cX10_clear : ByteArray := prog_1_method_6_code
def yX10_clear : MethodName := ⟨RX10, "clear", "()I"⟩
abbrev cX10_setWeights : ByteArray := prog_1_method_7_code
def yX10_setWeights : MethodName := ⟨RX10, "setWeights", "(IIII)I"⟩
abbrev cX10_addAbbreviation : ByteArray := prog_1_method_8_code
def yX10_addAbbreviation : MethodName := ⟨RX10, "addAbbreviation", "(I)Z"⟩
abbrev cX10_addTerm : ByteArray := prog_1_method_9_code
def yX10_addTerm : MethodName := ⟨RX10, "addTerm", "(II)I"⟩
abbrev cX10_takeSource : ByteArray := prog_1_method_10_code
def yX10_takeSource : MethodName := ⟨RX10, "takeSource", "()I"⟩
abbrev cX10_addUnit : ByteArray := prog_1_method_11_code
def yX10_addUnit : MethodName := ⟨RX10, "addUnit", "()I"⟩
abbrev cX10_correct : ByteArray := prog_1_method_12_code
def yX10_correct : MethodName := ⟨RX10, "correct", "(I)I"⟩
abbrev cX10_withdraw : ByteArray := prog_1_method_13_code
def yX10_withdraw : MethodName := ⟨RX10, "withdraw", "(I)I"⟩
abbrev cX10_units : ByteArray := prog_1_method_14_code
def yX10_units : MethodName := ⟨RX10, "units", "()I"⟩
abbrev cX10_isLive : ByteArray := prog_1_method_15_code
def yX10_isLive : MethodName := ⟨RX10, "isLive", "(I)Z"⟩
abbrev cX10_cost : ByteArray := prog_1_method_16_code
def yX10_cost : MethodName := ⟨RX10, "cost", "(I)I"⟩
abbrev cX10_costFromEnds : ByteArray := prog_1_method_17_code
def yX10_costFromEnds : MethodName := ⟨RX10, "costFromEnds", "(I)I"⟩
abbrev cX10_likeness : ByteArray := prog_1_method_18_code
def yX10_likeness : MethodName := ⟨RX10, "likeness", "(I)I"⟩
abbrev cX10_missing : ByteArray := prog_1_method_19_code
def yX10_missing : MethodName := ⟨RX10, "missing", "(I)I"⟩
abbrev cX10_score : ByteArray := prog_1_method_20_code
def yX10_score : MethodName := ⟨RX10, "score", "(I)I"⟩
abbrev cX10_sharedPairs : ByteArray := prog_1_method_21_code
def yX10_sharedPairs : MethodName := ⟨RX10, "sharedPairs", "(I)I"⟩
abbrev cX10_best : ByteArray := prog_1_method_22_code
def yX10_best : MethodName := ⟨RX10, "best", "()I"⟩
abbrev cX10_bestOfAll : ByteArray := prog_1_method_23_code
def yX10_bestOfAll : MethodName := ⟨RX10, "bestOfAll", "()I"⟩
abbrev cX10_open : ByteArray := prog_1_method_24_code
def yX10_open : MethodName := ⟨RX10, "open", "()I"⟩
abbrev cX10_segments : ByteArray := prog_1_method_25_code
def yX10_segments : MethodName := ⟨RX10, "segments", "()I"⟩
abbrev cX10_fill : ByteArray := prog_1_method_26_code
def yX10_fill : MethodName := ⟨RX10, "fill", "(I)I"⟩
abbrev cX10_answer : ByteArray := prog_1_method_27_code
def yX10_answer : MethodName := ⟨RX10, "answer", "(I)I"⟩
abbrev cX10_stateOf : ByteArray := prog_1_method_28_code
def yX10_stateOf : MethodName := ⟨RX10, "stateOf", "(I)C"⟩
abbrev cX10_unitOf : ByteArray := prog_1_method_29_code
def yX10_unitOf : MethodName := ⟨RX10, "unitOf", "(I)I"⟩
abbrev cX10_scoreOf : ByteArray := prog_1_method_30_code
def yX10_scoreOf : MethodName := ⟨RX10, "scoreOf", "(I)I"⟩
abbrev cX10_segmentLength : ByteArray := prog_1_method_31_code
def yX10_segmentLength : MethodName := ⟨RX10, "segmentLength", "(I)I"⟩
abbrev cX10_segmentToken : ByteArray := prog_1_method_32_code
def yX10_segmentToken : MethodName := ⟨RX10, "segmentToken", "(II)I"⟩
abbrev cX10_targetLength : ByteArray := prog_1_method_33_code
def yX10_targetLength : MethodName := ⟨RX10, "targetLength", "(I)I"⟩
abbrev cX10_targetToken : ByteArray := prog_1_method_34_code
def yX10_targetToken : MethodName := ⟨RX10, "targetToken", "(II)I"⟩
abbrev cX10_targetKind : ByteArray := prog_1_method_35_code
def yX10_targetKind : MethodName := ⟨RX10, "targetKind", "(II)C"⟩
abbrev cX10_repeats : ByteArray := prog_1_method_36_code
def yX10_repeats : MethodName := ⟨RX10, "repeats", "()I"⟩
abbrev cX10_openWeight : ByteArray := prog_1_method_37_code
def yX10_openWeight : MethodName := ⟨RX10, "openWeight", "()J"⟩
abbrev cX10_filledShare : ByteArray := prog_1_method_38_code
def yX10_filledShare : MethodName := ⟨RX10, "filledShare", "()F"⟩
abbrev cX10_isSound : ByteArray := prog_1_method_40_code
def yX10_isSound : MethodName := ⟨RX10, "isSound", "()Z"⟩
abbrev cX10_requireBelow : ByteArray := prog_1_method_41_code
def yX10_requireBelow : MethodName := ⟨RX10, "requireBelow", "(II)V"⟩
abbrev cX10_requireWeight : ByteArray := prog_1_method_42_code
def yX10_requireWeight : MethodName := ⟨RX10, "requireWeight", "(I)V"⟩
abbrev cX10_requireOffered : ByteArray := prog_1_method_43_code
def yX10_requireOffered : MethodName := ⟨RX10, "requireOffered", "(I)I"⟩
abbrev cX10_requireDraft : ByteArray := prog_1_method_44_code
def yX10_requireDraft : MethodName := ⟨RX10, "requireDraft", "()V"⟩
abbrev cX10_requireRoomForUnit : ByteArray := prog_1_method_45_code
def yX10_requireRoomForUnit : MethodName := ⟨RX10, "requireRoomForUnit", "()V"⟩
abbrev cX10_putToken : ByteArray := prog_1_method_46_code
def yX10_putToken : MethodName := ⟨RX10, "putToken", "(II)I"⟩
abbrev cX10_unitAt : ByteArray := prog_1_method_47_code
def yX10_unitAt : MethodName := ⟨RX10, "unitAt", "(I)LFuzzyseg$Unit;"⟩
abbrev cX10_liveUnitAt : ByteArray := prog_1_method_48_code
def yX10_liveUnitAt : MethodName := ⟨RX10, "liveUnitAt", "(I)LFuzzyseg$Unit;"⟩
abbrev cX10_unitForDraft : ByteArray := prog_1_method_49_code
def yX10_unitForDraft : MethodName := ⟨RX10, "unitForDraft", "(I)LFuzzyseg$Unit;"⟩
abbrev cX10_segmentAt : ByteArray := prog_1_method_50_code
def yX10_segmentAt : MethodName := ⟨RX10, "segmentAt", "(I)LFuzzyseg$Segment;"⟩
abbrev cX10_segmentFilledByUnit : ByteArray := prog_1_method_51_code
def yX10_segmentFilledByUnit : MethodName := ⟨RX10, "segmentFilledByUnit", "(I)LFuzzyseg$Segment;"⟩
abbrev cX10_targetAt : ByteArray := prog_1_method_52_code
def yX10_targetAt : MethodName := ⟨RX10, "targetAt", "(I)LFuzzyseg$Text;"⟩
abbrev cX10_targetCode : ByteArray := prog_1_method_53_code
def yX10_targetCode : MethodName := ⟨RX10, "targetCode", "(II)I"⟩
abbrev cX10_fillSegment : ByteArray := prog_1_method_54_code
def yX10_fillSegment : MethodName := ⟨RX10, "fillSegment", "(II)Z"⟩
def RX11 : String := "FuzzysegModel"
def TX11 : u_T := fun k => match k with
  | _ => ("", "", "", false)
def tyX11 : Nat → FieldType := fun k => match k with
  | _ => .int
abbrev wsX110 : List Cond := u_ws RX11 TX11 0
theorem nmX11 : ∀ a, a < 0 → ∀ b, b < 0 → a ≠ b → (TX11 a).2.1 ≠ (TX11 b).2.1 := by decide +kernel
theorem tyX11_ok : ∀ k, k < 0 → parseFieldDescriptor (TX11 k).2.2.1 = some (tyX11 k) := by decide +kernel
def RJx145de : String := "java/io/Serializable"
def TJx145de : u_T := fun k => match k with
  | _ => ("", "", "", false)
def tyJx145de : Nat → FieldType := fun k => match k with
  | _ => .int
abbrev wsJx145de0 : List Cond := u_ws RJx145de TJx145de 0
theorem nmJx145de : ∀ a, a < 0 → ∀ b, b < 0 → a ≠ b → (TJx145de a).2.1 ≠ (TJx145de b).2.1 := by decide +kernel
theorem tyJx145de_ok : ∀ k, k < 0 → parseFieldDescriptor (TJx145de k).2.2.1 = some (tyJx145de k) := by decide +kernel
def RJx00060 : String := "java/lang/ArrayIndexOutOfBoundsException"
def TJx00060 : u_T := fun k => match k with
  | 0 => ("java/lang/Throwable", "backtrace", "Ljava/lang/Object;", false)
  | 1 => ("java/lang/Throwable", "detailMessage", "Ljava/lang/String;", false)
  | 2 => ("java/lang/Throwable", "cause", "Ljava/lang/Throwable;", false)
  | 3 => ("java/lang/Throwable", "stackTrace", "[Ljava/lang/StackTraceElement;", false)
  | 4 => ("java/lang/Throwable", "depth", "I", false)
  | _ => ("java/lang/Throwable", "suppressedExceptions", "Ljava/util/List;", false)
def tyJx00060 : Nat → FieldType := fun k => match k with
  | 0 => .object "java/lang/Object"
  | 1 => .object "java/lang/String"
  | 2 => .object "java/lang/Throwable"
  | 3 => .array (.object "java/lang/StackTraceElement")
  | 4 => .int
  | _ => .object "java/util/List"
abbrev wsJx000600 : List Cond := u_ws RJx00060 TJx00060 6
theorem nmJx00060 : ∀ a, a < 6 → ∀ b, b < 6 → a ≠ b → (TJx00060 a).2.1 ≠ (TJx00060 b).2.1 := by decide +kernel
theorem tyJx00060_ok : ∀ k, k < 6 → parseFieldDescriptor (TJx00060 k).2.2.1 = some (tyJx00060 k) := by decide +kernel
abbrev cJx00060_init_a7421 : ByteArray := prog_16_method_2_code
def yJx00060_init_a7421 : MethodName := ⟨RJx00060, "<init>", "(Ljava/lang/String;)V"⟩
def RJx8e188 : String := "java/lang/Cloneable"
def TJx8e188 : u_T := fun k => match k with
  | _ => ("", "", "", false)
def tyJx8e188 : Nat → FieldType := fun k => match k with
  | _ => .int
abbrev wsJx8e1880 : List Cond := u_ws RJx8e188 TJx8e188 0
theorem nmJx8e188 : ∀ a, a < 0 → ∀ b, b < 0 → a ≠ b → (TJx8e188 a).2.1 ≠ (TJx8e188 b).2.1 := by decide +kernel
theorem tyJx8e188_ok : ∀ k, k < 0 → parseFieldDescriptor (TJx8e188 k).2.2.1 = some (tyJx8e188 k) := by decide +kernel
def RJxab1ab : String := "java/lang/Iterable"
def TJxab1ab : u_T := fun k => match k with
  | _ => ("", "", "", false)
def tyJxab1ab : Nat → FieldType := fun k => match k with
  | _ => .int
abbrev wsJxab1ab0 : List Cond := u_ws RJxab1ab TJxab1ab 0
theorem nmJxab1ab : ∀ a, a < 0 → ∀ b, b < 0 → a ≠ b → (TJxab1ab a).2.1 ≠ (TJxab1ab b).2.1 := by decide +kernel
theorem tyJxab1ab_ok : ∀ k, k < 0 → parseFieldDescriptor (TJxab1ab k).2.2.1 = some (tyJxab1ab k) := by decide +kernel
def RJ9 : String := "java/lang/Math"
def TJ9 : u_T := fun k => match k with
  | _ => ("", "", "", false)
def tyJ9 : Nat → FieldType := fun k => match k with
  | _ => .int
abbrev wsJ90 : List Cond := u_ws RJ9 TJ9 0
theorem nmJ9 : ∀ a, a < 0 → ∀ b, b < 0 → a ≠ b → (TJ9 a).2.1 ≠ (TJ9 b).2.1 := by decide +kernel
theorem tyJ9_ok : ∀ k, k < 0 → parseFieldDescriptor (TJ9 k).2.2.1 = some (tyJ9 k) := by decide +kernel
abbrev cJ9_abs_0f7a4 : ByteArray := prog_23_method_59_code
def yJ9_abs_0f7a4 : MethodName := ⟨RJ9, "abs", "(I)I"⟩
abbrev cJ9_max_7cf53 : ByteArray := prog_23_method_65_code
def yJ9_max_7cf53 : MethodName := ⟨RJ9, "max", "(II)I"⟩
abbrev cJ9_min_7cf53 : ByteArray := prog_23_method_69_code
def yJ9_min_7cf53 : MethodName := ⟨RJ9, "min", "(II)I"⟩
def RJ0 : String := "java/lang/String"
def TJ0 : u_T := fun k => match k with
  | 0 => ("java/lang/String", "value", "[B", true)
  | _ => ("java/lang/String", "coder", "B", true)
def tyJ0 : Nat → FieldType := fun k => match k with
  | 0 => .array .byte
  | _ => .byte
abbrev wsJ00 : List Cond := u_ws RJ0 TJ0 2
theorem nmJ0 : ∀ a, a < 2 → ∀ b, b < 2 → a ≠ b → (TJ0 a).2.1 ≠ (TJ0 b).2.1 := by decide +kernel
theorem tyJ0_ok : ∀ k, k < 2 → parseFieldDescriptor (TJ0 k).2.2.1 = some (tyJ0 k) := by decide +kernel
def RJ10 : String := "java/lang/System"
def TJ10 : u_T := fun k => match k with
  | _ => ("", "", "", false)
def tyJ10 : Nat → FieldType := fun k => match k with
  | _ => .int
abbrev wsJ100 : List Cond := u_ws RJ10 TJ10 0
theorem nmJ10 : ∀ a, a < 0 → ∀ b, b < 0 → a ≠ b → (TJ10 a).2.1 ≠ (TJ10 b).2.1 := by decide +kernel
theorem tyJ10_ok : ∀ k, k < 0 → parseFieldDescriptor (TJ10 k).2.2.1 = some (tyJ10 k) := by decide +kernel
def RJxa1e45 : String := "java/util/AbstractCollection"
def TJxa1e45 : u_T := fun k => match k with
  | _ => ("", "", "", false)
def tyJxa1e45 : Nat → FieldType := fun k => match k with
  | _ => .int
abbrev wsJxa1e450 : List Cond := u_ws RJxa1e45 TJxa1e45 0
theorem nmJxa1e45 : ∀ a, a < 0 → ∀ b, b < 0 → a ≠ b → (TJxa1e45 a).2.1 ≠ (TJxa1e45 b).2.1 := by decide +kernel
theorem tyJxa1e45_ok : ∀ k, k < 0 → parseFieldDescriptor (TJxa1e45 k).2.2.1 = some (tyJxa1e45 k) := by decide +kernel
abbrev cJxa1e45_init_da8c8 : ByteArray := prog_29_method_1_code
def yJxa1e45_init_da8c8 : MethodName := ⟨RJxa1e45, "<init>", "()V"⟩
def RJxc12de : String := "java/util/AbstractList"
def TJxc12de : u_T := fun k => match k with
  | _ => ("", "", "", false)
def tyJxc12de : Nat → FieldType := fun k => match k with
  | _ => .int
abbrev wsJxc12de0 : List Cond := u_ws RJxc12de TJxc12de 0
theorem nmJxc12de : ∀ a, a < 0 → ∀ b, b < 0 → a ≠ b → (TJxc12de a).2.1 ≠ (TJxc12de b).2.1 := by decide +kernel
theorem tyJxc12de_ok : ∀ k, k < 0 → parseFieldDescriptor (TJxc12de k).2.2.1 = some (tyJxc12de k) := by decide +kernel
abbrev cJxc12de_init_da8c8 : ByteArray := prog_30_method_1_code
def yJxc12de_init_da8c8 : MethodName := ⟨RJxc12de, "<init>", "()V"⟩
def RJx4a65c : String := "java/util/ArrayList"
def TJx4a65c : u_T := fun k => match k with
  | 0 => ("java/util/AbstractList", "modCount", "I", false)
  | 1 => ("java/util/ArrayList", "elementData", "[Ljava/lang/Object;", false)
  | _ => ("java/util/ArrayList", "size", "I", false)
def tyJx4a65c : Nat → FieldType := fun k => match k with
  | 0 => .int
  | 1 => .array (.object "java/lang/Object")
  | _ => .int
abbrev wsJx4a65c0 : List Cond := u_ws RJx4a65c TJx4a65c 3
theorem nmJx4a65c : ∀ a, a < 3 → ∀ b, b < 3 → a ≠ b → (TJx4a65c a).2.1 ≠ (TJx4a65c b).2.1 := by decide +kernel
theorem tyJx4a65c_ok : ∀ k, k < 3 → parseFieldDescriptor (TJx4a65c k).2.2.1 = some (tyJx4a65c k) := by decide +kernel
abbrev cJx4a65c_init_da8c8 : ByteArray := prog_31_method_2_code
def yJx4a65c_init_da8c8 : MethodName := ⟨RJx4a65c, "<init>", "()V"⟩
abbrev cJx4a65c_grow_92f84 : ByteArray := prog_31_method_6_code
def yJx4a65c_grow_92f84 : MethodName := ⟨RJx4a65c, "grow", "(I)[Ljava/lang/Object;"⟩
abbrev cJx4a65c_grow_d5877 : ByteArray := prog_31_method_7_code
def yJx4a65c_grow_d5877 : MethodName := ⟨RJx4a65c, "grow", "()[Ljava/lang/Object;"⟩
abbrev cJx4a65c_size_8abf5 : ByteArray := prog_31_method_8_code
def yJx4a65c_size_8abf5 : MethodName := ⟨RJx4a65c, "size", "()I"⟩
abbrev cJx4a65c_elementData_915e3 : ByteArray := prog_31_method_18_code
def yJx4a65c_elementData_915e3 : MethodName := ⟨RJx4a65c, "elementData", "(I)Ljava/lang/Object;"⟩
abbrev cJx4a65c_get_915e3 : ByteArray := prog_31_method_20_code
def yJx4a65c_get_915e3 : MethodName := ⟨RJx4a65c, "get", "(I)Ljava/lang/Object;"⟩
abbrev cJx4a65c_add_72be8 : ByteArray := prog_31_method_24_code
def yJx4a65c_add_72be8 : MethodName := ⟨RJx4a65c, "add", "(Ljava/lang/Object;[Ljava/lang/Object;I)V"⟩
abbrev cJx4a65c_add_9ea2d : ByteArray := prog_31_method_25_code
def yJx4a65c_add_9ea2d : MethodName := ⟨RJx4a65c, "add", "(Ljava/lang/Object;)Z"⟩
abbrev cJx4a65c_clear_da8c8 : ByteArray := prog_31_method_40_code
def yJx4a65c_clear_da8c8 : MethodName := ⟨RJx4a65c, "clear", "()V"⟩
def RJ7 : String := "java/util/Arrays"
def TJ7 : u_T := fun k => match k with
  | _ => ("", "", "", false)
def tyJ7 : Nat → FieldType := fun k => match k with
  | _ => .int
abbrev wsJ70 : List Cond := u_ws RJ7 TJ7 0
theorem nmJ7 : ∀ a, a < 0 → ∀ b, b < 0 → a ≠ b → (TJ7 a).2.1 ≠ (TJ7 b).2.1 := by decide +kernel
theorem tyJ7_ok : ∀ k, k < 0 → parseFieldDescriptor (TJ7 k).2.2.1 = some (tyJ7 k) := by decide +kernel
abbrev cJ7_copyOf_1904c : ByteArray := prog_32_method_119_code
def yJ7_copyOf_1904c : MethodName := ⟨RJ7, "copyOf", "([Ljava/lang/Object;I)[Ljava/lang/Object;"⟩
abbrev cJ7_copyOf_6403c : ByteArray := prog_32_method_120_code
def yJ7_copyOf_6403c : MethodName := ⟨RJ7, "copyOf", "([Ljava/lang/Object;ILjava/lang/Class;)[Ljava/lang/Object;"⟩
def RJx5ef63 : String := "java/util/Collection"
def TJx5ef63 : u_T := fun k => match k with
  | _ => ("", "", "", false)
def tyJx5ef63 : Nat → FieldType := fun k => match k with
  | _ => .int
abbrev wsJx5ef630 : List Cond := u_ws RJx5ef63 TJx5ef63 0
theorem nmJx5ef63 : ∀ a, a < 0 → ∀ b, b < 0 → a ≠ b → (TJx5ef63 a).2.1 ≠ (TJx5ef63 b).2.1 := by decide +kernel
theorem tyJx5ef63_ok : ∀ k, k < 0 → parseFieldDescriptor (TJx5ef63 k).2.2.1 = some (tyJx5ef63 k) := by decide +kernel
def RJxbd725 : String := "java/util/List"
def TJxbd725 : u_T := fun k => match k with
  | _ => ("", "", "", false)
def tyJxbd725 : Nat → FieldType := fun k => match k with
  | _ => .int
abbrev wsJxbd7250 : List Cond := u_ws RJxbd725 TJxbd725 0
theorem nmJxbd725 : ∀ a, a < 0 → ∀ b, b < 0 → a ≠ b → (TJxbd725 a).2.1 ≠ (TJxbd725 b).2.1 := by decide +kernel
theorem tyJxbd725_ok : ∀ k, k < 0 → parseFieldDescriptor (TJxbd725 k).2.2.1 = some (tyJxbd725 k) := by decide +kernel
def RJ15 : String := "java/util/Objects"
def TJ15 : u_T := fun k => match k with
  | _ => ("", "", "", false)
def tyJ15 : Nat → FieldType := fun k => match k with
  | _ => .int
abbrev wsJ150 : List Cond := u_ws RJ15 TJ15 0
theorem nmJ15 : ∀ a, a < 0 → ∀ b, b < 0 → a ≠ b → (TJ15 a).2.1 ≠ (TJ15 b).2.1 := by decide +kernel
theorem tyJ15_ok : ∀ k, k < 0 → parseFieldDescriptor (TJ15 k).2.2.1 = some (tyJ15 k) := by decide +kernel
abbrev cJ15_checkIndex_7cf53 : ByteArray := prog_36_method_17_code
def yJ15_checkIndex_7cf53 : MethodName := ⟨RJ15, "checkIndex", "(II)I"⟩
def RJxf0a74 : String := "java/util/RandomAccess"
def TJxf0a74 : u_T := fun k => match k with
  | _ => ("", "", "", false)
def tyJxf0a74 : Nat → FieldType := fun k => match k with
  | _ => .int
abbrev wsJxf0a740 : List Cond := u_ws RJxf0a74 TJxf0a74 0
theorem nmJxf0a74 : ∀ a, a < 0 → ∀ b, b < 0 → a ≠ b → (TJxf0a74 a).2.1 ≠ (TJxf0a74 b).2.1 := by decide +kernel
theorem tyJxf0a74_ok : ∀ k, k < 0 → parseFieldDescriptor (TJxf0a74 k).2.2.1 = some (tyJxf0a74 k) := by decide +kernel
def RJxa66e6 : String := "java/util/SequencedCollection"
def TJxa66e6 : u_T := fun k => match k with
  | _ => ("", "", "", false)
def tyJxa66e6 : Nat → FieldType := fun k => match k with
  | _ => .int
abbrev wsJxa66e60 : List Cond := u_ws RJxa66e6 TJxa66e6 0
theorem nmJxa66e6 : ∀ a, a < 0 → ∀ b, b < 0 → a ≠ b → (TJxa66e6 a).2.1 ≠ (TJxa66e6 b).2.1 := by decide +kernel
theorem tyJxa66e6_ok : ∀ k, k < 0 → parseFieldDescriptor (TJxa66e6 k).2.2.1 = some (tyJxa66e6 k) := by decide +kernel
def RJ8 : String := "jdk/internal/util/ArraysSupport"
def TJ8 : u_T := fun k => match k with
  | _ => ("", "", "", false)
def tyJ8 : Nat → FieldType := fun k => match k with
  | _ => .int
abbrev wsJ80 : List Cond := u_ws RJ8 TJ8 0
theorem nmJ8 : ∀ a, a < 0 → ∀ b, b < 0 → a ≠ b → (TJ8 a).2.1 ≠ (TJ8 b).2.1 := by decide +kernel
theorem tyJ8_ok : ∀ k, k < 0 → parseFieldDescriptor (TJ8 k).2.2.1 = some (tyJ8 k) := by decide +kernel
abbrev cJ8_newLength_cabcc : ByteArray := prog_39_method_27_code
def yJ8_newLength_cabcc : MethodName := ⟨RJ8, "newLength", "(III)I"⟩
abbrev cJ8_hugeLength_7cf53 : ByteArray := prog_39_method_28_code
def yJ8_hugeLength_7cf53 : MethodName := ⟨RJ8, "hugeLength", "(II)I"⟩
def RJ3 : String := "jdk/internal/util/Preconditions"
def TJ3 : u_T := fun k => match k with
  | _ => ("", "", "", false)
def tyJ3 : Nat → FieldType := fun k => match k with
  | _ => .int
abbrev wsJ30 : List Cond := u_ws RJ3 TJ3 0
theorem nmJ3 : ∀ a, a < 0 → ∀ b, b < 0 → a ≠ b → (TJ3 a).2.1 ≠ (TJ3 b).2.1 := by decide +kernel
theorem tyJ3_ok : ∀ k, k < 0 → parseFieldDescriptor (TJ3 k).2.2.1 = some (tyJ3 k) := by decide +kernel
abbrev cJ3_checkIndex_8e157 : ByteArray := prog_40_method_11_code
def yJ3_checkIndex_8e157 : MethodName := ⟨RJ3, "checkIndex", "(IILjava/util/function/BiFunction;)I"⟩
def RL : String := "FuzzysegLaw"
abbrev cL_cell : ByteArray := method_2_code
def yL_cell : MethodName := ⟨RL, "cell", "([II)I"⟩
abbrev cL_pick : ByteArray := method_3_code
def yL_pick : MethodName := ⟨RL, "pick", "([III)I"⟩
abbrev cL_told : ByteArray := method_4_code
def yL_told : MethodName := ⟨RL, "told", "(Z)I"⟩
abbrev cL_plain : ByteArray := method_5_code
def yL_plain : MethodName := ⟨RL, "plain", "(LFuzzyseg;IIIII)I"⟩
abbrev cL_deed : ByteArray := method_6_code
def yL_deed : MethodName := ⟨RL, "deed", "(LFuzzyseg;IIIII)I"⟩
abbrev cL_asked : ByteArray := method_7_code
def yL_asked : MethodName := ⟨RL, "asked", "(LFuzzyseg;III)I"⟩
abbrev cL_ask : ByteArray := method_8_code
def yL_ask : MethodName := ⟨RL, "ask", "(LFuzzyseg;III)I"⟩
abbrev cL_mark : ByteArray := method_9_code
def yL_mark : MethodName := ⟨RL, "mark", "(I)C"⟩
abbrev cL_token : ByteArray := method_10_code
def yL_token : MethodName := ⟨RL, "token", "([II)I"⟩
abbrev cL_text : ByteArray := method_11_code
def yL_text : MethodName := ⟨RL, "text", "([III)[I"⟩
abbrev cL_like : ByteArray := method_12_code
def yL_like : MethodName := ⟨RL, "like", "([I[II)[I"⟩
abbrev cL_types : ByteArray := method_13_code
def yL_types : MethodName := ⟨RL, "types", "(LFuzzyseg;[I)Z"⟩
abbrev cL_unit : ByteArray := method_14_code
def yL_unit : MethodName := ⟨RL, "unit", "(LFuzzyseg;[I[I)I"⟩
abbrev cL_isSegment : ByteArray := method_15_code
def yL_isSegment : MethodName := ⟨RL, "isSegment", "(LFuzzyseg;I[III)Z"⟩
abbrev cL_isTarget : ByteArray := method_16_code
def yL_isTarget : MethodName := ⟨RL, "isTarget", "(LFuzzyseg;I[I)Z"⟩
abbrev cL_areSame : ByteArray := method_17_code
def yL_areSame : MethodName := ⟨RL, "areSame", "([I[I)Z"⟩
abbrev cL_isCompared : ByteArray := method_18_code
def yL_isCompared : MethodName := ⟨RL, "isCompared", "(LFuzzyseg;[I[[I)Z"⟩
abbrev cL_segment : ByteArray := method_19_code
def yL_segment : MethodName := ⟨RL, "segment", "(LFuzzyseg;[II)[I"⟩
abbrev cL_isCut : ByteArray := method_20_code
def yL_isCut : MethodName := ⟨RL, "isCut", "(LFuzzyseg;[I)Z"⟩
abbrev cL_isFilled : ByteArray := method_21_code
def yL_isFilled : MethodName := ⟨RL, "isFilled", "(LFuzzyseg;[II)Z"⟩
abbrev cL_isAnswered : ByteArray := method_22_code
def yL_isAnswered : MethodName := ⟨RL, "isAnswered", "(LFuzzyseg;[II[I)Z"⟩
abbrev cL_law : ByteArray := code
def yL_law : MethodName := ⟨RL, "law", "([I)Z"⟩
def wsJxa1e45_init_da8c8 : List Cond := .code yJxa1e45_init_da8c8 cJxa1e45_init_da8c8 1 none :: ([.methodLink RJxa1e45 1 objectInit, .instanceMethod objectInit, .code objectInit ⟨#[0xb1]⟩ 1 none])
def wsJxc12de_init_da8c8 : List Cond := .code yJxc12de_init_da8c8 cJxc12de_init_da8c8 1 none :: ([.fieldLink RJxc12de 7 "java/util/AbstractList" "modCount" "I", .methodLink RJxc12de 1 yJxa1e45_init_da8c8, .instanceMethod yJxa1e45_init_da8c8, .initialized RJxa1e45, .code yJxa1e45_init_da8c8 cJxa1e45_init_da8c8 1 none, .methodLink RJxa1e45 1 objectInit, .instanceMethod objectInit, .code objectInit ⟨#[0xb1]⟩ 1 none] ++ wsJx4a65c0)
def wsJx4a65c_init_da8c8 : List Cond := .code yJx4a65c_init_da8c8 cJx4a65c_init_da8c8 1 none :: ([.fieldLink RJx4a65c 39 "java/util/ArrayList" "DEFAULTCAPACITY_EMPTY_ELEMENTDATA" "[Ljava/lang/Object;", .fieldLink RJx4a65c 9 "java/util/ArrayList" "elementData" "[Ljava/lang/Object;", .methodLink RJx4a65c 1 yJxc12de_init_da8c8, .instanceMethod yJxc12de_init_da8c8, .initialized RJxc12de, .code yJxc12de_init_da8c8 cJxc12de_init_da8c8 1 none, .fieldLink RJxc12de 7 "java/util/AbstractList" "modCount" "I", .methodLink RJxc12de 1 yJxa1e45_init_da8c8, .instanceMethod yJxa1e45_init_da8c8, .initialized RJxa1e45, .code yJxa1e45_init_da8c8 cJxa1e45_init_da8c8 1 none, .methodLink RJxa1e45 1 objectInit, .instanceMethod objectInit, .code objectInit ⟨#[0xb1]⟩ 1 none] ++ wsJx4a65c0)
