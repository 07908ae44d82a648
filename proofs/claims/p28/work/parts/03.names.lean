/-! ===== BEGIN printed: names, fields, word lists, decode rows ===== -/
def RX0 : String := "GlossedPage$Authors"
def TX0 : u_T := fun k => match k with
  | 0 => ("GlossedPage$Authors", "years", "[I", true)
  | 1 => ("GlossedPage$Authors", "schools", "[I", true)
  | 2 => ("GlossedPage$Authors", "initials", "[I", true)
  | _ => ("GlossedPage$Authors", "count", "I", false)
def tyX0 : Nat → FieldType := fun k => match k with
  | 0 => .array .int
  | 1 => .array .int
  | 2 => .array .int
  | _ => .int
abbrev wsX00 : List Cond := u_ws RX0 TX0 4
theorem nmX0 : ∀ a, a < 4 → ∀ b, b < 4 → a ≠ b → (TX0 a).2.1 ≠ (TX0 b).2.1 := by decide +kernel
theorem tyX0_ok : ∀ k, k < 4 → parseFieldDescriptor (TX0 k).2.2.1 = some (tyX0 k) := by decide +kernel
abbrev cX0_init : ByteArray := prog_2_method_1_code
def yX0_init : MethodName := ⟨RX0, "<init>", "()V"⟩
abbrev cX0_count : ByteArray := prog_2_method_2_code
def yX0_count : MethodName := ⟨RX0, "count", "()I"⟩
abbrev cX0_isFull : ByteArray := prog_2_method_3_code
def yX0_isFull : MethodName := ⟨RX0, "isFull", "()Z"⟩
abbrev cX0_has : ByteArray := prog_2_method_4_code
def yX0_has : MethodName := ⟨RX0, "has", "(I)Z"⟩
abbrev cX0_add : ByteArray := prog_2_method_5_code
def yX0_add : MethodName := ⟨RX0, "add", "(III)V"⟩
def RX1 : String := "GlossedPage$Comments"
def TX1 : u_T := fun k => match k with
  | 0 => ("GlossedPage$Comments", "writers", "[I", true)
  | 1 => ("GlossedPage$Comments", "kinds", "[I", true)
  | 2 => ("GlossedPage$Comments", "lines", "[I", true)
  | 3 => ("GlossedPage$Comments", "margins", "[I", true)
  | 4 => ("GlossedPage$Comments", "parents", "[I", true)
  | 5 => ("GlossedPage$Comments", "roots", "[I", true)
  | 6 => ("GlossedPage$Comments", "units", "[I", true)
  | 7 => ("GlossedPage$Comments", "places", "[I", true)
  | 8 => ("GlossedPage$Comments", "words", "[I", true)
  | 9 => ("GlossedPage$Comments", "lost", "[Z", true)
  | 10 => ("GlossedPage$Comments", "burdens", "[I", true)
  | _ => ("GlossedPage$Comments", "count", "I", false)
def tyX1 : Nat → FieldType := fun k => match k with
  | 0 => .array .int
  | 1 => .array .int
  | 2 => .array .int
  | 3 => .array .int
  | 4 => .array .int
  | 5 => .array .int
  | 6 => .array .int
  | 7 => .array .int
  | 8 => .array .int
  | 9 => .array .boolean
  | 10 => .array .int
  | _ => .int
abbrev wsX10 : List Cond := u_ws RX1 TX1 12
theorem nmX1 : ∀ a, a < 12 → ∀ b, b < 12 → a ≠ b → (TX1 a).2.1 ≠ (TX1 b).2.1 := by decide +kernel
theorem tyX1_ok : ∀ k, k < 12 → parseFieldDescriptor (TX1 k).2.2.1 = some (tyX1 k) := by decide +kernel
abbrev cX1_init : ByteArray := prog_3_method_1_code
def yX1_init : MethodName := ⟨RX1, "<init>", "()V"⟩
abbrev cX1_isFull : ByteArray := prog_3_method_3_code
def yX1_isFull : MethodName := ⟨RX1, "isFull", "()Z"⟩
abbrev cX1_has : ByteArray := prog_3_method_4_code
def yX1_has : MethodName := ⟨RX1, "has", "(I)Z"⟩
abbrev cX1_add : ByteArray := prog_3_method_5_code
def yX1_add : MethodName := ⟨RX1, "add", "(IIII)I"⟩
abbrev cX1_hookTo : ByteArray := prog_3_method_6_code
def yX1_hookTo : MethodName := ⟨RX1, "hookTo", "(IIII)V"⟩
abbrev cX1_authorOf : ByteArray := prog_3_method_8_code
def yX1_authorOf : MethodName := ⟨RX1, "authorOf", "(I)I"⟩
abbrev cX1_kindOf : ByteArray := prog_3_method_9_code
def yX1_kindOf : MethodName := ⟨RX1, "kindOf", "(I)I"⟩
abbrev cX1_parentOf : ByteArray := prog_3_method_12_code
def yX1_parentOf : MethodName := ⟨RX1, "parentOf", "(I)I"⟩
abbrev cX1_unitOf : ByteArray := prog_3_method_13_code
def yX1_unitOf : MethodName := ⟨RX1, "unitOf", "(I)I"⟩
abbrev cX1_placeOf : ByteArray := prog_3_method_14_code
def yX1_placeOf : MethodName := ⟨RX1, "placeOf", "(I)I"⟩
abbrev cX1_isLost : ByteArray := prog_3_method_15_code
def yX1_isLost : MethodName := ⟨RX1, "isLost", "(I)Z"⟩
abbrev cX1_isHook : ByteArray := prog_3_method_16_code
def yX1_isHook : MethodName := ⟨RX1, "isHook", "(II)Z"⟩
abbrev cX1_closeGap : ByteArray := prog_3_method_17_code
def yX1_closeGap : MethodName := ⟨RX1, "closeGap", "(III)V"⟩
abbrev cX1_hookAnew : ByteArray := prog_3_method_18_code
def yX1_hookAnew : MethodName := ⟨RX1, "hookAnew", "(ILGlossedPage$Text;)I"⟩
abbrev cX1_stands : ByteArray := prog_3_method_19_code
def yX1_stands : MethodName := ⟨RX1, "stands", "(I)Z"⟩
abbrev cX1_weigh : ByteArray := prog_3_method_20_code
def yX1_weigh : MethodName := ⟨RX1, "weigh", "()V"⟩
abbrev cX1_isLight : ByteArray := prog_3_method_21_code
def yX1_isLight : MethodName := ⟨RX1, "isLight", "(I)Z"⟩
abbrev cX1_burdenOf : ByteArray := prog_3_method_22_code
def yX1_burdenOf : MethodName := ⟨RX1, "burdenOf", "(I)I"⟩
def RX2 : String := "GlossedPage$Editions"
def TX2 : u_T := fun k => match k with
  | 0 => ("GlossedPage$Editions", "addresses", "[I", true)
  | 1 => ("GlossedPage$Editions", "pageCounts", "[I", true)
  | 2 => ("GlossedPage$Editions", "unitCounts", "[I", true)
  | 3 => ("GlossedPage$Editions", "count", "I", false)
  | _ => ("GlossedPage$Editions", "width", "I", false)
def tyX2 : Nat → FieldType := fun k => match k with
  | 0 => .array .int
  | 1 => .array .int
  | 2 => .array .int
  | 3 => .int
  | _ => .int
abbrev wsX20 : List Cond := u_ws RX2 TX2 5
theorem nmX2 : ∀ a, a < 5 → ∀ b, b < 5 → a ≠ b → (TX2 a).2.1 ≠ (TX2 b).2.1 := by decide +kernel
theorem tyX2_ok : ∀ k, k < 5 → parseFieldDescriptor (TX2 k).2.2.1 = some (tyX2 k) := by decide +kernel
abbrev cX2_init : ByteArray := prog_4_method_1_code
def yX2_init : MethodName := ⟨RX2, "<init>", "()V"⟩
def RX3 : String := "GlossedPage$Margin"
def TX3 : u_T := fun k => match k with
  | 0 => ("GlossedPage$Margin", "heights", "[I", true)
  | _ => ("GlossedPage$Margin", "free", "I", false)
def tyX3 : Nat → FieldType := fun k => match k with
  | 0 => .array .int
  | _ => .int
abbrev wsX30 : List Cond := u_ws RX3 TX3 2
theorem nmX3 : ∀ a, a < 2 → ∀ b, b < 2 → a ≠ b → (TX3 a).2.1 ≠ (TX3 b).2.1 := by decide +kernel
theorem tyX3_ok : ∀ k, k < 2 → parseFieldDescriptor (TX3 k).2.2.1 = some (tyX3 k) := by decide +kernel
abbrev cX3_init : ByteArray := prog_5_method_1_code
def yX3_init : MethodName := ⟨RX3, "<init>", "()V"⟩
def RX4 : String := "GlossedPage$Pad"
def TX4 : u_T := fun k => match k with
  | 0 => ("GlossedPage$Pad", "words", "[I", true)
  | _ => ("GlossedPage$Pad", "size", "I", false)
def tyX4 : Nat → FieldType := fun k => match k with
  | 0 => .array .int
  | _ => .int
abbrev wsX40 : List Cond := u_ws RX4 TX4 2
theorem nmX4 : ∀ a, a < 2 → ∀ b, b < 2 → a ≠ b → (TX4 a).2.1 ≠ (TX4 b).2.1 := by decide +kernel
theorem tyX4_ok : ∀ k, k < 2 → parseFieldDescriptor (TX4 k).2.2.1 = some (tyX4 k) := by decide +kernel
abbrev cX4_init : ByteArray := prog_6_method_1_code
def yX4_init : MethodName := ⟨RX4, "<init>", "()V"⟩
abbrev cX4_size : ByteArray := prog_6_method_2_code
def yX4_size : MethodName := ⟨RX4, "size", "()I"⟩
abbrev cX4_isFull : ByteArray := prog_6_method_3_code
def yX4_isFull : MethodName := ⟨RX4, "isFull", "()Z"⟩
abbrev cX4_add : ByteArray := prog_6_method_4_code
def yX4_add : MethodName := ⟨RX4, "add", "(I)V"⟩
abbrev cX4_clear : ByteArray := prog_6_method_5_code
def yX4_clear : MethodName := ⟨RX4, "clear", "()V"⟩
abbrev cX4_wordAt : ByteArray := prog_6_method_6_code
def yX4_wordAt : MethodName := ⟨RX4, "wordAt", "(I)I"⟩
def RX5 : String := "GlossedPage$Rulings"
def TX5 : u_T := fun k => match k with
  | 0 => ("GlossedPage$Rulings", "ruled", "[I", true)
  | 1 => ("GlossedPage$Rulings", "yes", "[I", true)
  | 2 => ("GlossedPage$Rulings", "ruleKinds", "[I", true)
  | 3 => ("GlossedPage$Rulings", "ruleWhats", "[I", true)
  | _ => ("GlossedPage$Rulings", "rules", "I", false)
def tyX5 : Nat → FieldType := fun k => match k with
  | 0 => .array .int
  | 1 => .array .int
  | 2 => .array .int
  | 3 => .array .int
  | _ => .int
abbrev wsX50 : List Cond := u_ws RX5 TX5 5
theorem nmX5 : ∀ a, a < 5 → ∀ b, b < 5 → a ≠ b → (TX5 a).2.1 ≠ (TX5 b).2.1 := by decide +kernel
theorem tyX5_ok : ∀ k, k < 5 → parseFieldDescriptor (TX5 k).2.2.1 = some (tyX5 k) := by decide +kernel
abbrev cX5_init : ByteArray := prog_7_method_1_code
def yX5_init : MethodName := ⟨RX5, "<init>", "()V"⟩
def RX6 : String := "GlossedPage$Setting"
def TX6 : u_T := fun k => match k with
  | 0 => ("GlossedPage$Setting", "inner", "LGlossedPage$Margin;", true)
  | 1 => ("GlossedPage$Setting", "outer", "LGlossedPage$Margin;", true)
  | 2 => ("GlossedPage$Setting", "rows", "[I", true)
  | 3 => ("GlossedPage$Setting", "width", "I", false)
  | _ => ("GlossedPage$Setting", "next", "I", false)
def tyX6 : Nat → FieldType := fun k => match k with
  | 0 => .object "GlossedPage$Margin"
  | 1 => .object "GlossedPage$Margin"
  | 2 => .array .int
  | 3 => .int
  | _ => .int
abbrev wsX60 : List Cond := u_ws RX6 TX6 5
theorem nmX6 : ∀ a, a < 5 → ∀ b, b < 5 → a ≠ b → (TX6 a).2.1 ≠ (TX6 b).2.1 := by decide +kernel
theorem tyX6_ok : ∀ k, k < 5 → parseFieldDescriptor (TX6 k).2.2.1 = some (tyX6 k) := by decide +kernel
abbrev cX6_init : ByteArray := prog_8_method_1_code
def yX6_init : MethodName := ⟨RX6, "<init>", "()V"⟩
def RX7 : String := "GlossedPage$Text"
def TX7 : u_T := fun k => match k with
  | 0 => ("GlossedPage$Text", "words", "[I", true)
  | 1 => ("GlossedPage$Text", "sizes", "[I", true)
  | 2 => ("GlossedPage$Text", "likenesses", "[I", true)
  | _ => ("GlossedPage$Text", "count", "I", false)
def tyX7 : Nat → FieldType := fun k => match k with
  | 0 => .array .int
  | 1 => .array .int
  | 2 => .array .int
  | _ => .int
abbrev wsX70 : List Cond := u_ws RX7 TX7 4
theorem nmX7 : ∀ a, a < 4 → ∀ b, b < 4 → a ≠ b → (TX7 a).2.1 ≠ (TX7 b).2.1 := by decide +kernel
theorem tyX7_ok : ∀ k, k < 4 → parseFieldDescriptor (TX7 k).2.2.1 = some (tyX7 k) := by decide +kernel
abbrev cX7_init : ByteArray := prog_9_method_1_code
def yX7_init : MethodName := ⟨RX7, "<init>", "()V"⟩
abbrev cX7_count : ByteArray := prog_9_method_2_code
def yX7_count : MethodName := ⟨RX7, "count", "()I"⟩
abbrev cX7_isFull : ByteArray := prog_9_method_3_code
def yX7_isFull : MethodName := ⟨RX7, "isFull", "()Z"⟩
abbrev cX7_has : ByteArray := prog_9_method_4_code
def yX7_has : MethodName := ⟨RX7, "has", "(I)Z"⟩
abbrev cX7_hasPlace : ByteArray := prog_9_method_5_code
def yX7_hasPlace : MethodName := ⟨RX7, "hasPlace", "(II)Z"⟩
abbrev cX7_sizeOf : ByteArray := prog_9_method_6_code
def yX7_sizeOf : MethodName := ⟨RX7, "sizeOf", "(I)I"⟩
abbrev cX7_wordAt : ByteArray := prog_9_method_7_code
def yX7_wordAt : MethodName := ⟨RX7, "wordAt", "(II)I"⟩
abbrev cX7_put : ByteArray := prog_9_method_8_code
def yX7_put : MethodName := ⟨RX7, "put", "(III)V"⟩
abbrev cX7_add : ByteArray := prog_9_method_9_code
def yX7_add : MethodName := ⟨RX7, "add", "(LGlossedPage$Pad;)V"⟩
abbrev cX7_takeOut : ByteArray := prog_9_method_10_code
def yX7_takeOut : MethodName := ⟨RX7, "takeOut", "(II)V"⟩
abbrev cX7_placeOf : ByteArray := prog_9_method_11_code
def yX7_placeOf : MethodName := ⟨RX7, "placeOf", "(III)I"⟩
abbrev cX7_nearest : ByteArray := prog_9_method_12_code
def yX7_nearest : MethodName := ⟨RX7, "nearest", "(III)I"⟩
def RX8 : String := "GlossedPage"
def TX8 : u_T := fun k => match k with
  | 0 => ("GlossedPage", "pad", "LGlossedPage$Pad;", true)
  | 1 => ("GlossedPage", "text", "LGlossedPage$Text;", true)
  | 2 => ("GlossedPage", "authors", "LGlossedPage$Authors;", true)
  | 3 => ("GlossedPage", "comments", "LGlossedPage$Comments;", true)
  | 4 => ("GlossedPage", "rulings", "LGlossedPage$Rulings;", true)
  | 5 => ("GlossedPage", "setting", "LGlossedPage$Setting;", true)
  | _ => ("GlossedPage", "editions", "LGlossedPage$Editions;", true)
def tyX8 : Nat → FieldType := fun k => match k with
  | 0 => .object "GlossedPage$Pad"
  | 1 => .object "GlossedPage$Text"
  | 2 => .object "GlossedPage$Authors"
  | 3 => .object "GlossedPage$Comments"
  | 4 => .object "GlossedPage$Rulings"
  | 5 => .object "GlossedPage$Setting"
  | _ => .object "GlossedPage$Editions"
abbrev wsX80 : List Cond := u_ws RX8 TX8 7
theorem nmX8 : ∀ a, a < 7 → ∀ b, b < 7 → a ≠ b → (TX8 a).2.1 ≠ (TX8 b).2.1 := by decide +kernel
theorem tyX8_ok : ∀ k, k < 7 → parseFieldDescriptor (TX8 k).2.2.1 = some (tyX8 k) := by decide +kernel
abbrev cX8_init : ByteArray := prog_1_method_1_code
def yX8_init : MethodName := ⟨RX8, "<init>", "()V"⟩
abbrev cX8_word : ByteArray := prog_1_method_2_code
def yX8_word : MethodName := ⟨RX8, "word", "(I)I"⟩
abbrev cX8_unit : ByteArray := prog_1_method_4_code
def yX8_unit : MethodName := ⟨RX8, "unit", "()I"⟩
abbrev cX8_emend : ByteArray := prog_1_method_5_code
def yX8_emend : MethodName := ⟨RX8, "emend", "(III)I"⟩
abbrev cX8_textOf : ByteArray := prog_1_method_6_code
def yX8_textOf : MethodName := ⟨RX8, "textOf", "(II)I"⟩
abbrev cX8_author : ByteArray := prog_1_method_7_code
def yX8_author : MethodName := ⟨RX8, "author", "(III)I"⟩
abbrev cX8_comment : ByteArray := prog_1_method_9_code
def yX8_comment : MethodName := ⟨RX8, "comment", "(IIIIIII)I"⟩
abbrev cX8_told : ByteArray := prog_1_method_11_code
def yX8_told : MethodName := ⟨RX8, "told", "(II)I"⟩
abbrev cX8_needArgument : ByteArray := prog_1_method_27_code
def yX8_needArgument : MethodName := ⟨RX8, "needArgument", "(III)V"⟩
abbrev cX8_needUnit : ByteArray := prog_1_method_28_code
def yX8_needUnit : MethodName := ⟨RX8, "needUnit", "(I)V"⟩
abbrev cX8_needAuthor : ByteArray := prog_1_method_29_code
def yX8_needAuthor : MethodName := ⟨RX8, "needAuthor", "(I)V"⟩
abbrev cX8_needComment : ByteArray := prog_1_method_30_code
def yX8_needComment : MethodName := ⟨RX8, "needComment", "(I)V"⟩
abbrev cX8_needRoomForComment : ByteArray := prog_1_method_31_code
def yX8_needRoomForComment : MethodName := ⟨RX8, "needRoomForComment", "()V"⟩
abbrev cX8_at : ByteArray := prog_1_method_34_code
def yX8_at : MethodName := ⟨RX8, "at", "([II)I"⟩
def RX9 : String := "GlossedPageModel"
def TX9 : u_T := fun k => match k with
  | _ => ("", "", "", false)
def tyX9 : Nat → FieldType := fun k => match k with
  | _ => .int
abbrev wsX90 : List Cond := u_ws RX9 TX9 0
theorem nmX9 : ∀ a, a < 0 → ∀ b, b < 0 → a ≠ b → (TX9 a).2.1 ≠ (TX9 b).2.1 := by decide +kernel
theorem tyX9_ok : ∀ k, k < 0 → parseFieldDescriptor (TX9 k).2.2.1 = some (tyX9 k) := by decide +kernel
def RJx145de : String := "java/io/Serializable"
def TJx145de : u_T := fun k => match k with
  | _ => ("", "", "", false)
def tyJx145de : Nat → FieldType := fun k => match k with
  | _ => .int
abbrev wsJx145de0 : List Cond := u_ws RJx145de TJx145de 0
theorem nmJx145de : ∀ a, a < 0 → ∀ b, b < 0 → a ≠ b → (TJx145de a).2.1 ≠ (TJx145de b).2.1 := by decide +kernel
theorem tyJx145de_ok : ∀ k, k < 0 → parseFieldDescriptor (TJx145de k).2.2.1 = some (tyJx145de k) := by decide +kernel
def RJ9 : String := "java/lang/Math"
def TJ9 : u_T := fun k => match k with
  | _ => ("", "", "", false)
def tyJ9 : Nat → FieldType := fun k => match k with
  | _ => .int
abbrev wsJ90 : List Cond := u_ws RJ9 TJ9 0
theorem nmJ9 : ∀ a, a < 0 → ∀ b, b < 0 → a ≠ b → (TJ9 a).2.1 ≠ (TJ9 b).2.1 := by decide +kernel
theorem tyJ9_ok : ∀ k, k < 0 → parseFieldDescriptor (TJ9 k).2.2.1 = some (tyJ9 k) := by decide +kernel
abbrev cJ9_abs_0f7a4 : ByteArray := prog_16_method_59_code
def yJ9_abs_0f7a4 : MethodName := ⟨RJ9, "abs", "(I)I"⟩
abbrev cJ9_min_7cf53 : ByteArray := prog_16_method_69_code
def yJ9_min_7cf53 : MethodName := ⟨RJ9, "min", "(II)I"⟩
def RJ0 : String := "java/lang/String"
def TJ0 : u_T := fun k => match k with
  | _ => ("", "", "", false)
def tyJ0 : Nat → FieldType := fun k => match k with
  | _ => .int
abbrev wsJ00 : List Cond := u_ws RJ0 TJ0 0
theorem nmJ0 : ∀ a, a < 0 → ∀ b, b < 0 → a ≠ b → (TJ0 a).2.1 ≠ (TJ0 b).2.1 := by decide +kernel
theorem tyJ0_ok : ∀ k, k < 0 → parseFieldDescriptor (TJ0 k).2.2.1 = some (tyJ0 k) := by decide +kernel
def RJ7 : String := "java/util/Arrays"
def TJ7 : u_T := fun k => match k with
  | _ => ("", "", "", false)
def tyJ7 : Nat → FieldType := fun k => match k with
  | _ => .int
abbrev wsJ70 : List Cond := u_ws RJ7 TJ7 0
theorem nmJ7 : ∀ a, a < 0 → ∀ b, b < 0 → a ≠ b → (TJ7 a).2.1 ≠ (TJ7 b).2.1 := by decide +kernel
theorem tyJ7_ok : ∀ k, k < 0 → parseFieldDescriptor (TJ7 k).2.2.1 = some (tyJ7 k) := by decide +kernel
abbrev cJ7_fill_53178 : ByteArray := prog_20_method_103_code
def yJ7_fill_53178 : MethodName := ⟨RJ7, "fill", "([II)V"⟩
def RL : String := "GlossedPageLaw"
abbrev cL_up : ByteArray := method_2_code
def yL_up : MethodName := ⟨RL, "up", "(II)I"⟩
abbrev cL_cell : ByteArray := method_3_code
def yL_cell : MethodName := ⟨RL, "cell", "([II)I"⟩
abbrev cL_comment : ByteArray := method_4_code
def yL_comment : MethodName := ⟨RL, "comment", "(LGlossedPage;II)I"⟩
abbrev cL_emend : ByteArray := method_5_code
def yL_emend : MethodName := ⟨RL, "emend", "(LGlossedPage;II)I"⟩
abbrev cL_nth : ByteArray := method_6_code
def yL_nth : MethodName := ⟨RL, "nth", "([IIII)I"⟩
abbrev cL_near : ByteArray := method_7_code
def yL_near : MethodName := ⟨RL, "near", "([IIII)I"⟩
abbrev cL_law : ByteArray := code
def yL_law : MethodName := ⟨RL, "law", "([I)Z"⟩
abbrev vwCl : List vw_C := [(RX0, TX0, 4), (RX1, TX1, 12), (RX2, TX2, 5), (RX3, TX3, 2), (RX4, TX4, 2), (RX5, TX5, 5), (RX6, TX6, 5), (RX7, TX7, 4), (RX8, TX8, 7)]
