def RX0 : String := "FieldMigrator$Form"
def TX0 : u_T := fun k => match k with
  | _ => ("", "", "", false)
def tyX0 : Nat → FieldType := fun k => match k with
  | _ => .int
theorem nmX0 : ∀ a, a < 0 → ∀ b, b < 0 → a ≠ b → (TX0 a).2.1 ≠ (TX0 b).2.1 := by decide +kernel
theorem tyX0_ok : ∀ k, k < 0 → parseFieldDescriptor (TX0 k).2.2.1 = some (tyX0 k) := by decide +kernel
def RX1 : String := "FieldMigrator$Move"
def TX1 : u_T := fun k => match k with
  | 0 => ("FieldMigrator$Move", "row", "I", true)
  | 1 => ("FieldMigrator$Move", "earlierOfMover", "I", true)
  | 2 => ("FieldMigrator$Move", "earlierOfRow", "I", true)
  | _ => ("FieldMigrator$Move", "before", "LFieldMigrator$State;", true)
def tyX1 : Nat → FieldType := fun k => match k with
  | 0 => .int
  | 1 => .int
  | 2 => .int
  | _ => .object "FieldMigrator$State"
theorem nmX1 : ∀ a, a < 4 → ∀ b, b < 4 → a ≠ b → (TX1 a).2.1 ≠ (TX1 b).2.1 := by decide +kernel
theorem tyX1_ok : ∀ k, k < 4 → parseFieldDescriptor (TX1 k).2.2.1 = some (tyX1 k) := by decide +kernel
abbrev cX1_init : ByteArray := prog_3_method_1_code
def yX1_init : MethodName := ⟨RX1, "<init>", "(III)V"⟩
def RX2 : String := "FieldMigrator$Mover"
def TX2 : u_T := fun k => match k with
  | 0 => ("FieldMigrator$Mover", "owner", "LFieldMigrator$Schema;", true)
  | 1 => ("FieldMigrator$Mover", "target", "I", true)
  | _ => ("FieldMigrator$Mover", "lastMove", "I", false)
def tyX2 : Nat → FieldType := fun k => match k with
  | 0 => .object "FieldMigrator$Schema"
  | 1 => .int
  | _ => .int
theorem nmX2 : ∀ a, a < 3 → ∀ b, b < 3 → a ≠ b → (TX2 a).2.1 ≠ (TX2 b).2.1 := by decide +kernel
theorem tyX2_ok : ∀ k, k < 3 → parseFieldDescriptor (TX2 k).2.2.1 = some (tyX2 k) := by decide +kernel
abbrev cX2_init : ByteArray := prog_4_method_1_code
def yX2_init : MethodName := ⟨RX2, "<init>", "(LFieldMigrator$Schema;I)V"⟩
def RX3 : String := "FieldMigrator$Row"
def TX3 : u_T := fun k => match k with
  | 0 => ("FieldMigrator$Row", "owner", "LFieldMigrator$Schema;", true)
  | 1 => ("FieldMigrator$Row", "state", "LFieldMigrator$State;", true)
  | _ => ("FieldMigrator$Row", "lastMove", "I", false)
def tyX3 : Nat → FieldType := fun k => match k with
  | 0 => .object "FieldMigrator$Schema"
  | 1 => .object "FieldMigrator$State"
  | _ => .int
theorem nmX3 : ∀ a, a < 3 → ∀ b, b < 3 → a ≠ b → (TX3 a).2.1 ≠ (TX3 b).2.1 := by decide +kernel
theorem tyX3_ok : ∀ k, k < 3 → parseFieldDescriptor (TX3 k).2.2.1 = some (tyX3 k) := by decide +kernel
abbrev cX3_init : ByteArray := prog_5_method_1_code
def yX3_init : MethodName := ⟨RX3, "<init>", "(LFieldMigrator$Schema;)V"⟩
def RX4 : String := "FieldMigrator$Schema"
def TX4 : u_T := fun k => match k with
  | 0 => ("FieldMigrator$Schema", "head", "I", false)
  | 1 => ("FieldMigrator$Schema", "waitingCount", "I", false)
  | 2 => ("FieldMigrator$Schema", "fieldCount", "I", false)
  | 3 => ("FieldMigrator$Schema", "kinds", "[I", true)
  | 4 => ("FieldMigrator$Schema", "defaults", "[I", true)
  | 5 => ("FieldMigrator$Schema", "named", "[[I", true)
  | 6 => ("FieldMigrator$Schema", "needed", "[J", true)
  | 7 => ("FieldMigrator$Schema", "steps", "[LFieldMigrator$Step;", true)
  | 8 => ("FieldMigrator$Schema", "waiting", "[I", true)
  | 9 => ("FieldMigrator$Schema", "left", "[I", true)
  | 10 => ("FieldMigrator$Schema", "reached", "[I", true)
  | 11 => ("FieldMigrator$Schema", "kept", "[I", true)
  | _ => ("FieldMigrator$Schema", "back", "[I", true)
def tyX4 : Nat → FieldType := fun k => match k with
  | 0 => .int
  | 1 => .int
  | 2 => .int
  | 3 => .array .int
  | 4 => .array .int
  | 5 => .array (.array .int)
  | 6 => .array .long
  | 7 => .array (.object "FieldMigrator$Step")
  | 8 => .array .int
  | 9 => .array .int
  | 10 => .array .int
  | 11 => .array .int
  | _ => .array .int
theorem nmX4 : ∀ a, a < 13 → ∀ b, b < 13 → a ≠ b → (TX4 a).2.1 ≠ (TX4 b).2.1 := by decide +kernel
theorem tyX4_ok : ∀ k, k < 13 → parseFieldDescriptor (TX4 k).2.2.1 = some (tyX4 k) := by decide +kernel
abbrev cX4_init : ByteArray := prog_6_method_1_code
def yX4_init : MethodName := ⟨RX4, "<init>", "()V"⟩
abbrev cX4_isVersion : ByteArray := prog_6_method_2_code
def yX4_isVersion : MethodName := ⟨RX4, "isVersion", "(I)Z"⟩
abbrev cX4_isFull : ByteArray := prog_6_method_3_code
def yX4_isFull : MethodName := ⟨RX4, "isFull", "()Z"⟩
abbrev cX4_isField : ByteArray := prog_6_method_4_code
def yX4_isField : MethodName := ⟨RX4, "isField", "(I)Z"⟩
abbrev cX4_fieldNamed : ByteArray := prog_6_method_5_code
def yX4_fieldNamed : MethodName := ⟨RX4, "fieldNamed", "(II)I"⟩
abbrev cX4_nameOf : ByteArray := prog_6_method_6_code
def yX4_nameOf : MethodName := ⟨RX4, "nameOf", "(II)I"⟩
abbrev cX4_kindOf : ByteArray := prog_6_method_7_code
def yX4_kindOf : MethodName := ⟨RX4, "kindOf", "(I)I"⟩
abbrev cX4_defaultOf : ByteArray := prog_6_method_8_code
def yX4_defaultOf : MethodName := ⟨RX4, "defaultOf", "(I)I"⟩
abbrev cX4_isNeeded : ByteArray := prog_6_method_9_code
def yX4_isNeeded : MethodName := ⟨RX4, "isNeeded", "(II)Z"⟩
abbrev cX4_stepTo : ByteArray := prog_6_method_10_code
def yX4_stepTo : MethodName := ⟨RX4, "stepTo", "(I)LFieldMigrator$Step;"⟩
abbrev cX4_isTakenByOther : ByteArray := prog_6_method_11_code
def yX4_isTakenByOther : MethodName := ⟨RX4, "isTakenByOther", "(III)Z"⟩
abbrev cX4_isFreeNumber : ByteArray := prog_6_method_12_code
def yX4_isFreeNumber : MethodName := ⟨RX4, "isFreeNumber", "(I)Z"⟩
abbrev cX4_makeField : ByteArray := prog_6_method_13_code
def yX4_makeField : MethodName := ⟨RX4, "makeField", "(II)I"⟩
abbrev cX4_extend : ByteArray := prog_6_method_14_code
def yX4_extend : MethodName := ⟨RX4, "extend", "(LFieldMigrator$Step;)V"⟩
abbrev cX4_place : ByteArray := prog_6_method_15_code
def yX4_place : MethodName := ⟨RX4, "place", "(IIZ)V"⟩
abbrev cX4_isWaiting : ByteArray := prog_6_method_16_code
def yX4_isWaiting : MethodName := ⟨RX4, "isWaiting", "(I)Z"⟩
abbrev cX4_allWaiting : ByteArray := prog_6_method_17_code
def yX4_allWaiting : MethodName := ⟨RX4, "allWaiting", "()J"⟩
abbrev cX4_letWait : ByteArray := prog_6_method_18_code
def yX4_letWait : MethodName := ⟨RX4, "letWait", "(I)V"⟩
abbrev cX4_takeOff : ByteArray := prog_6_method_19_code
def yX4_takeOff : MethodName := ⟨RX4, "takeOff", "(I)V"⟩
abbrev cX4_tracesOf : ByteArray := prog_6_method_21_code
def yX4_tracesOf : MethodName := ⟨RX4, "tracesOf", "(JI)J"⟩
abbrev cX4_bring : ByteArray := prog_6_method_22_code
def yX4_bring : MethodName := ⟨RX4, "bring", "(LFieldMigrator$State;I)V"⟩
abbrev cX4_carry : ByteArray := prog_6_method_23_code
def yX4_carry : MethodName := ⟨RX4, "carry", "(LFieldMigrator$State;Z)V"⟩
abbrev cX4_isSame : ByteArray := prog_6_method_24_code
def yX4_isSame : MethodName := ⟨RX4, "isSame", "([I[I)Z"⟩
abbrev cX4_tell : ByteArray := prog_6_method_25_code
def yX4_tell : MethodName := ⟨RX4, "tell", "(IZ[I[I)V"⟩
abbrev cX4_tellAlone : ByteArray := prog_6_method_26_code
def yX4_tellAlone : MethodName := ⟨RX4, "tellAlone", "(LFieldMigrator$Step;Z[I[I)V"⟩
def RX5 : String := "FieldMigrator$State"
def TX5 : u_T := fun k => match k with
  | 0 => ("FieldMigrator$State", "version", "I", false)
  | 1 => ("FieldMigrator$State", "losses", "I", false)
  | 2 => ("FieldMigrator$State", "values", "[I", true)
  | 3 => ("FieldMigrator$State", "isBoxed", "[Z", true)
  | _ => ("FieldMigrator$State", "box", "[I", true)
def tyX5 : Nat → FieldType := fun k => match k with
  | 0 => .int
  | 1 => .int
  | 2 => .array .int
  | 3 => .array .boolean
  | _ => .array .int
theorem nmX5 : ∀ a, a < 5 → ∀ b, b < 5 → a ≠ b → (TX5 a).2.1 ≠ (TX5 b).2.1 := by decide +kernel
theorem tyX5_ok : ∀ k, k < 5 → parseFieldDescriptor (TX5 k).2.2.1 = some (tyX5 k) := by decide +kernel
abbrev cX5_init : ByteArray := prog_7_method_1_code
def yX5_init : MethodName := ⟨RX5, "<init>", "()V"⟩
abbrev cX5_copyFrom : ByteArray := prog_7_method_2_code
def yX5_copyFrom : MethodName := ⟨RX5, "copyFrom", "(LFieldMigrator$State;)V"⟩
abbrev cX5_valueOf : ByteArray := prog_7_method_3_code
def yX5_valueOf : MethodName := ⟨RX5, "valueOf", "(I)I"⟩
abbrev cX5_put : ByteArray := prog_7_method_4_code
def yX5_put : MethodName := ⟨RX5, "put", "(II)V"⟩
abbrev cX5_boxEntries : ByteArray := prog_7_method_5_code
def yX5_boxEntries : MethodName := ⟨RX5, "boxEntries", "()I"⟩
abbrev cX5_takeOut : ByteArray := prog_7_method_6_code
def yX5_takeOut : MethodName := ⟨RX5, "takeOut", "(II[I)Z"⟩
abbrev cX5_putAway : ByteArray := prog_7_method_7_code
def yX5_putAway : MethodName := ⟨RX5, "putAway", "(II[I)V"⟩
def RX6 : String := "FieldMigrator$Step"
def TX6 : u_T := fun k => match k with
  | 0 => ("FieldMigrator$Step", "kind", "I", true)
  | 1 => ("FieldMigrator$Step", "front", "[I", true)
  | 2 => ("FieldMigrator$Step", "behind", "[I", true)
  | _ => ("FieldMigrator$Step", "factor", "I", true)
def tyX6 : Nat → FieldType := fun k => match k with
  | 0 => .int
  | 1 => .array .int
  | 2 => .array .int
  | _ => .int
theorem nmX6 : ∀ a, a < 4 → ∀ b, b < 4 → a ≠ b → (TX6 a).2.1 ≠ (TX6 b).2.1 := by decide +kernel
theorem tyX6_ok : ∀ k, k < 4 → parseFieldDescriptor (TX6 k).2.2.1 = some (tyX6 k) := by decide +kernel
abbrev cX6_init : ByteArray := prog_8_method_1_code
def yX6_init : MethodName := ⟨RX6, "<init>", "(IIIIII)V"⟩
abbrev cX6_isInFront : ByteArray := prog_8_method_2_code
def yX6_isInFront : MethodName := ⟨RX6, "isInFront", "(I)Z"⟩
abbrev cX6_frontFields : ByteArray := prog_8_method_3_code
def yX6_frontFields : MethodName := ⟨RX6, "frontFields", "()J"⟩
abbrev cX6_behindFields : ByteArray := prog_8_method_4_code
def yX6_behindFields : MethodName := ⟨RX6, "behindFields", "()J"⟩
abbrev cX6_together : ByteArray := prog_8_method_5_code
def yX6_together : MethodName := ⟨RX6, "together", "([I)J"⟩
def RX7 : String := "FieldMigrator"
def TX7 : u_T := fun k => match k with
  | 0 => ("FieldMigrator", "schemas", "[LFieldMigrator$Schema;", true)
  | 1 => ("FieldMigrator", "forms", "[LFieldMigrator$Form;", true)
  | 2 => ("FieldMigrator", "rows", "[LFieldMigrator$Row;", true)
  | 3 => ("FieldMigrator", "movers", "[LFieldMigrator$Mover;", true)
  | 4 => ("FieldMigrator", "moves", "[LFieldMigrator$Move;", true)
  | 5 => ("FieldMigrator", "seen", "LFieldMigrator$State;", true)
  | 6 => ("FieldMigrator", "schemaCount", "I", false)
  | 7 => ("FieldMigrator", "formCount", "I", false)
  | 8 => ("FieldMigrator", "rowCount", "I", false)
  | 9 => ("FieldMigrator", "moverCount", "I", false)
  | _ => ("FieldMigrator", "moveCount", "I", false)
def tyX7 : Nat → FieldType := fun k => match k with
  | 0 => .array (.object "FieldMigrator$Schema")
  | 1 => .array (.object "FieldMigrator$Form")
  | 2 => .array (.object "FieldMigrator$Row")
  | 3 => .array (.object "FieldMigrator$Mover")
  | 4 => .array (.object "FieldMigrator$Move")
  | 5 => .object "FieldMigrator$State"
  | 6 => .int
  | 7 => .int
  | 8 => .int
  | 9 => .int
  | _ => .int
theorem nmX7 : ∀ a, a < 11 → ∀ b, b < 11 → a ≠ b → (TX7 a).2.1 ≠ (TX7 b).2.1 := by decide +kernel
theorem tyX7_ok : ∀ k, k < 11 → parseFieldDescriptor (TX7 k).2.2.1 = some (tyX7 k) := by decide +kernel
abbrev cX7_init : ByteArray := prog_1_method_1_code
def yX7_init : MethodName := ⟨RX7, "<init>", "()V"⟩
abbrev cX7_schema : ByteArray := prog_1_method_2_code
def yX7_schema : MethodName := ⟨RX7, "schema", "()I"⟩
abbrev cX7_add : ByteArray := prog_1_method_3_code
def yX7_add : MethodName := ⟨RX7, "add", "(IIIIZ)I"⟩
abbrev cX7_rename : ByteArray := prog_1_method_4_code
def yX7_rename : MethodName := ⟨RX7, "rename", "(III)I"⟩
abbrev cX7_turn : ByteArray := prog_1_method_5_code
def yX7_turn : MethodName := ⟨RX7, "turn", "(III)I"⟩
abbrev cX7_split : ByteArray := prog_1_method_6_code
def yX7_split : MethodName := ⟨RX7, "split", "(IIIII)I"⟩
abbrev cX7_join : ByteArray := prog_1_method_7_code
def yX7_join : MethodName := ⟨RX7, "join", "(IIIII)I"⟩
abbrev cX7_toggleNeed : ByteArray := prog_1_method_8_code
def yX7_toggleNeed : MethodName := ⟨RX7, "toggleNeed", "(II)Z"⟩
abbrev cX7_drop : ByteArray := prog_1_method_9_code
def yX7_drop : MethodName := ⟨RX7, "drop", "(II)Z"⟩
abbrev cX7_head : ByteArray := prog_1_method_10_code
def yX7_head : MethodName := ⟨RX7, "head", "(I)I"⟩
abbrev cX7_field : ByteArray := prog_1_method_11_code
def yX7_field : MethodName := ⟨RX7, "field", "(III)I"⟩
abbrev cX7_text : ByteArray := prog_1_method_12_code
def yX7_text : MethodName := ⟨RX7, "text", "(III)C"⟩
abbrev cX7_row : ByteArray := prog_1_method_20_code
def yX7_row : MethodName := ⟨RX7, "row", "(II)I"⟩
abbrev cX7_set : ByteArray := prog_1_method_21_code
def yX7_set : MethodName := ⟨RX7, "set", "(III)I"⟩
abbrev cX7_value : ByteArray := prog_1_method_22_code
def yX7_value : MethodName := ⟨RX7, "value", "(III)I"⟩
abbrev cX7_replayed : ByteArray := prog_1_method_23_code
def yX7_replayed : MethodName := ⟨RX7, "replayed", "(II)I"⟩
abbrev cX7_standing : ByteArray := prog_1_method_24_code
def yX7_standing : MethodName := ⟨RX7, "standing", "(I)I"⟩
abbrev cX7_mover : ByteArray := prog_1_method_25_code
def yX7_mover : MethodName := ⟨RX7, "mover", "(II)I"⟩
abbrev cX7_step : ByteArray := prog_1_method_26_code
def yX7_step : MethodName := ⟨RX7, "step", "(I)I"⟩
abbrev cX7_undo : ByteArray := prog_1_method_27_code
def yX7_undo : MethodName := ⟨RX7, "undo", "(I)I"⟩
abbrev cX7_schemaAt : ByteArray := prog_1_method_28_code
def yX7_schemaAt : MethodName := ⟨RX7, "schemaAt", "(I)LFieldMigrator$Schema;"⟩
abbrev cX7_rowAt : ByteArray := prog_1_method_30_code
def yX7_rowAt : MethodName := ⟨RX7, "rowAt", "(I)LFieldMigrator$Row;"⟩
abbrev cX7_moverAt : ByteArray := prog_1_method_31_code
def yX7_moverAt : MethodName := ⟨RX7, "moverAt", "(I)LFieldMigrator$Mover;"⟩
abbrev cX7_moveAt : ByteArray := prog_1_method_32_code
def yX7_moveAt : MethodName := ⟨RX7, "moveAt", "(I)LFieldMigrator$Move;"⟩
abbrev cX7_fieldAt : ByteArray := prog_1_method_33_code
def yX7_fieldAt : MethodName := ⟨RX7, "fieldAt", "(LFieldMigrator$Schema;II)I"⟩
abbrev cX7_fieldOfHead : ByteArray := prog_1_method_34_code
def yX7_fieldOfHead : MethodName := ⟨RX7, "fieldOfHead", "(LFieldMigrator$Schema;I)I"⟩
abbrev cX7_heldUpOf : ByteArray := prog_1_method_36_code
def yX7_heldUpOf : MethodName := ⟨RX7, "heldUpOf", "(LFieldMigrator$Schema;)J"⟩
abbrev cX7_see : ByteArray := prog_1_method_37_code
def yX7_see : MethodName := ⟨RX7, "see", "(LFieldMigrator$Row;I)V"⟩
abbrev cX7_farthestRow : ByteArray := prog_1_method_38_code
def yX7_farthestRow : MethodName := ⟨RX7, "farthestRow", "(LFieldMigrator$Mover;)I"⟩
abbrev cX7_tellNames : ByteArray := prog_1_method_39_code
def yX7_tellNames : MethodName := ⟨RX7, "tellNames", "(Ljava/lang/StringBuilder;LFieldMigrator$Schema;I[I)V"⟩
abbrev cX7_wordOf : ByteArray := prog_1_method_40_code
def yX7_wordOf : MethodName := ⟨RX7, "wordOf", "(I)Ljava/lang/String;"⟩
abbrev cX7_isName : ByteArray := prog_1_method_41_code
def yX7_isName : MethodName := ⟨RX7, "isName", "(I)Z"⟩
abbrev cX7_isKind : ByteArray := prog_1_method_42_code
def yX7_isKind : MethodName := ⟨RX7, "isKind", "(I)Z"⟩
abbrev cX7_isFactor : ByteArray := prog_1_method_43_code
def yX7_isFactor : MethodName := ⟨RX7, "isFactor", "(I)Z"⟩
abbrev cX7_isValue : ByteArray := prog_1_method_44_code
def yX7_isValue : MethodName := ⟨RX7, "isValue", "(II)Z"⟩
abbrev cX7_greatestOf : ByteArray := prog_1_method_45_code
def yX7_greatestOf : MethodName := ⟨RX7, "greatestOf", "(I)I"⟩
abbrev cX7_bit : ByteArray := prog_1_method_46_code
def yX7_bit : MethodName := ⟨RX7, "bit", "(I)J"⟩
abbrev cX7_contains : ByteArray := prog_1_method_47_code
def yX7_contains : MethodName := ⟨RX7, "contains", "(JI)Z"⟩
abbrev cX7_turned : ByteArray := prog_1_method_48_code
def yX7_turned : MethodName := ⟨RX7, "turned", "(III)I"⟩
abbrev cX7_quotient : ByteArray := prog_1_method_49_code
def yX7_quotient : MethodName := ⟨RX7, "quotient", "(II)I"⟩
abbrev cX7_remainder : ByteArray := prog_1_method_50_code
def yX7_remainder : MethodName := ⟨RX7, "remainder", "(II)I"⟩
abbrev cX7_combined : ByteArray := prog_1_method_51_code
def yX7_combined : MethodName := ⟨RX7, "combined", "(III)I"⟩
def RX8 : String := "FieldMigratorModel"
def TX8 : u_T := fun k => match k with
  | _ => ("", "", "", false)
def tyX8 : Nat → FieldType := fun k => match k with
  | _ => .int
theorem nmX8 : ∀ a, a < 0 → ∀ b, b < 0 → a ≠ b → (TX8 a).2.1 ≠ (TX8 b).2.1 := by decide +kernel
theorem tyX8_ok : ∀ k, k < 0 → parseFieldDescriptor (TX8 k).2.2.1 = some (tyX8 k) := by decide +kernel
def RJ5 : String := "java/lang/AbstractStringBuilder"
def TJ5 : u_T := fun k => match k with
  | _ => ("", "", "", false)
def tyJ5 : Nat → FieldType := fun k => match k with
  | _ => .int
theorem nmJ5 : ∀ a, a < 0 → ∀ b, b < 0 → a ≠ b → (TJ5 a).2.1 ≠ (TJ5 b).2.1 := by decide +kernel
theorem tyJ5_ok : ∀ k, k < 0 → parseFieldDescriptor (TJ5 k).2.2.1 = some (tyJ5 k) := by decide +kernel
abbrev cJ5_init_d00df : ByteArray := prog_11_method_2_code
def yJ5_init_d00df : MethodName := ⟨RJ5, "<init>", "(I)V"⟩
abbrev cJ5_length_8abf5 : ByteArray := prog_11_method_6_code
def yJ5_length_8abf5 : MethodName := ⟨RJ5, "length", "()I"⟩
abbrev cJ5_ensureCapacityInternal_d00df : ByteArray := prog_11_method_9_code
def yJ5_ensureCapacityInternal_d00df : MethodName := ⟨RJ5, "ensureCapacityInternal", "(I)V"⟩
abbrev cJ5_newCapacity_0f7a4 : ByteArray := prog_11_method_10_code
def yJ5_newCapacity_0f7a4 : MethodName := ⟨RJ5, "newCapacity", "(I)I"⟩
abbrev cJ5_inflate_da8c8 : ByteArray := prog_11_method_11_code
def yJ5_inflate_da8c8 : MethodName := ⟨RJ5, "inflate", "()V"⟩
abbrev cJ5_charAt_5068e : ByteArray := prog_11_method_14_code
def yJ5_charAt_5068e : MethodName := ⟨RJ5, "charAt", "(I)C"⟩
abbrev cJ5_append_cf1ce : ByteArray := prog_11_method_22_code
def yJ5_append_cf1ce : MethodName := ⟨RJ5, "append", "(Ljava/lang/String;)Ljava/lang/AbstractStringBuilder;"⟩
abbrev cJ5_appendNull_278bc : ByteArray := prog_11_method_26_code
def yJ5_appendNull_278bc : MethodName := ⟨RJ5, "appendNull", "()Ljava/lang/AbstractStringBuilder;"⟩
abbrev cJ5_append_3fe6f : ByteArray := prog_11_method_31_code
def yJ5_append_3fe6f : MethodName := ⟨RJ5, "append", "(C)Ljava/lang/AbstractStringBuilder;"⟩
abbrev cJ5_isLatin1_aae02 : ByteArray := prog_11_method_68_code
def yJ5_isLatin1_aae02 : MethodName := ⟨RJ5, "isLatin1", "()Z"⟩
abbrev cJ5_inflateIfNeededFor_a7421 : ByteArray := prog_11_method_71_code
def yJ5_inflateIfNeededFor_a7421 : MethodName := ⟨RJ5, "inflateIfNeededFor", "(Ljava/lang/String;)V"⟩
abbrev cJ5_putStringAt_47b60 : ByteArray := prog_11_method_73_code
def yJ5_putStringAt_47b60 : MethodName := ⟨RJ5, "putStringAt", "(ILjava/lang/String;)V"⟩
def RJx8e188 : String := "java/lang/Cloneable"
def TJx8e188 : u_T := fun k => match k with
  | _ => ("", "", "", false)
def tyJx8e188 : Nat → FieldType := fun k => match k with
  | _ => .int
theorem nmJx8e188 : ∀ a, a < 0 → ∀ b, b < 0 → a ≠ b → (TJx8e188 a).2.1 ≠ (TJx8e188 b).2.1 := by decide +kernel
theorem tyJx8e188_ok : ∀ k, k < 0 → parseFieldDescriptor (TJx8e188 k).2.2.1 = some (tyJx8e188 k) := by decide +kernel
def RJ9 : String := "java/lang/Math"
def TJ9 : u_T := fun k => match k with
  | _ => ("", "", "", false)
def tyJ9 : Nat → FieldType := fun k => match k with
  | _ => .int
theorem nmJ9 : ∀ a, a < 0 → ∀ b, b < 0 → a ≠ b → (TJ9 a).2.1 ≠ (TJ9 b).2.1 := by decide +kernel
theorem tyJ9_ok : ∀ k, k < 0 → parseFieldDescriptor (TJ9 k).2.2.1 = some (tyJ9 k) := by decide +kernel
abbrev cJ9_abs_0f7a4 : ByteArray := prog_17_method_59_code
def yJ9_abs_0f7a4 : MethodName := ⟨RJ9, "abs", "(I)I"⟩
abbrev cJ9_max_7cf53 : ByteArray := prog_17_method_65_code
def yJ9_max_7cf53 : MethodName := ⟨RJ9, "max", "(II)I"⟩
abbrev cJ9_min_7cf53 : ByteArray := prog_17_method_69_code
def yJ9_min_7cf53 : MethodName := ⟨RJ9, "min", "(II)I"⟩
def RJ0 : String := "java/lang/String"
def TJ0 : u_T := fun k => match k with
  | _ => ("", "", "", false)
def tyJ0 : Nat → FieldType := fun k => match k with
  | _ => .int
theorem nmJ0 : ∀ a, a < 0 → ∀ b, b < 0 → a ≠ b → (TJ0 a).2.1 ≠ (TJ0 b).2.1 := by decide +kernel
theorem tyJ0_ok : ∀ k, k < 0 → parseFieldDescriptor (TJ0 k).2.2.1 = some (tyJ0 k) := by decide +kernel
abbrev cJ0_length_8abf5 : ByteArray := prog_19_method_54_code
def yJ0_length_8abf5 : MethodName := ⟨RJ0, "length", "()I"⟩
abbrev cJ0_getBytes_840e7 : ByteArray := prog_19_method_147_code
def yJ0_getBytes_840e7 : MethodName := ⟨RJ0, "getBytes", "([BIB)V"⟩
abbrev cJ0_coder_7d493 : ByteArray := prog_19_method_152_code
def yJ0_coder_7d493 : MethodName := ⟨RJ0, "coder", "()B"⟩
abbrev cJ0_checkIndex_df160 : ByteArray := prog_19_method_155_code
def yJ0_checkIndex_df160 : MethodName := ⟨RJ0, "checkIndex", "(II)V"⟩
abbrev cJ0_checkBoundsOffCount_cabcc : ByteArray := prog_19_method_157_code
def yJ0_checkBoundsOffCount_cabcc : MethodName := ⟨RJ0, "checkBoundsOffCount", "(III)I"⟩
abbrev cJ0_checkBoundsBeginEnd_23922 : ByteArray := prog_19_method_158_code
def yJ0_checkBoundsBeginEnd_23922 : MethodName := ⟨RJ0, "checkBoundsBeginEnd", "(III)V"⟩
def RJ4 : String := "java/lang/StringBuilder"
def TJ4 : u_T := fun k => match k with
  | 0 => ("java/lang/AbstractStringBuilder", "value", "[B", false)
  | 1 => ("java/lang/AbstractStringBuilder", "coder", "B", false)
  | 2 => ("java/lang/AbstractStringBuilder", "maybeLatin1", "Z", false)
  | _ => ("java/lang/AbstractStringBuilder", "count", "I", false)
def tyJ4 : Nat → FieldType := fun k => match k with
  | 0 => .array .byte
  | 1 => .byte
  | 2 => .boolean
  | _ => .int
theorem nmJ4 : ∀ a, a < 4 → ∀ b, b < 4 → a ≠ b → (TJ4 a).2.1 ≠ (TJ4 b).2.1 := by decide +kernel
theorem tyJ4_ok : ∀ k, k < 4 → parseFieldDescriptor (TJ4 k).2.2.1 = some (tyJ4 k) := by decide +kernel
abbrev cJ4_init_da8c8 : ByteArray := prog_20_method_1_code
def yJ4_init_da8c8 : MethodName := ⟨RJ4, "<init>", "()V"⟩
abbrev cJ4_append_15ec4 : ByteArray := prog_20_method_7_code
def yJ4_append_15ec4 : MethodName := ⟨RJ4, "append", "(Ljava/lang/String;)Ljava/lang/StringBuilder;"⟩
abbrev cJ4_append_cf468 : ByteArray := prog_20_method_14_code
def yJ4_append_cf468 : MethodName := ⟨RJ4, "append", "(C)Ljava/lang/StringBuilder;"⟩
abbrev cJ4_charAt_5068e : ByteArray := prog_20_method_88_code
def yJ4_charAt_5068e : MethodName := ⟨RJ4, "charAt", "(I)C"⟩
abbrev cJ4_length_8abf5 : ByteArray := prog_20_method_93_code
def yJ4_length_8abf5 : MethodName := ⟨RJ4, "length", "()I"⟩
def RJ1 : String := "java/lang/StringLatin1"
def TJ1 : u_T := fun k => match k with
  | _ => ("", "", "", false)
def tyJ1 : Nat → FieldType := fun k => match k with
  | _ => .int
theorem nmJ1 : ∀ a, a < 0 → ∀ b, b < 0 → a ≠ b → (TJ1 a).2.1 ≠ (TJ1 b).2.1 := by decide +kernel
theorem tyJ1_ok : ∀ k, k < 0 → parseFieldDescriptor (TJ1 k).2.2.1 = some (tyJ1 k) := by decide +kernel
abbrev cJ1_canEncode_fc78d : ByteArray := prog_21_method_3_code
def yJ1_canEncode_fc78d : MethodName := ⟨RJ1, "canEncode", "(C)Z"⟩
abbrev cJ1_inflate_0e8fd : ByteArray := prog_21_method_50_code
def yJ1_inflate_0e8fd : MethodName := ⟨RJ1, "inflate", "([BI[BII)V"⟩
def RJ2 : String := "java/lang/StringUTF16"
def TJ2 : u_T := fun k => match k with
  | _ => ("", "", "", false)
def tyJ2 : Nat → FieldType := fun k => match k with
  | _ => .int
theorem nmJ2 : ∀ a, a < 0 → ∀ b, b < 0 → a ≠ b → (TJ2 a).2.1 ≠ (TJ2 b).2.1 := by decide +kernel
theorem tyJ2_ok : ∀ k, k < 0 → parseFieldDescriptor (TJ2 k).2.2.1 = some (tyJ2 k) := by decide +kernel
abbrev cJ2_newBytesFor_77867 : ByteArray := prog_22_method_2_code
def yJ2_newBytesFor_77867 : MethodName := ⟨RJ2, "newBytesFor", "(I)[B"⟩
abbrev cJ2_newBytesLength_0f7a4 : ByteArray := prog_22_method_3_code
def yJ2_newBytesLength_0f7a4 : MethodName := ⟨RJ2, "newBytesLength", "(I)I"⟩
abbrev cJ2_putChar_b72d1 : ByteArray := prog_22_method_4_code
def yJ2_putChar_b72d1 : MethodName := ⟨RJ2, "putChar", "([BII)V"⟩
abbrev cJ2_getChar_3b067 : ByteArray := prog_22_method_5_code
def yJ2_getChar_3b067 : MethodName := ⟨RJ2, "getChar", "([BI)C"⟩
abbrev cJ2_length_9d52b : ByteArray := prog_22_method_6_code
def yJ2_length_9d52b : MethodName := ⟨RJ2, "length", "([B)I"⟩
abbrev cJ2_putCharSB_b72d1 : ByteArray := prog_22_method_71_code
def yJ2_putCharSB_b72d1 : MethodName := ⟨RJ2, "putCharSB", "([BII)V"⟩
abbrev cJ2_putCharsAt_cd4e5 : ByteArray := prog_22_method_81_code
def yJ2_putCharsAt_cd4e5 : MethodName := ⟨RJ2, "putCharsAt", "([BICCCC)I"⟩
abbrev cJ2_inflate_0e8fd : ByteArray := prog_22_method_86_code
def yJ2_inflate_0e8fd : MethodName := ⟨RJ2, "inflate", "([BI[BII)V"⟩
abbrev cJ2_checkIndex_2214a : ByteArray := prog_22_method_91_code
def yJ2_checkIndex_2214a : MethodName := ⟨RJ2, "checkIndex", "(I[B)V"⟩
abbrev cJ2_checkBoundsBeginEnd_d044e : ByteArray := prog_22_method_93_code
def yJ2_checkBoundsBeginEnd_d044e : MethodName := ⟨RJ2, "checkBoundsBeginEnd", "(II[B)V"⟩
abbrev cJ2_checkBoundsOffCount_d044e : ByteArray := prog_22_method_94_code
def yJ2_checkBoundsOffCount_d044e : MethodName := ⟨RJ2, "checkBoundsOffCount", "(II[B)V"⟩
def RJ10 : String := "java/lang/System"
def TJ10 : u_T := fun k => match k with
  | _ => ("", "", "", false)
def tyJ10 : Nat → FieldType := fun k => match k with
  | _ => .int
theorem nmJ10 : ∀ a, a < 0 → ∀ b, b < 0 → a ≠ b → (TJ10 a).2.1 ≠ (TJ10 b).2.1 := by decide +kernel
theorem tyJ10_ok : ∀ k, k < 0 → parseFieldDescriptor (TJ10 k).2.2.1 = some (tyJ10 k) := by decide +kernel
def RJ7 : String := "java/util/Arrays"
def TJ7 : u_T := fun k => match k with
  | _ => ("", "", "", false)
def tyJ7 : Nat → FieldType := fun k => match k with
  | _ => .int
theorem nmJ7 : ∀ a, a < 0 → ∀ b, b < 0 → a ≠ b → (TJ7 a).2.1 ≠ (TJ7 b).2.1 := by decide +kernel
theorem tyJ7_ok : ∀ k, k < 0 → parseFieldDescriptor (TJ7 k).2.2.1 = some (tyJ7 k) := by decide +kernel
abbrev cJ7_copyOf_9075b : ByteArray := prog_25_method_121_code
def yJ7_copyOf_9075b : MethodName := ⟨RJ7, "copyOf", "([BI)[B"⟩
def RJ8 : String := "jdk/internal/util/ArraysSupport"
def TJ8 : u_T := fun k => match k with
  | _ => ("", "", "", false)
def tyJ8 : Nat → FieldType := fun k => match k with
  | _ => .int
theorem nmJ8 : ∀ a, a < 0 → ∀ b, b < 0 → a ≠ b → (TJ8 a).2.1 ≠ (TJ8 b).2.1 := by decide +kernel
theorem tyJ8_ok : ∀ k, k < 0 → parseFieldDescriptor (TJ8 k).2.2.1 = some (tyJ8 k) := by decide +kernel
abbrev cJ8_newLength_cabcc : ByteArray := prog_26_method_27_code
def yJ8_newLength_cabcc : MethodName := ⟨RJ8, "newLength", "(III)I"⟩
abbrev cJ8_hugeLength_7cf53 : ByteArray := prog_26_method_28_code
def yJ8_hugeLength_7cf53 : MethodName := ⟨RJ8, "hugeLength", "(II)I"⟩
def RJ3 : String := "jdk/internal/util/Preconditions"
def TJ3 : u_T := fun k => match k with
  | _ => ("", "", "", false)
def tyJ3 : Nat → FieldType := fun k => match k with
  | _ => .int
theorem nmJ3 : ∀ a, a < 0 → ∀ b, b < 0 → a ≠ b → (TJ3 a).2.1 ≠ (TJ3 b).2.1 := by decide +kernel
theorem tyJ3_ok : ∀ k, k < 0 → parseFieldDescriptor (TJ3 k).2.2.1 = some (tyJ3 k) := by decide +kernel
abbrev cJ3_checkIndex_8e157 : ByteArray := prog_27_method_11_code
def yJ3_checkIndex_8e157 : MethodName := ⟨RJ3, "checkIndex", "(IILjava/util/function/BiFunction;)I"⟩
abbrev cJ3_checkFromToIndex_8c36e : ByteArray := prog_27_method_12_code
def yJ3_checkFromToIndex_8c36e : MethodName := ⟨RJ3, "checkFromToIndex", "(IIILjava/util/function/BiFunction;)I"⟩
abbrev cJ3_checkFromIndexSize_8c36e : ByteArray := prog_27_method_13_code
def yJ3_checkFromIndexSize_8c36e : MethodName := ⟨RJ3, "checkFromIndexSize", "(IIILjava/util/function/BiFunction;)I"⟩
def RL : String := "FieldMigratorLaw"
abbrev cL_part : ByteArray := method_2_code
def yL_part : MethodName := ⟨RL, "part", "([III)I"⟩
abbrev cL_does : ByteArray := method_3_code
def yL_does : MethodName := ⟨RL, "does", "(LFieldMigrator;IIIIII)I"⟩
abbrev cL_asks : ByteArray := method_4_code
def yL_asks : MethodName := ⟨RL, "asks", "(LFieldMigrator;IIII)I"⟩
abbrev cL_state : ByteArray := method_5_code
def yL_state : MethodName := ⟨RL, "state", "([JII)I"⟩
abbrev cL_find : ByteArray := method_6_code
def yL_find : MethodName := ⟨RL, "find", "([J[III)I"⟩
abbrev cL_isNeeded : ByteArray := method_7_code
def yL_isNeeded : MethodName := ⟨RL, "isNeeded", "([JII)Z"⟩
abbrev cL_side : ByteArray := method_8_code
def yL_side : MethodName := ⟨RL, "side", "([IIZI)I"⟩
abbrev cL_by : ByteArray := method_9_code
def yL_by : MethodName := ⟨RL, "by", "([II)I"⟩
abbrev cL_kind : ByteArray := method_10_code
def yL_kind : MethodName := ⟨RL, "kind", "([II)I"⟩
abbrev cL_turned : ByteArray := method_11_code
def yL_turned : MethodName := ⟨RL, "turned", "(III)I"⟩
abbrev cL_joined : ByteArray := method_12_code
def yL_joined : MethodName := ⟨RL, "joined", "(III)I"⟩
abbrev cL_tells : ByteArray := method_13_code
def yL_tells : MethodName := ⟨RL, "tells", "([J[I[IIZII[I)V"⟩
abbrev cL_moves : ByteArray := method_14_code
def yL_moves : MethodName := ⟨RL, "moves", "([J[I[I[I[I[JIZ[I)V"⟩
abbrev cL_copies : ByteArray := method_15_code
def yL_copies : MethodName := ⟨RL, "copies", "([I[I[JII)V"⟩
abbrev cL_isVersion : ByteArray := method_16_code
def yL_isVersion : MethodName := ⟨RL, "isVersion", "(LFieldMigrator;[J[I[I[II)Z"⟩
abbrev cL_isText : ByteArray := method_17_code
def yL_isText : MethodName := ⟨RL, "isText", "(LFieldMigrator;[J[II)Z"⟩
abbrev cL_areRows : ByteArray := method_18_code
def yL_areRows : MethodName := ⟨RL, "areRows", "(LFieldMigrator;[J[I[I[I[I[I[J[II)Z"⟩
abbrev cL_begins : ByteArray := method_19_code
def yL_begins : MethodName := ⟨RL, "begins", "([J[I[IIIII)V"⟩
abbrev cL_makes : ByteArray := method_20_code
def yL_makes : MethodName := ⟨RL, "makes", "([J[I[I[IIIIZI)V"⟩
abbrev cL_goes : ByteArray := method_21_code
def yL_goes : MethodName := ⟨RL, "goes", "([J[II)V"⟩
abbrev cL_isStep : ByteArray := method_22_code
def yL_isStep : MethodName := ⟨RL, "isStep", "(LFieldMigrator;[J[I[I[IIIII)Z"⟩
abbrev cL_isSet : ByteArray := method_23_code
def yL_isSet : MethodName := ⟨RL, "isSet", "(LFieldMigrator;[J[I[I[I[I[IIII)Z"⟩
abbrev cL_isMoved : ByteArray := method_24_code
def yL_isMoved : MethodName := ⟨RL, "isMoved", "(LFieldMigrator;[J[I[I[I[I[I[J[I[I[I[JI)Z"⟩
abbrev cL_isUndone : ByteArray := method_25_code
def yL_isUndone : MethodName := ⟨RL, "isUndone", "(LFieldMigrator;[I[I[J[I[I[I[JI)Z"⟩
abbrev cL_isDone : ByteArray := method_26_code
def yL_isDone : MethodName := ⟨RL, "isDone", "(LFieldMigrator;[II[J[I[I[I[I[I[J[I[I[I[J)Z"⟩
abbrev cL_law : ByteArray := code
def yL_law : MethodName := ⟨RL, "law", "([I)Z"⟩
/-- classes 1 and 9 (Form, the reference) are not there in this claim: another class stands in their places, which nothing uses -/
abbrev vwCl : List vw_C := [(RJ4, TJ4, 4), (RX1, TX1, 4), (RX1, TX1, 4), (RX2, TX2, 3), (RX3, TX3, 3), (RX4, TX4, 13), (RX5, TX5, 5), (RX6, TX6, 4), (RX7, TX7, 11), (RX1, TX1, 4)]
