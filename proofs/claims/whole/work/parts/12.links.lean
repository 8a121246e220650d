abbrev mX7_init : MI := (yX7_init, cX7_init, 1, none, [])
abbrev mX7_schema : MI := (yX7_schema, cX7_schema, 2, some .int, [])
abbrev mX7_add : MI := (yX7_add, cX7_add, 8, some .int, [])
abbrev mX7_rename : MI := (yX7_rename, cX7_rename, 7, some .int, [])
abbrev mX7_turn : MI := (yX7_turn, cX7_turn, 9, some .int, [])
abbrev mX7_split : MI := (yX7_split, cX7_split, 13, some .int, [])
abbrev mX7_join : MI := (yX7_join, cX7_join, 13, some .int, [])
abbrev mX7_toggleNeed : MI := (yX7_toggleNeed, cX7_toggleNeed, 6, some .boolean, [])
abbrev mX7_drop : MI := (yX7_drop, cX7_drop, 5, some .boolean, [])
abbrev mX7_head : MI := (yX7_head, cX7_head, 3, some .int, [])
abbrev mX7_field : MI := (yX7_field, cX7_field, 6, some .int, [])
abbrev mX7_text : MI := (yX7_text, cX7_text, 7, some .char, [])
abbrev mX7_form : MI := (yX7_form, cX7_form, 4, some .int, [])
abbrev mX7_take : MI := (yX7_take, cX7_take, 8, some .int, [])
abbrev mX7_letGo : MI := (yX7_letGo, cX7_letGo, 5, some .int, [])
abbrev mX7_retire : MI := (yX7_retire, cX7_retire, 3, some .int, [])
abbrev mX7_renew : MI := (yX7_renew, cX7_renew, 3, some .int, [])
abbrev mX7_read : MI := (yX7_read, cX7_read, 7, some .int, [])
abbrev mX7_write : MI := (yX7_write, cX7_write, 9, some .int, [])
abbrev mX7_row : MI := (yX7_row, cX7_row, 8, some .int, [])
abbrev mX7_set : MI := (yX7_set, cX7_set, 8, some .int, [])
abbrev mX7_value : MI := (yX7_value, cX7_value, 6, some .int, [])
abbrev mX7_replayed : MI := (yX7_replayed, cX7_replayed, 5, some .int, [])
abbrev mX7_standing : MI := (yX7_standing, cX7_standing, 3, some .int, [])
abbrev mX7_mover : MI := (yX7_mover, cX7_mover, 5, some .int, [])
abbrev mX7_step : MI := (yX7_step, cX7_step, 6, some .int, [])
abbrev mX7_undo : MI := (yX7_undo, cX7_undo, 5, some .int, [])
abbrev mX7_schemaAt : MI := (yX7_schemaAt, cX7_schemaAt, 3, some (.object "FieldMigrator$Schema"), [])
abbrev mX7_formAt : MI := (yX7_formAt, cX7_formAt, 3, some (.object "FieldMigrator$Form"), [])
abbrev mX7_rowAt : MI := (yX7_rowAt, cX7_rowAt, 3, some (.object "FieldMigrator$Row"), [])
abbrev mX7_moverAt : MI := (yX7_moverAt, cX7_moverAt, 3, some (.object "FieldMigrator$Mover"), [])
abbrev mX7_moveAt : MI := (yX7_moveAt, cX7_moveAt, 2, some (.object "FieldMigrator$Move"), [])
abbrev mX7_fieldAt : MI := (yX7_fieldAt, cX7_fieldAt, 4, some .int, [])
abbrev mX7_fieldOfHead : MI := (yX7_fieldOfHead, cX7_fieldOfHead, 2, some .int, [])
abbrev mX7_heldField : MI := (yX7_heldField, cX7_heldField, 3, some .int, [])
abbrev mX7_heldUpOf : MI := (yX7_heldUpOf, cX7_heldUpOf, 6, some .long, [])
abbrev mX7_see : MI := (yX7_see, cX7_see, 3, none, [])
abbrev mX7_farthestRow : MI := (yX7_farthestRow, cX7_farthestRow, 7, some .int, [])
abbrev mX7_tellNames : MI := (yX7_tellNames, cX7_tellNames, 5, none, [])
abbrev mX7_wordOf : MI := (yX7_wordOf, cX7_wordOf, 1, some (.object "java/lang/String"), [])
abbrev mX7_isName : MI := (yX7_isName, cX7_isName, 1, some .boolean, [])
abbrev mX7_isKind : MI := (yX7_isKind, cX7_isKind, 1, some .boolean, [])
abbrev mX7_isFactor : MI := (yX7_isFactor, cX7_isFactor, 1, some .boolean, [])
abbrev mX7_isValue : MI := (yX7_isValue, cX7_isValue, 2, some .boolean, [])
abbrev mX7_greatestOf : MI := (yX7_greatestOf, cX7_greatestOf, 1, some .int, [])
abbrev mX7_bit : MI := (yX7_bit, cX7_bit, 1, some .long, [])
abbrev mX7_contains : MI := (yX7_contains, cX7_contains, 3, some .boolean, [])
abbrev mX7_turned : MI := (yX7_turned, cX7_turned, 3, some .int, [])
abbrev mX7_quotient : MI := (yX7_quotient, cX7_quotient, 2, some .int, [])
abbrev mX7_remainder : MI := (yX7_remainder, cX7_remainder, 2, some .int, [])
abbrev mX7_combined : MI := (yX7_combined, cX7_combined, 3, some .int, [])
abbrev mX8_init : MI := (yX8_init, cX8_init, 2, none, [])
abbrev mX8_thrown : MI := (yX8_thrown, cX8_thrown, 1, some .int, [])
abbrev mX8_fails : MI := (yX8_fails, cX8_fails, 2, some .boolean, [])
abbrev mX8_lies : MI := (yX8_lies, cX8_lies, 3, some .boolean, [])
abbrev mX8_isSchema : MI := (yX8_isSchema, cX8_isSchema, 2, some .boolean, [])
abbrev mX8_isName : MI := (yX8_isName, cX8_isName, 1, some .boolean, [])
abbrev mX8_most : MI := (yX8_most, cX8_most, 1, some .int, [])
abbrev mX8_place : MI := (yX8_place, cX8_place, 3, some .int, [])
abbrev mX8_find : MI := (yX8_find, cX8_find, 6, some .int, [])
abbrev mX8_atHead : MI := (yX8_atHead, cX8_atHead, 3, some .int, [])
abbrev mX8_isLast : MI := (yX8_isLast, cX8_isLast, 2, some .boolean, [])
abbrev mX8_schema : MI := (yX8_schema, cX8_schema, 1, some .int, [])
abbrev mX8_begins : MI := (yX8_begins, cX8_begins, 5, some .int, [])
abbrev mX8_makes : MI := (yX8_makes, cX8_makes, 7, some .int, [])
abbrev mX8_ends : MI := (yX8_ends, cX8_ends, 3, none, [])
abbrev mX8_add : MI := (yX8_add, cX8_add, 9, some .int, [])
abbrev mX8_rename : MI := (yX8_rename, cX8_rename, 6, some .int, [])
abbrev mX8_isWaiting : MI := (yX8_isWaiting, cX8_isWaiting, 5, some .boolean, [])
abbrev mX8_turned : MI := (yX8_turned, cX8_turned, 3, some .int, [])
abbrev mX8_turn : MI := (yX8_turn, cX8_turn, 9, some .int, [])
abbrev mX8_isFree : MI := (yX8_isFree, cX8_isFree, 3, some .boolean, [])
abbrev mX8_isOther : MI := (yX8_isOther, cX8_isOther, 3, some .boolean, [])
abbrev mX8_split : MI := (yX8_split, cX8_split, 12, some .int, [])
abbrev mX8_joined : MI := (yX8_joined, cX8_joined, 4, some .int, [])
abbrev mX8_join : MI := (yX8_join, cX8_join, 14, some .int, [])
abbrev mX8_toggleNeed : MI := (yX8_toggleNeed, cX8_toggleNeed, 6, some .boolean, [])
abbrev mX8_traces : MI := (yX8_traces, cX8_traces, 5, none, [])
abbrev mX8_follows : MI := (yX8_follows, cX8_follows, 8, none, [])
abbrev mX8_tracesOf : MI := (yX8_tracesOf, cX8_tracesOf, 4, none, [])
abbrev mX8_isHeldUp : MI := (yX8_isHeldUp, cX8_isHeldUp, 5, some .boolean, [])
abbrev mX8_dropsOut : MI := (yX8_dropsOut, cX8_dropsOut, 4, none, [])
abbrev mX8_drop : MI := (yX8_drop, cX8_drop, 5, some .boolean, [])
abbrev mX8_looksAtDrops : MI := (yX8_looksAtDrops, cX8_looksAtDrops, 6, some .int, [])
abbrev mX8_head : MI := (yX8_head, cX8_head, 2, some .int, [])
abbrev mX8_isVersion : MI := (yX8_isVersion, cX8_isVersion, 3, some .boolean, [])
abbrev mX8_field : MI := (yX8_field, cX8_field, 6, some .int, [])
abbrev mX8_letter : MI := (yX8_letter, cX8_letter, 2, some .char, [])
abbrev mX8_length : MI := (yX8_length, cX8_length, 1, some .int, [])
abbrev mX8_sign : MI := (yX8_sign, cX8_sign, 8, some .int, [])
abbrev mX8_text : MI := (yX8_text, cX8_text, 5, some .char, [])
abbrev mX8_form : MI := (yX8_form, cX8_form, 3, some .int, [])
abbrev mX8_isForm : MI := (yX8_isForm, cX8_isForm, 2, some .boolean, [])
abbrev mX8_inForm : MI := (yX8_inForm, cX8_inForm, 3, some .int, [])
abbrev mX8_held : MI := (yX8_held, cX8_held, 4, some .int, [])
abbrev mX8_canTake : MI := (yX8_canTake, cX8_canTake, 7, some .boolean, [])
abbrev mX8_take : MI := (yX8_take, cX8_take, 5, some .int, [])
abbrev mX8_isHeld : MI := (yX8_isHeld, cX8_isHeld, 3, some .boolean, [])
abbrev mX8_letGo : MI := (yX8_letGo, cX8_letGo, 4, some .int, [])
abbrev mX8_retire : MI := (yX8_retire, cX8_retire, 4, some .int, [])
abbrev mX8_renew : MI := (yX8_renew, cX8_renew, 4, some .int, [])
abbrev mX8_front : MI := (yX8_front, cX8_front, 3, some .int, [])
abbrev mX8_behind : MI := (yX8_behind, cX8_behind, 3, some .int, [])
abbrev mX8_needed : MI := (yX8_needed, cX8_needed, 5, some .int, [])
abbrev mX8_kindOf : MI := (yX8_kindOf, cX8_kindOf, 3, some .int, [])
abbrev mX8_up : MI := (yX8_up, cX8_up, 8, none, [])
abbrev mX8_down : MI := (yX8_down, cX8_down, 8, none, [])
abbrev mX8_goes : MI := (yX8_goes, cX8_goes, 6, none, [])
abbrev mX8_onSide : MI := (yX8_onSide, cX8_onSide, 4, some .int, [])
abbrev mX8_moves : MI := (yX8_moves, cX8_moves, 9, none, [])
abbrev mX8_movesTo : MI := (yX8_movesTo, cX8_movesTo, 3, none, [])
abbrev mX8_copies : MI := (yX8_copies, cX8_copies, 4, none, [])
abbrev mX8_sees : MI := (yX8_sees, cX8_sees, 3, none, [])
abbrev mX8_counts : MI := (yX8_counts, cX8_counts, 2, none, [])
abbrev mX8_isRow : MI := (yX8_isRow, cX8_isRow, 2, some .boolean, [])
abbrev mX8_read : MI := (yX8_read, cX8_read, 6, some .int, [])
abbrev mX8_write : MI := (yX8_write, cX8_write, 10, some .int, [])
abbrev mX8_row : MI := (yX8_row, cX8_row, 6, some .int, [])
abbrev mX8_inRow : MI := (yX8_inRow, cX8_inRow, 3, some .int, [])
abbrev mX8_set : MI := (yX8_set, cX8_set, 8, some .int, [])
abbrev mX8_value : MI := (yX8_value, cX8_value, 5, some .int, [])
abbrev mX8_replayed : MI := (yX8_replayed, cX8_replayed, 4, some .int, [])
abbrev mX8_standing : MI := (yX8_standing, cX8_standing, 4, some .int, [])
abbrev mX8_mover : MI := (yX8_mover, cX8_mover, 4, some .int, [])
abbrev mX8_isMover : MI := (yX8_isMover, cX8_isMover, 2, some .boolean, [])
abbrev mX8_off : MI := (yX8_off, cX8_off, 4, some .int, [])
abbrev mX8_nextRow : MI := (yX8_nextRow, cX8_nextRow, 5, some .int, [])
abbrev mX8_step : MI := (yX8_step, cX8_step, 9, some .int, [])
abbrev mX8_undo : MI := (yX8_undo, cX8_undo, 9, some .int, [])
abbrev mX0_init : MI := (yX0_init, cX0_init, 2, none, [])
abbrev mX1_init : MI := (yX1_init, cX1_init, 4, none, [])
abbrev mX2_init : MI := (yX2_init, cX2_init, 3, none, [])
abbrev mX3_init : MI := (yX3_init, cX3_init, 2, none, [])
abbrev mX4_init : MI := (yX4_init, cX4_init, 2, none, [])
abbrev mX4_isVersion : MI := (yX4_isVersion, cX4_isVersion, 2, some .boolean, [])
abbrev mX4_isFull : MI := (yX4_isFull, cX4_isFull, 1, some .boolean, [])
abbrev mX4_isField : MI := (yX4_isField, cX4_isField, 2, some .boolean, [])
abbrev mX4_fieldNamed : MI := (yX4_fieldNamed, cX4_fieldNamed, 3, some .int, [])
abbrev mX4_nameOf : MI := (yX4_nameOf, cX4_nameOf, 4, some .int, [])
abbrev mX4_kindOf : MI := (yX4_kindOf, cX4_kindOf, 2, some .int, [])
abbrev mX4_defaultOf : MI := (yX4_defaultOf, cX4_defaultOf, 2, some .int, [])
abbrev mX4_isNeeded : MI := (yX4_isNeeded, cX4_isNeeded, 3, some .boolean, [])
abbrev mX4_stepTo : MI := (yX4_stepTo, cX4_stepTo, 2, some (.object "FieldMigrator$Step"), [])
abbrev mX4_isTakenByOther : MI := (yX4_isTakenByOther, cX4_isTakenByOther, 5, some .boolean, [])
abbrev mX4_isFreeNumber : MI := (yX4_isFreeNumber, cX4_isFreeNumber, 2, some .boolean, [])
abbrev mX4_makeField : MI := (yX4_makeField, cX4_makeField, 4, some .int, [])
abbrev mX4_extend : MI := (yX4_extend, cX4_extend, 5, none, [])
abbrev mX4_place : MI := (yX4_place, cX4_place, 4, none, [])
abbrev mX4_isWaiting : MI := (yX4_isWaiting, cX4_isWaiting, 2, some .boolean, [])
abbrev mX4_allWaiting : MI := (yX4_allWaiting, cX4_allWaiting, 4, some .long, [])
abbrev mX4_letWait : MI := (yX4_letWait, cX4_letWait, 2, none, [])
abbrev mX4_takeOff : MI := (yX4_takeOff, cX4_takeOff, 2, none, [])
abbrev mX4_takeOffWaiting : MI := (yX4_takeOffWaiting, cX4_takeOffWaiting, 6, some .int, [])
abbrev mX4_tracesOf : MI := (yX4_tracesOf, cX4_tracesOf, 8, some .long, [])
abbrev mX4_bring : MI := (yX4_bring, cX4_bring, 4, none, [])
abbrev mX4_carry : MI := (yX4_carry, cX4_carry, 8, none, [])
abbrev mX4_isSame : MI := (yX4_isSame, cX4_isSame, 2, some .boolean, [])
abbrev mX4_tell : MI := (yX4_tell, cX4_tell, 9, none, [])
abbrev mX4_tellAlone : MI := (yX4_tellAlone, cX4_tellAlone, 7, none, [])
abbrev mX5_init : MI := (yX5_init, cX5_init, 2, none, [])
abbrev mX5_copyFrom : MI := (yX5_copyFrom, cX5_copyFrom, 2, none, [])
abbrev mX5_valueOf : MI := (yX5_valueOf, cX5_valueOf, 2, some .int, [])
abbrev mX5_put : MI := (yX5_put, cX5_put, 3, none, [])
abbrev mX5_boxEntries : MI := (yX5_boxEntries, cX5_boxEntries, 3, some .int, [])
abbrev mX5_takeOut : MI := (yX5_takeOut, cX5_takeOut, 5, some .boolean, [])
abbrev mX5_putAway : MI := (yX5_putAway, cX5_putAway, 5, none, [])
abbrev mX6_init : MI := (yX6_init, cX6_init, 7, none, [])
abbrev mX6_isInFront : MI := (yX6_isInFront, cX6_isInFront, 2, some .boolean, [])
abbrev mX6_frontFields : MI := (yX6_frontFields, cX6_frontFields, 1, some .long, [])
abbrev mX6_behindFields : MI := (yX6_behindFields, cX6_behindFields, 1, some .long, [])
abbrev mX6_together : MI := (yX6_together, cX6_together, 4, some .long, [])
abbrev mL_schema : MI := (yL_schema, cL_schema, 3, some .int, [(0, 8, 11, 13)])
abbrev mL_add : MI := (yL_add, cL_add, 8, some .int, [(0, 16, 19, 19), (0, 16, 23, 21), (0, 16, 27, 13)])
abbrev mL_rename : MI := (yL_rename, cL_rename, 6, some .int, [(0, 12, 15, 19), (0, 12, 19, 21), (0, 12, 23, 13)])
abbrev mL_turn : MI := (yL_turn, cL_turn, 6, some .int, [(0, 12, 15, 19), (0, 12, 19, 21), (0, 12, 23, 13)])
abbrev mL_split : MI := (yL_split, cL_split, 8, some .int, [(0, 16, 19, 19), (0, 16, 23, 21), (0, 16, 27, 13)])
abbrev mL_join : MI := (yL_join, cL_join, 8, some .int, [(0, 16, 19, 19), (0, 16, 23, 21), (0, 16, 27, 13)])
abbrev mL_toggleNeed : MI := (yL_toggleNeed, cL_toggleNeed, 5, some .int, [(0, 17, 20, 19), (0, 17, 24, 13)])
abbrev mL_drop : MI := (yL_drop, cL_drop, 5, some .int, [(0, 17, 20, 19), (0, 17, 24, 13)])
abbrev mL_head : MI := (yL_head, cL_head, 4, some .int, [(0, 9, 12, 19)])
abbrev mL_field : MI := (yL_field, cL_field, 6, some .int, [(0, 12, 15, 19), (0, 12, 19, 21)])
abbrev mL_text : MI := (yL_text, cL_text, 6, some .int, [(0, 12, 15, 19)])
abbrev mL_form : MI := (yL_form, cL_form, 4, some .int, [(0, 9, 12, 19), (0, 9, 15, 13)])
abbrev mL_take : MI := (yL_take, cL_take, 6, some .int, [(0, 12, 15, 19), (0, 12, 19, 13)])
abbrev mL_letGo : MI := (yL_letGo, cL_letGo, 5, some .int, [(0, 10, 13, 19)])
abbrev mL_retire : MI := (yL_retire, cL_retire, 4, some .int, [(0, 9, 12, 19), (0, 9, 15, 13)])
abbrev mL_renew : MI := (yL_renew, cL_renew, 4, some .int, [(0, 9, 12, 19), (0, 9, 15, 13)])
abbrev mL_read : MI := (yL_read, cL_read, 6, some .int, [(0, 12, 15, 19), (0, 12, 19, 21)])
abbrev mL_write : MI := (yL_write, cL_write, 7, some .int, [(0, 14, 17, 19), (0, 14, 21, 21), (0, 14, 25, 13)])
abbrev mL_row : MI := (yL_row, cL_row, 5, some .int, [(0, 10, 13, 19), (0, 10, 17, 13)])
abbrev mL_set : MI := (yL_set, cL_set, 6, some .int, [(0, 12, 15, 19), (0, 12, 19, 21)])
abbrev mL_value : MI := (yL_value, cL_value, 6, some .int, [(0, 12, 15, 19)])
abbrev mL_replayed : MI := (yL_replayed, cL_replayed, 5, some .int, [(0, 10, 13, 19)])
abbrev mL_standing : MI := (yL_standing, cL_standing, 4, some .int, [(0, 9, 12, 19)])
abbrev mL_mover : MI := (yL_mover, cL_mover, 5, some .int, [(0, 10, 13, 19), (0, 10, 17, 13)])
abbrev mL_step : MI := (yL_step, cL_step, 4, some .int, [(0, 9, 12, 19), (0, 9, 15, 13)])
abbrev mL_undo : MI := (yL_undo, cL_undo, 4, some .int, [(0, 9, 12, 19), (0, 9, 15, 13)])
theorem lkL_8 : Cond.classLink RL 8 "FieldMigrator" ∈ gtbl := gt_at _ 27 (by decide +kernel) (by decide +kernel)
theorem lkL_103 : Cond.methodLink RL 103 yX7_init ∈ gtbl := gt_at _ 29 (by decide +kernel) (by decide +kernel)
theorem lkX7_3 : Cond.methodLink RX7 3 objectInit ∈ gtbl := gt_at _ 32 (by decide +kernel) (by decide +kernel)
theorem lkX7_9 : Cond.classLink RX7 9 "FieldMigrator$Schema" ∈ gtbl := gt_at _ 35 (by decide +kernel) (by decide +kernel)
theorem lkX7_15 : Cond.classLink RX7 15 "FieldMigrator$Form" ∈ gtbl := gt_at _ 37 (by decide +kernel) (by decide +kernel)
theorem lkX7_21 : Cond.classLink RX7 21 "FieldMigrator$Row" ∈ gtbl := gt_at _ 39 (by decide +kernel) (by decide +kernel)
theorem lkX7_27 : Cond.classLink RX7 27 "FieldMigrator$Mover" ∈ gtbl := gt_at _ 41 (by decide +kernel) (by decide +kernel)
theorem lkX7_33 : Cond.classLink RX7 33 "FieldMigrator$Move" ∈ gtbl := gt_at _ 43 (by decide +kernel) (by decide +kernel)
theorem lkX7_39 : Cond.classLink RX7 39 "FieldMigrator$State" ∈ gtbl := gt_at _ 45 (by decide +kernel) (by decide +kernel)
theorem lkX7_41 : Cond.methodLink RX7 41 yX5_init ∈ gtbl := gt_at _ 47 (by decide +kernel) (by decide +kernel)
theorem lkX5_3 : Cond.methodLink RX5 3 objectInit ∈ gtbl := gt_at _ 50 (by decide +kernel) (by decide +kernel)
theorem lkX5_22 : Cond.fieldLink RX5 22 "FieldMigrator$State" "version" "I" ∈ gtbl := gt_at _ 51 (by decide +kernel) (by decide +kernel)
theorem lkX7_323 : Cond.fieldLink RX7 323 "FieldMigrator$State" "version" "I" ∈ gtbl := gt_at _ 52 (by decide +kernel) (by decide +kernel)
theorem lkX4_124 : Cond.fieldLink RX4 124 "FieldMigrator$State" "version" "I" ∈ gtbl := gt_at _ 53 (by decide +kernel) (by decide +kernel)
theorem lkX5_26 : Cond.fieldLink RX5 26 "FieldMigrator$State" "losses" "I" ∈ gtbl := gt_at _ 54 (by decide +kernel) (by decide +kernel)
theorem lkX4_157 : Cond.fieldLink RX4 157 "FieldMigrator$State" "losses" "I" ∈ gtbl := gt_at _ 55 (by decide +kernel) (by decide +kernel)
theorem lkX7_350 : Cond.fieldLink RX7 350 "FieldMigrator$State" "losses" "I" ∈ gtbl := gt_at _ 56 (by decide +kernel) (by decide +kernel)
theorem lkX5_9 : Cond.fieldLink RX5 9 "FieldMigrator$State" "values" "[I" ∈ gtbl := gt_at _ 57 (by decide +kernel) (by decide +kernel)
theorem lkX5_15 : Cond.fieldLink RX5 15 "FieldMigrator$State" "isBoxed" "[Z" ∈ gtbl := gt_at _ 58 (by decide +kernel) (by decide +kernel)
theorem lkX5_19 : Cond.fieldLink RX5 19 "FieldMigrator$State" "box" "[I" ∈ gtbl := gt_at _ 59 (by decide +kernel) (by decide +kernel)
theorem lkX7_11 : Cond.fieldLink RX7 11 "FieldMigrator" "schemas" "[LFieldMigrator$Schema;" ∈ gtbl := gt_at _ 73 (by decide +kernel) (by decide +kernel)
theorem lkX7_17 : Cond.fieldLink RX7 17 "FieldMigrator" "forms" "[LFieldMigrator$Form;" ∈ gtbl := gt_at _ 74 (by decide +kernel) (by decide +kernel)
theorem lkX7_23 : Cond.fieldLink RX7 23 "FieldMigrator" "rows" "[LFieldMigrator$Row;" ∈ gtbl := gt_at _ 75 (by decide +kernel) (by decide +kernel)
theorem lkX7_29 : Cond.fieldLink RX7 29 "FieldMigrator" "movers" "[LFieldMigrator$Mover;" ∈ gtbl := gt_at _ 76 (by decide +kernel) (by decide +kernel)
theorem lkX7_35 : Cond.fieldLink RX7 35 "FieldMigrator" "moves" "[LFieldMigrator$Move;" ∈ gtbl := gt_at _ 77 (by decide +kernel) (by decide +kernel)
theorem lkX7_42 : Cond.fieldLink RX7 42 "FieldMigrator" "seen" "LFieldMigrator$State;" ∈ gtbl := gt_at _ 78 (by decide +kernel) (by decide +kernel)
theorem lkX7_46 : Cond.fieldLink RX7 46 "FieldMigrator" "schemaCount" "I" ∈ gtbl := gt_at _ 79 (by decide +kernel) (by decide +kernel)
theorem lkX7_235 : Cond.fieldLink RX7 235 "FieldMigrator" "formCount" "I" ∈ gtbl := gt_at _ 80 (by decide +kernel) (by decide +kernel)
theorem lkX7_335 : Cond.fieldLink RX7 335 "FieldMigrator" "rowCount" "I" ∈ gtbl := gt_at _ 81 (by decide +kernel) (by decide +kernel)
theorem lkX7_353 : Cond.fieldLink RX7 353 "FieldMigrator" "moverCount" "I" ∈ gtbl := gt_at _ 82 (by decide +kernel) (by decide +kernel)
theorem lkX7_369 : Cond.fieldLink RX7 369 "FieldMigrator" "moveCount" "I" ∈ gtbl := gt_at _ 83 (by decide +kernel) (by decide +kernel)
theorem lkL_107 : Cond.methodLink RL 107 yL_schema ∈ gtbl := gt_at _ 107 (by decide +kernel) (by decide +kernel)
theorem lkL_13 : Cond.classLink RL 13 "java/lang/IllegalStateException" ∈ gtbl := gt_at _ 110 (by decide +kernel) (by decide +kernel)
theorem lkL_7 : Cond.methodLink RL 7 yX7_schema ∈ gtbl := gt_at _ 111 (by decide +kernel) (by decide +kernel)
theorem lkX7_50 : Cond.classLink RX7 50 "java/lang/IllegalStateException" ∈ gtbl := gt_at _ 115 (by decide +kernel) (by decide +kernel)
theorem lkX7_54 : Cond.methodLink RX7 54 ⟨"java/lang/IllegalStateException", "<init>", "(Ljava/lang/String;)V"⟩ ∈ gtbl := gt_at _ 157 (by decide +kernel) (by decide +kernel)
theorem lkX7_57 : Cond.methodLink RX7 57 yX4_init ∈ gtbl := gt_at _ 184 (by decide +kernel) (by decide +kernel)
theorem lkX4_3 : Cond.methodLink RX4 3 objectInit ∈ gtbl := gt_at _ 187 (by decide +kernel) (by decide +kernel)
theorem lkX4_18 : Cond.classLink RX4 18 "[[I" ∈ gtbl := gt_at _ 188 (by decide +kernel) (by decide +kernel)
theorem lkX4_27 : Cond.classLink RX4 27 "FieldMigrator$Step" ∈ gtbl := gt_at _ 190 (by decide +kernel) (by decide +kernel)
theorem lkX0_13 : Cond.fieldLink RX0 13 "FieldMigrator$Schema" "head" "I" ∈ gtbl := gt_at _ 192 (by decide +kernel) (by decide +kernel)
theorem lkX4_48 : Cond.fieldLink RX4 48 "FieldMigrator$Schema" "head" "I" ∈ gtbl := gt_at _ 193 (by decide +kernel) (by decide +kernel)
theorem lkX7_75 : Cond.fieldLink RX7 75 "FieldMigrator$Schema" "head" "I" ∈ gtbl := gt_at _ 194 (by decide +kernel) (by decide +kernel)
theorem lkX7_180 : Cond.fieldLink RX7 180 "FieldMigrator$Schema" "waitingCount" "I" ∈ gtbl := gt_at _ 195 (by decide +kernel) (by decide +kernel)
theorem lkX4_100 : Cond.fieldLink RX4 100 "FieldMigrator$Schema" "waitingCount" "I" ∈ gtbl := gt_at _ 196 (by decide +kernel) (by decide +kernel)
theorem lkX4_52 : Cond.fieldLink RX4 52 "FieldMigrator$Schema" "fieldCount" "I" ∈ gtbl := gt_at _ 197 (by decide +kernel) (by decide +kernel)
theorem lkX4_9 : Cond.fieldLink RX4 9 "FieldMigrator$Schema" "kinds" "[I" ∈ gtbl := gt_at _ 198 (by decide +kernel) (by decide +kernel)
theorem lkX4_15 : Cond.fieldLink RX4 15 "FieldMigrator$Schema" "defaults" "[I" ∈ gtbl := gt_at _ 199 (by decide +kernel) (by decide +kernel)
theorem lkX4_20 : Cond.fieldLink RX4 20 "FieldMigrator$Schema" "named" "[[I" ∈ gtbl := gt_at _ 200 (by decide +kernel) (by decide +kernel)
theorem lkX4_23 : Cond.fieldLink RX4 23 "FieldMigrator$Schema" "needed" "[J" ∈ gtbl := gt_at _ 201 (by decide +kernel) (by decide +kernel)
theorem lkX4_29 : Cond.fieldLink RX4 29 "FieldMigrator$Schema" "steps" "[LFieldMigrator$Step;" ∈ gtbl := gt_at _ 202 (by decide +kernel) (by decide +kernel)
theorem lkX4_33 : Cond.fieldLink RX4 33 "FieldMigrator$Schema" "waiting" "[I" ∈ gtbl := gt_at _ 203 (by decide +kernel) (by decide +kernel)
theorem lkX4_36 : Cond.fieldLink RX4 36 "FieldMigrator$Schema" "left" "[I" ∈ gtbl := gt_at _ 204 (by decide +kernel) (by decide +kernel)
theorem lkX4_39 : Cond.fieldLink RX4 39 "FieldMigrator$Schema" "reached" "[I" ∈ gtbl := gt_at _ 205 (by decide +kernel) (by decide +kernel)
theorem lkX4_42 : Cond.fieldLink RX4 42 "FieldMigrator$Schema" "kept" "[I" ∈ gtbl := gt_at _ 206 (by decide +kernel) (by decide +kernel)
theorem lkX4_45 : Cond.fieldLink RX4 45 "FieldMigrator$Schema" "back" "[I" ∈ gtbl := gt_at _ 207 (by decide +kernel) (by decide +kernel)
theorem lkL_116 : Cond.methodLink RL 116 yL_add ∈ gtbl := gt_at _ 236 (by decide +kernel) (by decide +kernel)
theorem lkL_19 : Cond.classLink RL 19 "java/lang/IndexOutOfBoundsException" ∈ gtbl := gt_at _ 239 (by decide +kernel) (by decide +kernel)
theorem lkL_21 : Cond.classLink RL 21 "java/lang/IllegalArgumentException" ∈ gtbl := gt_at _ 240 (by decide +kernel) (by decide +kernel)
theorem lkL_15 : Cond.methodLink RL 15 yX7_add ∈ gtbl := gt_at _ 241 (by decide +kernel) (by decide +kernel)
theorem lkX7_58 : Cond.methodLink RX7 58 yX7_schemaAt ∈ gtbl := gt_at _ 245 (by decide +kernel) (by decide +kernel)
theorem lkX7_186 : Cond.classLink RX7 186 "java/lang/IndexOutOfBoundsException" ∈ gtbl := gt_at _ 249 (by decide +kernel) (by decide +kernel)
theorem lkX7_190 : Cond.methodLink RX7 190 ⟨"java/lang/IndexOutOfBoundsException", "<init>", "(Ljava/lang/String;)V"⟩ ∈ gtbl := gt_at _ 259 (by decide +kernel) (by decide +kernel)
theorem lkX7_62 : Cond.methodLink RX7 62 yX7_isName ∈ gtbl := gt_at _ 265 (by decide +kernel) (by decide +kernel)
theorem lkX7_66 : Cond.methodLink RX7 66 yX7_isValue ∈ gtbl := gt_at _ 268 (by decide +kernel) (by decide +kernel)
theorem lkX7_115 : Cond.methodLink RX7 115 yX7_isKind ∈ gtbl := gt_at _ 271 (by decide +kernel) (by decide +kernel)
theorem lkX7_440 : Cond.methodLink RX7 440 yX7_greatestOf ∈ gtbl := gt_at _ 274 (by decide +kernel) (by decide +kernel)
theorem lkX7_70 : Cond.classLink RX7 70 "java/lang/IllegalArgumentException" ∈ gtbl := gt_at _ 277 (by decide +kernel) (by decide +kernel)
theorem lkX7_74 : Cond.methodLink RX7 74 ⟨"java/lang/IllegalArgumentException", "<init>", "(Ljava/lang/String;)V"⟩ ∈ gtbl := gt_at _ 287 (by decide +kernel) (by decide +kernel)
theorem lkX7_78 : Cond.methodLink RX7 78 yX4_fieldNamed ∈ gtbl := gt_at _ 293 (by decide +kernel) (by decide +kernel)
theorem lkX4_55 : Cond.methodLink RX4 55 yX4_isVersion ∈ gtbl := gt_at _ 297 (by decide +kernel) (by decide +kernel)
theorem lkX4_59 : Cond.methodLinkNest RX4 59 yX7_isName "FieldMigrator" ∈ xtbl := xt_at _ 301 (by decide +kernel) (by decide +kernel)
theorem lkX7_82 : Cond.methodLink RX7 82 yX4_isFull ∈ gtbl := gt_at _ 302 (by decide +kernel) (by decide +kernel)
theorem lkX7_88 : Cond.methodLink RX7 88 yX4_makeField ∈ gtbl := gt_at _ 307 (by decide +kernel) (by decide +kernel)
theorem lkX7_91 : Cond.classLink RX7 91 "FieldMigrator$Step" ∈ gtbl := gt_at _ 311 (by decide +kernel) (by decide +kernel)
theorem lkX7_93 : Cond.methodLink RX7 93 yX6_init ∈ gtbl := gt_at _ 313 (by decide +kernel) (by decide +kernel)
theorem lkX6_3 : Cond.methodLink RX6 3 objectInit ∈ gtbl := gt_at _ 316 (by decide +kernel) (by decide +kernel)
theorem lkX6_9 : Cond.fieldLink RX6 9 "FieldMigrator$Step" "kind" "I" ∈ gtbl := gt_at _ 317 (by decide +kernel) (by decide +kernel)
theorem lkX7_200 : Cond.fieldLink RX7 200 "FieldMigrator$Step" "kind" "I" ∈ gtbl := gt_at _ 318 (by decide +kernel) (by decide +kernel)
theorem lkX4_133 : Cond.fieldLink RX4 133 "FieldMigrator$Step" "kind" "I" ∈ gtbl := gt_at _ 319 (by decide +kernel) (by decide +kernel)
theorem lkX6_15 : Cond.fieldLink RX6 15 "FieldMigrator$Step" "front" "[I" ∈ gtbl := gt_at _ 320 (by decide +kernel) (by decide +kernel)
theorem lkX7_211 : Cond.fieldLink RX7 211 "FieldMigrator$Step" "front" "[I" ∈ gtbl := gt_at _ 321 (by decide +kernel) (by decide +kernel)
theorem lkX4_136 : Cond.fieldLink RX4 136 "FieldMigrator$Step" "front" "[I" ∈ gtbl := gt_at _ 322 (by decide +kernel) (by decide +kernel)
theorem lkX6_19 : Cond.fieldLink RX6 19 "FieldMigrator$Step" "behind" "[I" ∈ gtbl := gt_at _ 323 (by decide +kernel) (by decide +kernel)
theorem lkX7_222 : Cond.fieldLink RX7 222 "FieldMigrator$Step" "behind" "[I" ∈ gtbl := gt_at _ 324 (by decide +kernel) (by decide +kernel)
theorem lkX4_139 : Cond.fieldLink RX4 139 "FieldMigrator$Step" "behind" "[I" ∈ gtbl := gt_at _ 325 (by decide +kernel) (by decide +kernel)
theorem lkX6_22 : Cond.fieldLink RX6 22 "FieldMigrator$Step" "factor" "I" ∈ gtbl := gt_at _ 326 (by decide +kernel) (by decide +kernel)
theorem lkX4_183 : Cond.fieldLink RX4 183 "FieldMigrator$Step" "factor" "I" ∈ gtbl := gt_at _ 327 (by decide +kernel) (by decide +kernel)
theorem lkX7_96 : Cond.methodLink RX7 96 yX4_extend ∈ gtbl := gt_at _ 337 (by decide +kernel) (by decide +kernel)
theorem lkX4_80 : Cond.methodLink RX4 80 yX4_isFull ∈ gtbl := gt_at _ 341 (by decide +kernel) (by decide +kernel)
theorem lkX4_84 : Cond.methodLink RX4 84 yX6_isInFront ∈ gtbl := gt_at _ 342 (by decide +kernel) (by decide +kernel)
theorem lkX4_87 : Cond.methodLink RX4 87 yX6_frontFields ∈ gtbl := gt_at _ 346 (by decide +kernel) (by decide +kernel)
theorem lkX6_25 : Cond.methodLink RX6 25 yX6_together ∈ gtbl := gt_at _ 350 (by decide +kernel) (by decide +kernel)
theorem lkX6_29 : Cond.methodLinkNest RX6 29 yX7_bit "FieldMigrator" ∈ xtbl := xt_at _ 353 (by decide +kernel) (by decide +kernel)
theorem lkX4_91 : Cond.constantLong RX4 91 (-1) ∈ gtbl := gt_at _ 356 (by decide +kernel) (by decide +kernel)
theorem lkX7_100 : Cond.methodLink RX7 100 yX4_place ∈ gtbl := gt_at _ 357 (by decide +kernel) (by decide +kernel)
theorem lkX4_66 : Cond.methodLink RX4 66 yX4_isField ∈ gtbl := gt_at _ 361 (by decide +kernel) (by decide +kernel)
theorem lkX4_93 : Cond.methodLinkNest RX4 93 yX7_bit "FieldMigrator" ∈ xtbl := xt_at _ 365 (by decide +kernel) (by decide +kernel)
theorem lkL_120 : Cond.methodLink RL 120 yL_rename ∈ gtbl := gt_at _ 366 (by decide +kernel) (by decide +kernel)
theorem lkL_23 : Cond.methodLink RL 23 yX7_rename ∈ gtbl := gt_at _ 369 (by decide +kernel) (by decide +kernel)
theorem lkX7_104 : Cond.methodLink RX7 104 yX7_fieldOfHead ∈ gtbl := gt_at _ 373 (by decide +kernel) (by decide +kernel)
theorem lkX7_341 : Cond.methodLink RX7 341 yX7_fieldAt ∈ gtbl := gt_at _ 376 (by decide +kernel) (by decide +kernel)
theorem lkX7_112 : Cond.methodLink RX7 112 yX4_isNeeded ∈ gtbl := gt_at _ 382 (by decide +kernel) (by decide +kernel)
theorem lkX4_69 : Cond.methodLinkNest RX4 69 yX7_contains "FieldMigrator" ∈ xtbl := xt_at _ 386 (by decide +kernel) (by decide +kernel)
theorem lkX7_256 : Cond.methodLink RX7 256 yX7_bit ∈ gtbl := gt_at _ 389 (by decide +kernel) (by decide +kernel)
theorem lkL_124 : Cond.methodLink RL 124 yL_turn ∈ gtbl := gt_at _ 390 (by decide +kernel) (by decide +kernel)
theorem lkL_27 : Cond.methodLink RL 27 yX7_turn ∈ gtbl := gt_at _ 393 (by decide +kernel) (by decide +kernel)
theorem lkX7_120 : Cond.methodLink RX7 120 yX4_kindOf ∈ gtbl := gt_at _ 398 (by decide +kernel) (by decide +kernel)
theorem lkX7_124 : Cond.methodLink RX7 124 yX4_isWaiting ∈ gtbl := gt_at _ 402 (by decide +kernel) (by decide +kernel)
theorem lkX4_97 : Cond.methodLink RX4 97 yX4_allWaiting ∈ gtbl := gt_at _ 406 (by decide +kernel) (by decide +kernel)
theorem lkX7_129 : Cond.methodLink RX7 129 yX4_defaultOf ∈ gtbl := gt_at _ 411 (by decide +kernel) (by decide +kernel)
theorem lkX7_132 : Cond.methodLink RX7 132 yX7_turned ∈ gtbl := gt_at _ 415 (by decide +kernel) (by decide +kernel)
theorem lkL_127 : Cond.methodLink RL 127 yL_split ∈ gtbl := gt_at _ 418 (by decide +kernel) (by decide +kernel)
theorem lkL_30 : Cond.methodLink RL 30 yX7_split ∈ gtbl := gt_at _ 421 (by decide +kernel) (by decide +kernel)
theorem lkX7_136 : Cond.methodLink RX7 136 yX7_isFactor ∈ gtbl := gt_at _ 425 (by decide +kernel) (by decide +kernel)
theorem lkX7_141 : Cond.methodLink RX7 141 yX4_isTakenByOther ∈ gtbl := gt_at _ 429 (by decide +kernel) (by decide +kernel)
theorem lkX4_62 : Cond.methodLink RX4 62 yX4_fieldNamed ∈ gtbl := gt_at _ 433 (by decide +kernel) (by decide +kernel)
theorem lkX7_145 : Cond.methodLink RX7 145 yX4_isFreeNumber ∈ gtbl := gt_at _ 434 (by decide +kernel) (by decide +kernel)
theorem lkX4_73 : Cond.methodLink RX4 73 yX4_kindOf ∈ gtbl := gt_at _ 438 (by decide +kernel) (by decide +kernel)
theorem lkX4_77 : Cond.methodLink RX4 77 yX4_isWaiting ∈ gtbl := gt_at _ 439 (by decide +kernel) (by decide +kernel)
theorem lkX7_150 : Cond.methodLink RX7 150 yX7_quotient ∈ gtbl := gt_at _ 441 (by decide +kernel) (by decide +kernel)
theorem lkX7_153 : Cond.methodLink RX7 153 yX7_remainder ∈ gtbl := gt_at _ 444 (by decide +kernel) (by decide +kernel)
theorem lkL_131 : Cond.methodLink RL 131 yL_join ∈ gtbl := gt_at _ 447 (by decide +kernel) (by decide +kernel)
theorem lkL_34 : Cond.methodLink RL 34 yX7_join ∈ gtbl := gt_at _ 450 (by decide +kernel) (by decide +kernel)
theorem lkX7_158 : Cond.methodLink RX7 158 yX7_combined ∈ gtbl := gt_at _ 455 (by decide +kernel) (by decide +kernel)
theorem lkX7_443 : Cond.methodLink RX7 443 Lib.Math.min.name ∈ gtbl := gt_at _ 458 (by decide +kernel) (by decide +kernel)
theorem lkL_134 : Cond.methodLink RL 134 yL_toggleNeed ∈ gtbl := gt_at _ 461 (by decide +kernel) (by decide +kernel)
theorem lkL_37 : Cond.methodLink RL 37 yX7_toggleNeed ∈ gtbl := gt_at _ 464 (by decide +kernel) (by decide +kernel)
theorem lkL_138 : Cond.methodLink RL 138 yL_drop ∈ gtbl := gt_at _ 469 (by decide +kernel) (by decide +kernel)
theorem lkL_41 : Cond.methodLink RL 41 yX7_drop ∈ gtbl := gt_at _ 472 (by decide +kernel) (by decide +kernel)
theorem lkX7_165 : Cond.methodLink RX7 165 yX7_heldUpOf ∈ gtbl := gt_at _ 477 (by decide +kernel) (by decide +kernel)
theorem lkX7_260 : Cond.methodLink RX7 260 yX4_tracesOf ∈ gtbl := gt_at _ 481 (by decide +kernel) (by decide +kernel)
theorem lkX4_117 : Cond.methodLink RX4 117 yX4_stepTo ∈ gtbl := gt_at _ 485 (by decide +kernel) (by decide +kernel)
theorem lkX4_121 : Cond.methodLink RX4 121 yX6_behindFields ∈ gtbl := gt_at _ 489 (by decide +kernel) (by decide +kernel)
theorem lkX7_169 : Cond.methodLink RX7 169 yX7_contains ∈ gtbl := gt_at _ 493 (by decide +kernel) (by decide +kernel)
theorem lkX7_173 : Cond.methodLink RX7 173 yX4_letWait ∈ gtbl := gt_at _ 494 (by decide +kernel) (by decide +kernel)
theorem lkX7_177 : Cond.methodLink RX7 177 yX4_takeOff ∈ gtbl := gt_at _ 498 (by decide +kernel) (by decide +kernel)
theorem lkX4_103 : Cond.methodLink RX4 103 yX6_init ∈ gtbl := gt_at _ 502 (by decide +kernel) (by decide +kernel)
theorem lkX4_106 : Cond.methodLink RX4 106 yX4_extend ∈ gtbl := gt_at _ 503 (by decide +kernel) (by decide +kernel)
theorem lkL_141 : Cond.methodLink RL 141 yL_head ∈ gtbl := gt_at _ 504 (by decide +kernel) (by decide +kernel)
theorem lkL_44 : Cond.methodLink RL 44 yX7_head ∈ gtbl := gt_at _ 507 (by decide +kernel) (by decide +kernel)
theorem lkL_145 : Cond.methodLink RL 145 yL_field ∈ gtbl := gt_at _ 511 (by decide +kernel) (by decide +kernel)
theorem lkL_48 : Cond.methodLink RL 48 yX7_field ∈ gtbl := gt_at _ 514 (by decide +kernel) (by decide +kernel)
theorem lkX7_183 : Cond.methodLink RX7 183 yX4_isVersion ∈ gtbl := gt_at _ 518 (by decide +kernel) (by decide +kernel)
theorem lkL_148 : Cond.methodLink RL 148 yL_text ∈ gtbl := gt_at _ 521 (by decide +kernel) (by decide +kernel)
theorem lkL_51 : Cond.methodLink RL 51 yX7_text ∈ gtbl := gt_at _ 524 (by decide +kernel) (by decide +kernel)
theorem lkX7_193 : Cond.methodLink RX7 193 yX4_stepTo ∈ gtbl := gt_at _ 528 (by decide +kernel) (by decide +kernel)
theorem lkX7_197 : Cond.classLink RX7 197 "java/lang/StringBuilder" ∈ gtbl := gt_at _ 529 (by decide +kernel) (by decide +kernel)
theorem lkX7_199 : Cond.methodLink RX7 199 yJ4_init_da8c8 ∈ gtbl := gt_at _ 531 (by decide +kernel) (by decide +kernel)
theorem lkX7_203 : Cond.methodLink RX7 203 yX7_wordOf ∈ gtbl := gt_at _ 559 (by decide +kernel) (by decide +kernel)
theorem lkX7_207 : Cond.methodLink RX7 207 yJ4_append_15ec4 ∈ gtbl := gt_at _ 569 (by decide +kernel) (by decide +kernel)
theorem lkX7_215 : Cond.methodLink RX7 215 yX7_tellNames ∈ gtbl := gt_at _ 687 (by decide +kernel) (by decide +kernel)
theorem lkX7_219 : Cond.methodLink RX7 219 yJ4_append_cf468 ∈ gtbl := gt_at _ 690 (by decide +kernel) (by decide +kernel)
theorem lkX7_423 : Cond.methodLink RX7 423 yX4_nameOf ∈ gtbl := gt_at _ 712 (by decide +kernel) (by decide +kernel)
theorem lkX7_225 : Cond.methodLink RX7 225 yJ4_length_8abf5 ∈ gtbl := gt_at _ 716 (by decide +kernel) (by decide +kernel)
theorem lkX7_231 : Cond.methodLink RX7 231 yJ4_charAt_5068e ∈ gtbl := gt_at _ 724 (by decide +kernel) (by decide +kernel)
theorem lkL_151 : Cond.methodLink RL 151 yL_form ∈ gtbl := gt_at _ 736 (by decide +kernel) (by decide +kernel)
theorem lkL_55 : Cond.methodLink RL 55 yX7_form ∈ gtbl := gt_at _ 739 (by decide +kernel) (by decide +kernel)
theorem lkX7_240 : Cond.methodLink RX7 240 yX0_init ∈ gtbl := gt_at _ 745 (by decide +kernel) (by decide +kernel)
theorem lkX0_1 : Cond.methodLink RX0 1 objectInit ∈ gtbl := gt_at _ 748 (by decide +kernel) (by decide +kernel)
theorem lkX0_7 : Cond.fieldLink RX0 7 "FieldMigrator$Form" "owner" "LFieldMigrator$Schema;" ∈ gtbl := gt_at _ 749 (by decide +kernel) (by decide +kernel)
theorem lkX7_247 : Cond.fieldLink RX7 247 "FieldMigrator$Form" "owner" "LFieldMigrator$Schema;" ∈ gtbl := gt_at _ 750 (by decide +kernel) (by decide +kernel)
theorem lkX0_19 : Cond.fieldLink RX0 19 "FieldMigrator$Form" "version" "I" ∈ gtbl := gt_at _ 751 (by decide +kernel) (by decide +kernel)
theorem lkX7_251 : Cond.fieldLink RX7 251 "FieldMigrator$Form" "version" "I" ∈ gtbl := gt_at _ 752 (by decide +kernel) (by decide +kernel)
theorem lkX0_22 : Cond.fieldLink RX0 22 "FieldMigrator$Form" "isAlive" "Z" ∈ gtbl := gt_at _ 753 (by decide +kernel) (by decide +kernel)
theorem lkX7_264 : Cond.fieldLink RX7 264 "FieldMigrator$Form" "isAlive" "Z" ∈ gtbl := gt_at _ 754 (by decide +kernel) (by decide +kernel)
theorem lkX7_274 : Cond.fieldLink RX7 274 "FieldMigrator$Form" "held" "J" ∈ gtbl := gt_at _ 755 (by decide +kernel) (by decide +kernel)
theorem lkX7_278 : Cond.fieldLink RX7 278 "FieldMigrator$Form" "writable" "J" ∈ gtbl := gt_at _ 756 (by decide +kernel) (by decide +kernel)
theorem lkL_154 : Cond.methodLink RL 154 yL_take ∈ gtbl := gt_at _ 768 (by decide +kernel) (by decide +kernel)
theorem lkL_58 : Cond.methodLink RL 58 yX7_take ∈ gtbl := gt_at _ 771 (by decide +kernel) (by decide +kernel)
theorem lkX7_243 : Cond.methodLink RX7 243 yX7_formAt ∈ gtbl := gt_at _ 775 (by decide +kernel) (by decide +kernel)
theorem lkX7_268 : Cond.methodLink RX7 268 yX4_allWaiting ∈ gtbl := gt_at _ 781 (by decide +kernel) (by decide +kernel)
theorem lkX7_281 : Cond.constantLong RX7 281 (-1) ∈ gtbl := gt_at _ 783 (by decide +kernel) (by decide +kernel)
theorem lkX7_283 : Cond.methodLink RX7 283 yJ13_bitCount_95d88 ∈ gtbl := gt_at _ 784 (by decide +kernel) (by decide +kernel)
theorem lkL_158 : Cond.methodLink RL 158 yL_letGo ∈ gtbl := gt_at _ 790 (by decide +kernel) (by decide +kernel)
theorem lkL_62 : Cond.methodLink RL 62 yX7_letGo ∈ gtbl := gt_at _ 793 (by decide +kernel) (by decide +kernel)
theorem lkX7_289 : Cond.methodLink RX7 289 yX7_heldField ∈ gtbl := gt_at _ 797 (by decide +kernel) (by decide +kernel)
theorem lkX7_293 : Cond.methodLink RX7 293 yX4_takeOffWaiting ∈ gtbl := gt_at _ 801 (by decide +kernel) (by decide +kernel)
theorem lkX4_110 : Cond.methodLink RX4 110 yX4_letWait ∈ gtbl := gt_at _ 805 (by decide +kernel) (by decide +kernel)
theorem lkX4_114 : Cond.methodLink RX4 114 yX4_takeOff ∈ gtbl := gt_at _ 806 (by decide +kernel) (by decide +kernel)
theorem lkL_161 : Cond.methodLink RL 161 yL_retire ∈ gtbl := gt_at _ 807 (by decide +kernel) (by decide +kernel)
theorem lkL_66 : Cond.methodLink RL 66 yX7_retire ∈ gtbl := gt_at _ 810 (by decide +kernel) (by decide +kernel)
theorem lkL_164 : Cond.methodLink RL 164 yL_renew ∈ gtbl := gt_at _ 815 (by decide +kernel) (by decide +kernel)
theorem lkL_69 : Cond.methodLink RL 69 yX7_renew ∈ gtbl := gt_at _ 818 (by decide +kernel) (by decide +kernel)
theorem lkL_167 : Cond.methodLink RL 167 yL_read ∈ gtbl := gt_at _ 822 (by decide +kernel) (by decide +kernel)
theorem lkL_72 : Cond.methodLink RL 72 yX7_read ∈ gtbl := gt_at _ 825 (by decide +kernel) (by decide +kernel)
theorem lkX7_298 : Cond.methodLink RX7 298 yX7_rowAt ∈ gtbl := gt_at _ 829 (by decide +kernel) (by decide +kernel)
theorem lkX7_305 : Cond.methodLink RX7 305 yX7_see ∈ gtbl := gt_at _ 835 (by decide +kernel) (by decide +kernel)
theorem lkX7_328 : Cond.methodLink RX7 328 yX5_copyFrom ∈ gtbl := gt_at _ 839 (by decide +kernel) (by decide +kernel)
theorem lkX5_29 : Cond.methodLink RX5 29 arraycopyName ∈ gtbl := gt_at _ 843 (by decide +kernel) (by decide +kernel)
theorem lkX7_324 : Cond.methodLink RX7 324 yX4_bring ∈ gtbl := gt_at _ 844 (by decide +kernel) (by decide +kernel)
theorem lkX4_129 : Cond.methodLink RX4 129 yX4_carry ∈ gtbl := gt_at _ 848 (by decide +kernel) (by decide +kernel)
theorem lkX4_142 : Cond.methodLink RX4 142 yX5_valueOf ∈ gtbl := gt_at _ 852 (by decide +kernel) (by decide +kernel)
theorem lkX4_145 : Cond.methodLink RX4 145 yX4_tell ∈ gtbl := gt_at _ 856 (by decide +kernel) (by decide +kernel)
theorem lkX4_168 : Cond.methodLink RX4 168 yX4_tellAlone ∈ gtbl := gt_at _ 860 (by decide +kernel) (by decide +kernel)
theorem lkX4_176 : Cond.methodLink RX4 176 yX4_defaultOf ∈ gtbl := gt_at _ 864 (by decide +kernel) (by decide +kernel)
theorem lkX4_179 : Cond.methodLinkNest RX4 179 yX7_turned "FieldMigrator" ∈ xtbl := xt_at _ 865 (by decide +kernel) (by decide +kernel)
theorem lkX4_186 : Cond.methodLinkNest RX4 186 yX7_quotient "FieldMigrator" ∈ xtbl := xt_at _ 866 (by decide +kernel) (by decide +kernel)
theorem lkX4_189 : Cond.methodLinkNest RX4 189 yX7_remainder "FieldMigrator" ∈ xtbl := xt_at _ 867 (by decide +kernel) (by decide +kernel)
theorem lkX4_192 : Cond.methodLinkNest RX4 192 yX7_combined "FieldMigrator" ∈ xtbl := xt_at _ 868 (by decide +kernel) (by decide +kernel)
theorem lkX4_172 : Cond.methodLink RX4 172 yX4_isNeeded ∈ gtbl := gt_at _ 869 (by decide +kernel) (by decide +kernel)
theorem lkX4_149 : Cond.methodLink RX4 149 yX5_takeOut ∈ gtbl := gt_at _ 870 (by decide +kernel) (by decide +kernel)
theorem lkX4_153 : Cond.methodLink RX4 153 yX4_isSame ∈ gtbl := gt_at _ 874 (by decide +kernel) (by decide +kernel)
theorem lkX4_160 : Cond.methodLink RX4 160 yX5_putAway ∈ gtbl := gt_at _ 877 (by decide +kernel) (by decide +kernel)
theorem lkX4_164 : Cond.methodLink RX4 164 yX5_put ∈ gtbl := gt_at _ 881 (by decide +kernel) (by decide +kernel)
theorem lkX7_309 : Cond.methodLink RX7 309 yX5_valueOf ∈ gtbl := gt_at _ 885 (by decide +kernel) (by decide +kernel)
theorem lkL_170 : Cond.methodLink RL 170 yL_write ∈ gtbl := gt_at _ 886 (by decide +kernel) (by decide +kernel)
theorem lkL_75 : Cond.methodLink RL 75 yX7_write ∈ gtbl := gt_at _ 889 (by decide +kernel) (by decide +kernel)
theorem lkX7_316 : Cond.methodLink RX7 316 yX5_put ∈ gtbl := gt_at _ 895 (by decide +kernel) (by decide +kernel)
theorem lkL_174 : Cond.methodLink RL 174 yL_row ∈ gtbl := gt_at _ 896 (by decide +kernel) (by decide +kernel)
theorem lkL_79 : Cond.methodLink RL 79 yX7_row ∈ gtbl := gt_at _ 899 (by decide +kernel) (by decide +kernel)
theorem lkX7_340 : Cond.methodLink RX7 340 yX3_init ∈ gtbl := gt_at _ 905 (by decide +kernel) (by decide +kernel)
theorem lkX3_3 : Cond.methodLink RX3 3 objectInit ∈ gtbl := gt_at _ 908 (by decide +kernel) (by decide +kernel)
theorem lkX3_15 : Cond.classLink RX3 15 "FieldMigrator$State" ∈ gtbl := gt_at _ 909 (by decide +kernel) (by decide +kernel)
theorem lkX3_17 : Cond.methodLink RX3 17 yX5_init ∈ gtbl := gt_at _ 910 (by decide +kernel) (by decide +kernel)
theorem lkX3_9 : Cond.fieldLink RX3 9 "FieldMigrator$Row" "owner" "LFieldMigrator$Schema;" ∈ gtbl := gt_at _ 911 (by decide +kernel) (by decide +kernel)
theorem lkX7_302 : Cond.fieldLink RX7 302 "FieldMigrator$Row" "owner" "LFieldMigrator$Schema;" ∈ gtbl := gt_at _ 912 (by decide +kernel) (by decide +kernel)
theorem lkX3_18 : Cond.fieldLink RX3 18 "FieldMigrator$Row" "state" "LFieldMigrator$State;" ∈ gtbl := gt_at _ 913 (by decide +kernel) (by decide +kernel)
theorem lkX7_320 : Cond.fieldLink RX7 320 "FieldMigrator$Row" "state" "LFieldMigrator$State;" ∈ gtbl := gt_at _ 914 (by decide +kernel) (by decide +kernel)
theorem lkX3_22 : Cond.fieldLink RX3 22 "FieldMigrator$Row" "lastMove" "I" ∈ gtbl := gt_at _ 915 (by decide +kernel) (by decide +kernel)
theorem lkX7_332 : Cond.fieldLink RX7 332 "FieldMigrator$Row" "lastMove" "I" ∈ gtbl := gt_at _ 916 (by decide +kernel) (by decide +kernel)
theorem lkL_177 : Cond.methodLink RL 177 yL_set ∈ gtbl := gt_at _ 924 (by decide +kernel) (by decide +kernel)
theorem lkL_82 : Cond.methodLink RL 82 yX7_set ∈ gtbl := gt_at _ 927 (by decide +kernel) (by decide +kernel)
theorem lkL_180 : Cond.methodLink RL 180 yL_value ∈ gtbl := gt_at _ 932 (by decide +kernel) (by decide +kernel)
theorem lkL_85 : Cond.methodLink RL 85 yX7_value ∈ gtbl := gt_at _ 935 (by decide +kernel) (by decide +kernel)
theorem lkL_183 : Cond.methodLink RL 183 yL_replayed ∈ gtbl := gt_at _ 939 (by decide +kernel) (by decide +kernel)
theorem lkL_88 : Cond.methodLink RL 88 yX7_replayed ∈ gtbl := gt_at _ 942 (by decide +kernel) (by decide +kernel)
theorem lkL_186 : Cond.methodLink RL 186 yL_standing ∈ gtbl := gt_at _ 946 (by decide +kernel) (by decide +kernel)
theorem lkL_91 : Cond.methodLink RL 91 yX7_standing ∈ gtbl := gt_at _ 949 (by decide +kernel) (by decide +kernel)
theorem lkX7_347 : Cond.methodLink RX7 347 yX5_boxEntries ∈ gtbl := gt_at _ 953 (by decide +kernel) (by decide +kernel)
theorem lkL_189 : Cond.methodLink RL 189 yL_mover ∈ gtbl := gt_at _ 957 (by decide +kernel) (by decide +kernel)
theorem lkL_94 : Cond.methodLink RL 94 yX7_mover ∈ gtbl := gt_at _ 960 (by decide +kernel) (by decide +kernel)
theorem lkX7_358 : Cond.methodLink RX7 358 yX2_init ∈ gtbl := gt_at _ 966 (by decide +kernel) (by decide +kernel)
theorem lkX2_3 : Cond.methodLink RX2 3 objectInit ∈ gtbl := gt_at _ 969 (by decide +kernel) (by decide +kernel)
theorem lkX2_9 : Cond.fieldLink RX2 9 "FieldMigrator$Mover" "owner" "LFieldMigrator$Schema;" ∈ gtbl := gt_at _ 970 (by decide +kernel) (by decide +kernel)
theorem lkX7_417 : Cond.fieldLink RX7 417 "FieldMigrator$Mover" "owner" "LFieldMigrator$Schema;" ∈ gtbl := gt_at _ 971 (by decide +kernel) (by decide +kernel)
theorem lkX2_15 : Cond.fieldLink RX2 15 "FieldMigrator$Mover" "target" "I" ∈ gtbl := gt_at _ 972 (by decide +kernel) (by decide +kernel)
theorem lkX7_381 : Cond.fieldLink RX7 381 "FieldMigrator$Mover" "target" "I" ∈ gtbl := gt_at _ 973 (by decide +kernel) (by decide +kernel)
theorem lkX2_19 : Cond.fieldLink RX2 19 "FieldMigrator$Mover" "lastMove" "I" ∈ gtbl := gt_at _ 974 (by decide +kernel) (by decide +kernel)
theorem lkX7_374 : Cond.fieldLink RX7 374 "FieldMigrator$Mover" "lastMove" "I" ∈ gtbl := gt_at _ 975 (by decide +kernel) (by decide +kernel)
theorem lkL_192 : Cond.methodLink RL 192 yL_step ∈ gtbl := gt_at _ 983 (by decide +kernel) (by decide +kernel)
theorem lkL_97 : Cond.methodLink RL 97 yX7_step ∈ gtbl := gt_at _ 986 (by decide +kernel) (by decide +kernel)
theorem lkX7_361 : Cond.methodLink RX7 361 yX7_moverAt ∈ gtbl := gt_at _ 990 (by decide +kernel) (by decide +kernel)
theorem lkX7_365 : Cond.methodLink RX7 365 yX7_farthestRow ∈ gtbl := gt_at _ 995 (by decide +kernel) (by decide +kernel)
theorem lkX7_418 : Cond.methodLink RX7 418 Lib.Math.abs.name ∈ gtbl := gt_at _ 999 (by decide +kernel) (by decide +kernel)
theorem lkX7_375 : Cond.methodLink RX7 375 yX1_init ∈ gtbl := gt_at _ 1004 (by decide +kernel) (by decide +kernel)
theorem lkX1_1 : Cond.methodLink RX1 1 objectInit ∈ gtbl := gt_at _ 1007 (by decide +kernel) (by decide +kernel)
theorem lkX1_19 : Cond.classLink RX1 19 "FieldMigrator$State" ∈ gtbl := gt_at _ 1008 (by decide +kernel) (by decide +kernel)
theorem lkX1_21 : Cond.methodLink RX1 21 yX5_init ∈ gtbl := gt_at _ 1009 (by decide +kernel) (by decide +kernel)
theorem lkX1_7 : Cond.fieldLink RX1 7 "FieldMigrator$Move" "row" "I" ∈ gtbl := gt_at _ 1010 (by decide +kernel) (by decide +kernel)
theorem lkX7_394 : Cond.fieldLink RX7 394 "FieldMigrator$Move" "row" "I" ∈ gtbl := gt_at _ 1011 (by decide +kernel) (by decide +kernel)
theorem lkX1_13 : Cond.fieldLink RX1 13 "FieldMigrator$Move" "earlierOfMover" "I" ∈ gtbl := gt_at _ 1012 (by decide +kernel) (by decide +kernel)
theorem lkX7_402 : Cond.fieldLink RX7 402 "FieldMigrator$Move" "earlierOfMover" "I" ∈ gtbl := gt_at _ 1013 (by decide +kernel) (by decide +kernel)
theorem lkX1_16 : Cond.fieldLink RX1 16 "FieldMigrator$Move" "earlierOfRow" "I" ∈ gtbl := gt_at _ 1014 (by decide +kernel) (by decide +kernel)
theorem lkX7_399 : Cond.fieldLink RX7 399 "FieldMigrator$Move" "earlierOfRow" "I" ∈ gtbl := gt_at _ 1015 (by decide +kernel) (by decide +kernel)
theorem lkX1_22 : Cond.fieldLink RX1 22 "FieldMigrator$Move" "before" "LFieldMigrator$State;" ∈ gtbl := gt_at _ 1016 (by decide +kernel) (by decide +kernel)
theorem lkX7_378 : Cond.fieldLink RX7 378 "FieldMigrator$Move" "before" "LFieldMigrator$State;" ∈ gtbl := gt_at _ 1017 (by decide +kernel) (by decide +kernel)
theorem lkX7_384 : Cond.methodLink RX7 384 yX4_carry ∈ gtbl := gt_at _ 1027 (by decide +kernel) (by decide +kernel)
theorem lkL_195 : Cond.methodLink RL 195 yL_undo ∈ gtbl := gt_at _ 1028 (by decide +kernel) (by decide +kernel)
theorem lkL_100 : Cond.methodLink RL 100 yX7_undo ∈ gtbl := gt_at _ 1031 (by decide +kernel) (by decide +kernel)
theorem lkX7_388 : Cond.methodLink RX7 388 yX7_moveAt ∈ gtbl := gt_at _ 1035 (by decide +kernel) (by decide +kernel)
theorem lkL_104 : Cond.classLink RL 104 "FieldMigratorModel" ∈ gtbl := gt_at _ 1041 (by decide +kernel) (by decide +kernel)
theorem lkL_106 : Cond.methodLink RL 106 yX8_init ∈ gtbl := gt_at _ 1043 (by decide +kernel) (by decide +kernel)
theorem lkX8_1 : Cond.methodLink RX8 1 objectInit ∈ gtbl := gt_at _ 1046 (by decide +kernel) (by decide +kernel)
theorem lkX8_141 : Cond.fieldLink RX8 141 "FieldMigratorModel" "schemas" "I" ∈ gtbl := gt_at _ 1047 (by decide +kernel) (by decide +kernel)
theorem lkX8_7 : Cond.fieldLink RX8 7 "FieldMigratorModel" "head" "[I" ∈ gtbl := gt_at _ 1048 (by decide +kernel) (by decide +kernel)
theorem lkX8_13 : Cond.fieldLink RX8 13 "FieldMigratorModel" "fields" "[I" ∈ gtbl := gt_at _ 1049 (by decide +kernel) (by decide +kernel)
theorem lkX8_16 : Cond.fieldLink RX8 16 "FieldMigratorModel" "kind" "[I" ∈ gtbl := gt_at _ 1050 (by decide +kernel) (by decide +kernel)
theorem lkX8_19 : Cond.fieldLink RX8 19 "FieldMigratorModel" "value" "[I" ∈ gtbl := gt_at _ 1051 (by decide +kernel) (by decide +kernel)
theorem lkX8_22 : Cond.fieldLink RX8 22 "FieldMigratorModel" "name" "[I" ∈ gtbl := gt_at _ 1052 (by decide +kernel) (by decide +kernel)
theorem lkX8_25 : Cond.fieldLink RX8 25 "FieldMigratorModel" "isNeeded" "[Z" ∈ gtbl := gt_at _ 1053 (by decide +kernel) (by decide +kernel)
theorem lkX8_29 : Cond.fieldLink RX8 29 "FieldMigratorModel" "what" "[I" ∈ gtbl := gt_at _ 1054 (by decide +kernel) (by decide +kernel)
theorem lkX8_32 : Cond.fieldLink RX8 32 "FieldMigratorModel" "front" "[I" ∈ gtbl := gt_at _ 1055 (by decide +kernel) (by decide +kernel)
theorem lkX8_35 : Cond.fieldLink RX8 35 "FieldMigratorModel" "behind" "[I" ∈ gtbl := gt_at _ 1056 (by decide +kernel) (by decide +kernel)
theorem lkX8_38 : Cond.fieldLink RX8 38 "FieldMigratorModel" "by" "[I" ∈ gtbl := gt_at _ 1057 (by decide +kernel) (by decide +kernel)
theorem lkX8_41 : Cond.fieldLink RX8 41 "FieldMigratorModel" "waiting" "[I" ∈ gtbl := gt_at _ 1058 (by decide +kernel) (by decide +kernel)
theorem lkX8_44 : Cond.fieldLink RX8 44 "FieldMigratorModel" "waits" "[I" ∈ gtbl := gt_at _ 1059 (by decide +kernel) (by decide +kernel)
theorem lkX8_206 : Cond.fieldLink RX8 206 "FieldMigratorModel" "forms" "I" ∈ gtbl := gt_at _ 1060 (by decide +kernel) (by decide +kernel)
theorem lkX8_47 : Cond.fieldLink RX8 47 "FieldMigratorModel" "formOf" "[I" ∈ gtbl := gt_at _ 1061 (by decide +kernel) (by decide +kernel)
theorem lkX8_50 : Cond.fieldLink RX8 50 "FieldMigratorModel" "formAt" "[I" ∈ gtbl := gt_at _ 1062 (by decide +kernel) (by decide +kernel)
theorem lkX8_53 : Cond.fieldLink RX8 53 "FieldMigratorModel" "isRetired" "[Z" ∈ gtbl := gt_at _ 1063 (by decide +kernel) (by decide +kernel)
theorem lkX8_56 : Cond.fieldLink RX8 56 "FieldMigratorModel" "holds" "[Z" ∈ gtbl := gt_at _ 1064 (by decide +kernel) (by decide +kernel)
theorem lkX8_59 : Cond.fieldLink RX8 59 "FieldMigratorModel" "writes" "[Z" ∈ gtbl := gt_at _ 1065 (by decide +kernel) (by decide +kernel)
theorem lkX8_293 : Cond.fieldLink RX8 293 "FieldMigratorModel" "rows" "I" ∈ gtbl := gt_at _ 1066 (by decide +kernel) (by decide +kernel)
theorem lkX8_62 : Cond.fieldLink RX8 62 "FieldMigratorModel" "rowOf" "[I" ∈ gtbl := gt_at _ 1067 (by decide +kernel) (by decide +kernel)
theorem lkX8_65 : Cond.fieldLink RX8 65 "FieldMigratorModel" "version" "[I" ∈ gtbl := gt_at _ 1068 (by decide +kernel) (by decide +kernel)
theorem lkX8_68 : Cond.fieldLink RX8 68 "FieldMigratorModel" "values" "[I" ∈ gtbl := gt_at _ 1069 (by decide +kernel) (by decide +kernel)
theorem lkX8_71 : Cond.fieldLink RX8 71 "FieldMigratorModel" "losses" "[I" ∈ gtbl := gt_at _ 1070 (by decide +kernel) (by decide +kernel)
theorem lkX8_74 : Cond.fieldLink RX8 74 "FieldMigratorModel" "side" "[I" ∈ gtbl := gt_at _ 1071 (by decide +kernel) (by decide +kernel)
theorem lkX8_77 : Cond.fieldLink RX8 77 "FieldMigratorModel" "boxed" "[I" ∈ gtbl := gt_at _ 1072 (by decide +kernel) (by decide +kernel)
theorem lkX8_80 : Cond.fieldLink RX8 80 "FieldMigratorModel" "act" "[I" ∈ gtbl := gt_at _ 1073 (by decide +kernel) (by decide +kernel)
theorem lkX8_290 : Cond.fieldLink RX8 290 "FieldMigratorModel" "acts" "I" ∈ gtbl := gt_at _ 1074 (by decide +kernel) (by decide +kernel)
theorem lkX8_309 : Cond.fieldLink RX8 309 "FieldMigratorModel" "movers" "I" ∈ gtbl := gt_at _ 1075 (by decide +kernel) (by decide +kernel)
theorem lkX8_83 : Cond.fieldLink RX8 83 "FieldMigratorModel" "moverOf" "[I" ∈ gtbl := gt_at _ 1076 (by decide +kernel) (by decide +kernel)
theorem lkX8_86 : Cond.fieldLink RX8 86 "FieldMigratorModel" "target" "[I" ∈ gtbl := gt_at _ 1077 (by decide +kernel) (by decide +kernel)
theorem lkX8_89 : Cond.fieldLink RX8 89 "FieldMigratorModel" "lastStep" "[I" ∈ gtbl := gt_at _ 1078 (by decide +kernel) (by decide +kernel)
theorem lkX8_321 : Cond.fieldLink RX8 321 "FieldMigratorModel" "steps" "I" ∈ gtbl := gt_at _ 1079 (by decide +kernel) (by decide +kernel)
theorem lkX8_92 : Cond.fieldLink RX8 92 "FieldMigratorModel" "stepAhead" "[I" ∈ gtbl := gt_at _ 1080 (by decide +kernel) (by decide +kernel)
theorem lkX8_95 : Cond.fieldLink RX8 95 "FieldMigratorModel" "stepRow" "[I" ∈ gtbl := gt_at _ 1081 (by decide +kernel) (by decide +kernel)
theorem lkX8_98 : Cond.fieldLink RX8 98 "FieldMigratorModel" "stepAct" "[I" ∈ gtbl := gt_at _ 1082 (by decide +kernel) (by decide +kernel)
theorem lkX8_101 : Cond.fieldLink RX8 101 "FieldMigratorModel" "actAhead" "[I" ∈ gtbl := gt_at _ 1083 (by decide +kernel) (by decide +kernel)
theorem lkX8_104 : Cond.fieldLink RX8 104 "FieldMigratorModel" "versionThen" "[I" ∈ gtbl := gt_at _ 1084 (by decide +kernel) (by decide +kernel)
theorem lkX8_107 : Cond.fieldLink RX8 107 "FieldMigratorModel" "lossesThen" "[I" ∈ gtbl := gt_at _ 1085 (by decide +kernel) (by decide +kernel)
theorem lkX8_110 : Cond.fieldLink RX8 110 "FieldMigratorModel" "sideThen" "[I" ∈ gtbl := gt_at _ 1086 (by decide +kernel) (by decide +kernel)
theorem lkX8_113 : Cond.fieldLink RX8 113 "FieldMigratorModel" "boxedThen" "[I" ∈ gtbl := gt_at _ 1087 (by decide +kernel) (by decide +kernel)
theorem lkX8_116 : Cond.fieldLink RX8 116 "FieldMigratorModel" "frontThen" "[I" ∈ gtbl := gt_at _ 1088 (by decide +kernel) (by decide +kernel)
theorem lkX8_119 : Cond.fieldLink RX8 119 "FieldMigratorModel" "behindThen" "[I" ∈ gtbl := gt_at _ 1089 (by decide +kernel) (by decide +kernel)
theorem lkX8_122 : Cond.fieldLink RX8 122 "FieldMigratorModel" "told" "[I" ∈ gtbl := gt_at _ 1090 (by decide +kernel) (by decide +kernel)
theorem lkX8_125 : Cond.fieldLink RX8 125 "FieldMigratorModel" "left" "[I" ∈ gtbl := gt_at _ 1091 (by decide +kernel) (by decide +kernel)
theorem lkX8_128 : Cond.fieldLink RX8 128 "FieldMigratorModel" "reached" "[I" ∈ gtbl := gt_at _ 1092 (by decide +kernel) (by decide +kernel)
theorem lkX8_131 : Cond.fieldLink RX8 131 "FieldMigratorModel" "isTrace" "[Z" ∈ gtbl := gt_at _ 1093 (by decide +kernel) (by decide +kernel)
theorem lkX8_134 : Cond.fieldLink RX8 134 "FieldMigratorModel" "isWritten" "[Z" ∈ gtbl := gt_at _ 1094 (by decide +kernel) (by decide +kernel)
theorem lkX8_137 : Cond.fieldLink RX8 137 "FieldMigratorModel" "thrown" "I" ∈ gtbl := gt_at _ 1095 (by decide +kernel) (by decide +kernel)
theorem lkL_113 : Cond.methodLink RL 113 yX8_thrown ∈ gtbl := gt_at _ 1195 (by decide +kernel) (by decide +kernel)
theorem lkL_112 : Cond.methodLink RL 112 yX8_schema ∈ gtbl := gt_at _ 1199 (by decide +kernel) (by decide +kernel)
theorem lkX8_162 : Cond.methodLink RX8 162 yX8_fails ∈ gtbl := gt_at _ 1203 (by decide +kernel) (by decide +kernel)
theorem lkL_119 : Cond.methodLink RL 119 yX8_add ∈ gtbl := gt_at _ 1207 (by decide +kernel) (by decide +kernel)
theorem lkX8_156 : Cond.methodLink RX8 156 yX8_isSchema ∈ gtbl := gt_at _ 1211 (by decide +kernel) (by decide +kernel)
theorem lkX8_144 : Cond.methodLink RX8 144 yX8_lies ∈ gtbl := gt_at _ 1215 (by decide +kernel) (by decide +kernel)
theorem lkX8_148 : Cond.methodLink RX8 148 yX8_isName ∈ gtbl := gt_at _ 1218 (by decide +kernel) (by decide +kernel)
theorem lkX8_165 : Cond.methodLink RX8 165 yX8_most ∈ gtbl := gt_at _ 1221 (by decide +kernel) (by decide +kernel)
theorem lkX8_169 : Cond.methodLink RX8 169 yX8_atHead ∈ gtbl := gt_at _ 1224 (by decide +kernel) (by decide +kernel)
theorem lkX8_159 : Cond.methodLink RX8 159 yX8_find ∈ gtbl := gt_at _ 1228 (by decide +kernel) (by decide +kernel)
theorem lkX8_152 : Cond.methodLink RX8 152 yX8_place ∈ gtbl := gt_at _ 1232 (by decide +kernel) (by decide +kernel)
theorem lkX8_173 : Cond.methodLink RX8 173 yX8_isLast ∈ gtbl := gt_at _ 1235 (by decide +kernel) (by decide +kernel)
theorem lkX8_176 : Cond.methodLink RX8 176 yX8_begins ∈ gtbl := gt_at _ 1239 (by decide +kernel) (by decide +kernel)
theorem lkX8_179 : Cond.methodLink RX8 179 yX8_makes ∈ gtbl := gt_at _ 1243 (by decide +kernel) (by decide +kernel)
theorem lkL_123 : Cond.methodLink RL 123 yX8_rename ∈ gtbl := gt_at _ 1247 (by decide +kernel) (by decide +kernel)
theorem lkL_126 : Cond.methodLink RL 126 yX8_turn ∈ gtbl := gt_at _ 1251 (by decide +kernel) (by decide +kernel)
theorem lkX8_183 : Cond.methodLink RX8 183 yX8_isWaiting ∈ gtbl := gt_at _ 1255 (by decide +kernel) (by decide +kernel)
theorem lkX8_187 : Cond.methodLink RX8 187 yX8_ends ∈ gtbl := gt_at _ 1259 (by decide +kernel) (by decide +kernel)
theorem lkX8_191 : Cond.methodLink RX8 191 yX8_turned ∈ gtbl := gt_at _ 1263 (by decide +kernel) (by decide +kernel)
theorem lkL_130 : Cond.methodLink RL 130 yX8_split ∈ gtbl := gt_at _ 1266 (by decide +kernel) (by decide +kernel)
theorem lkX8_194 : Cond.methodLink RX8 194 yX8_isFree ∈ gtbl := gt_at _ 1270 (by decide +kernel) (by decide +kernel)
theorem lkX8_197 : Cond.methodLink RX8 197 yX8_isOther ∈ gtbl := gt_at _ 1274 (by decide +kernel) (by decide +kernel)
theorem lkL_133 : Cond.methodLink RL 133 yX8_join ∈ gtbl := gt_at _ 1278 (by decide +kernel) (by decide +kernel)
theorem lkX8_200 : Cond.methodLink RX8 200 yX8_joined ∈ gtbl := gt_at _ 1282 (by decide +kernel) (by decide +kernel)
theorem lkL_137 : Cond.methodLink RL 137 yX8_toggleNeed ∈ gtbl := gt_at _ 1285 (by decide +kernel) (by decide +kernel)
theorem lkL_140 : Cond.methodLink RL 140 yX8_drop ∈ gtbl := gt_at _ 1289 (by decide +kernel) (by decide +kernel)
theorem lkX8_213 : Cond.methodLink RX8 213 yX8_isHeldUp ∈ gtbl := gt_at _ 1293 (by decide +kernel) (by decide +kernel)
theorem lkX8_209 : Cond.methodLink RX8 209 yX8_tracesOf ∈ gtbl := gt_at _ 1297 (by decide +kernel) (by decide +kernel)
theorem lkX8_203 : Cond.methodLink RX8 203 yX8_follows ∈ gtbl := gt_at _ 1301 (by decide +kernel) (by decide +kernel)
theorem lkX8_216 : Cond.methodLink RX8 216 yX8_dropsOut ∈ gtbl := gt_at _ 1305 (by decide +kernel) (by decide +kernel)
theorem lkL_144 : Cond.methodLink RL 144 yX8_head ∈ gtbl := gt_at _ 1309 (by decide +kernel) (by decide +kernel)
theorem lkL_147 : Cond.methodLink RL 147 yX8_field ∈ gtbl := gt_at _ 1313 (by decide +kernel) (by decide +kernel)
theorem lkX8_219 : Cond.methodLink RX8 219 yX8_isVersion ∈ gtbl := gt_at _ 1317 (by decide +kernel) (by decide +kernel)
theorem lkL_150 : Cond.methodLink RL 150 yX8_text ∈ gtbl := gt_at _ 1321 (by decide +kernel) (by decide +kernel)
theorem lkX8_229 : Cond.methodLink RX8 229 yX8_sign ∈ gtbl := gt_at _ 1325 (by decide +kernel) (by decide +kernel)
theorem lkX8_222 : Cond.methodLink RX8 222 yX8_length ∈ gtbl := gt_at _ 1329 (by decide +kernel) (by decide +kernel)
theorem lkX8_225 : Cond.methodLink RX8 225 yX8_letter ∈ gtbl := gt_at _ 1332 (by decide +kernel) (by decide +kernel)
theorem lkL_153 : Cond.methodLink RL 153 yX8_form ∈ gtbl := gt_at _ 1335 (by decide +kernel) (by decide +kernel)
theorem lkL_157 : Cond.methodLink RL 157 yX8_take ∈ gtbl := gt_at _ 1339 (by decide +kernel) (by decide +kernel)
theorem lkX8_239 : Cond.methodLink RX8 239 yX8_inForm ∈ gtbl := gt_at _ 1343 (by decide +kernel) (by decide +kernel)
theorem lkX8_232 : Cond.methodLink RX8 232 yX8_isForm ∈ gtbl := gt_at _ 1347 (by decide +kernel) (by decide +kernel)
theorem lkX8_242 : Cond.methodLink RX8 242 yX8_canTake ∈ gtbl := gt_at _ 1351 (by decide +kernel) (by decide +kernel)
theorem lkX8_235 : Cond.methodLink RX8 235 yX8_traces ∈ gtbl := gt_at _ 1355 (by decide +kernel) (by decide +kernel)
theorem lkX8_245 : Cond.methodLink RX8 245 yX8_held ∈ gtbl := gt_at _ 1359 (by decide +kernel) (by decide +kernel)
theorem lkL_160 : Cond.methodLink RL 160 yX8_letGo ∈ gtbl := gt_at _ 1363 (by decide +kernel) (by decide +kernel)
theorem lkX8_248 : Cond.methodLink RX8 248 yX8_isHeld ∈ gtbl := gt_at _ 1367 (by decide +kernel) (by decide +kernel)
theorem lkX8_251 : Cond.methodLink RX8 251 yX8_looksAtDrops ∈ gtbl := gt_at _ 1371 (by decide +kernel) (by decide +kernel)
theorem lkL_163 : Cond.methodLink RL 163 yX8_retire ∈ gtbl := gt_at _ 1375 (by decide +kernel) (by decide +kernel)
theorem lkL_166 : Cond.methodLink RL 166 yX8_renew ∈ gtbl := gt_at _ 1379 (by decide +kernel) (by decide +kernel)
theorem lkL_169 : Cond.methodLink RL 169 yX8_read ∈ gtbl := gt_at _ 1383 (by decide +kernel) (by decide +kernel)
theorem lkX8_296 : Cond.methodLink RX8 296 yX8_isRow ∈ gtbl := gt_at _ 1387 (by decide +kernel) (by decide +kernel)
theorem lkX8_299 : Cond.methodLink RX8 299 yX8_sees ∈ gtbl := gt_at _ 1391 (by decide +kernel) (by decide +kernel)
theorem lkX8_284 : Cond.methodLink RX8 284 yX8_copies ∈ gtbl := gt_at _ 1395 (by decide +kernel) (by decide +kernel)
theorem lkX8_287 : Cond.methodLink RX8 287 yX8_movesTo ∈ gtbl := gt_at _ 1399 (by decide +kernel) (by decide +kernel)
theorem lkX8_280 : Cond.methodLink RX8 280 yX8_moves ∈ gtbl := gt_at _ 1403 (by decide +kernel) (by decide +kernel)
theorem lkX8_272 : Cond.methodLink RX8 272 yX8_onSide ∈ gtbl := gt_at _ 1407 (by decide +kernel) (by decide +kernel)
theorem lkX8_256 : Cond.methodLink RX8 256 yX8_front ∈ gtbl := gt_at _ 1411 (by decide +kernel) (by decide +kernel)
theorem lkX8_254 : Cond.methodLink RX8 254 yX8_behind ∈ gtbl := gt_at _ 1415 (by decide +kernel) (by decide +kernel)
theorem lkX8_276 : Cond.methodLink RX8 276 yX8_goes ∈ gtbl := gt_at _ 1419 (by decide +kernel) (by decide +kernel)
theorem lkX8_265 : Cond.methodLink RX8 265 yX8_up ∈ gtbl := gt_at _ 1423 (by decide +kernel) (by decide +kernel)
theorem lkX8_258 : Cond.methodLink RX8 258 yX8_kindOf ∈ gtbl := gt_at _ 1427 (by decide +kernel) (by decide +kernel)
theorem lkX8_261 : Cond.methodLink RX8 261 yX8_needed ∈ gtbl := gt_at _ 1431 (by decide +kernel) (by decide +kernel)
theorem lkX8_269 : Cond.methodLink RX8 269 yX8_down ∈ gtbl := gt_at _ 1435 (by decide +kernel) (by decide +kernel)
theorem lkL_173 : Cond.methodLink RL 173 yX8_write ∈ gtbl := gt_at _ 1439 (by decide +kernel) (by decide +kernel)
theorem lkX8_302 : Cond.methodLink RX8 302 yX8_counts ∈ gtbl := gt_at _ 1443 (by decide +kernel) (by decide +kernel)
theorem lkL_176 : Cond.methodLink RL 176 yX8_row ∈ gtbl := gt_at _ 1447 (by decide +kernel) (by decide +kernel)
theorem lkL_179 : Cond.methodLink RL 179 yX8_set ∈ gtbl := gt_at _ 1451 (by decide +kernel) (by decide +kernel)
theorem lkX8_306 : Cond.methodLink RX8 306 yX8_inRow ∈ gtbl := gt_at _ 1455 (by decide +kernel) (by decide +kernel)
theorem lkL_182 : Cond.methodLink RL 182 yX8_value ∈ gtbl := gt_at _ 1459 (by decide +kernel) (by decide +kernel)
theorem lkL_185 : Cond.methodLink RL 185 yX8_replayed ∈ gtbl := gt_at _ 1463 (by decide +kernel) (by decide +kernel)
theorem lkL_188 : Cond.methodLink RL 188 yX8_standing ∈ gtbl := gt_at _ 1467 (by decide +kernel) (by decide +kernel)
theorem lkL_191 : Cond.methodLink RL 191 yX8_mover ∈ gtbl := gt_at _ 1471 (by decide +kernel) (by decide +kernel)
theorem lkL_194 : Cond.methodLink RL 194 yX8_step ∈ gtbl := gt_at _ 1475 (by decide +kernel) (by decide +kernel)
theorem lkX8_315 : Cond.methodLink RX8 315 yX8_isMover ∈ gtbl := gt_at _ 1479 (by decide +kernel) (by decide +kernel)
theorem lkX8_318 : Cond.methodLink RX8 318 yX8_nextRow ∈ gtbl := gt_at _ 1483 (by decide +kernel) (by decide +kernel)
theorem lkX8_312 : Cond.methodLink RX8 312 yX8_off ∈ gtbl := gt_at _ 1487 (by decide +kernel) (by decide +kernel)
theorem lkL_197 : Cond.methodLink RL 197 yX8_undo ∈ gtbl := gt_at _ 1491 (by decide +kernel) (by decide +kernel)
theorem inC1 : ∀ w ∈ u_ws (clR 1) (clT 1) (clN 1), w ∈ gtbl := gt_ofs _ [757, 759, 761, 763, 765] (by decide +kernel) (by decide +kernel)
theorem insX0 : Cond.instantiable RX0 5 ∈ gtbl := gt_at _ 744 (by decide +kernel) (by decide +kernel)
theorem iniX0 : Cond.initialized RX0 ∈ gtbl := gt_at _ 22 (by decide +kernel) (by decide +kernel)
theorem inC2 : ∀ w ∈ u_ws (clR 2) (clT 2) (clN 2), w ∈ gtbl := gt_ofs _ [1018, 1020, 1022, 1024] (by decide +kernel) (by decide +kernel)
theorem insX1 : Cond.instantiable RX1 4 ∈ gtbl := gt_at _ 1003 (by decide +kernel) (by decide +kernel)
theorem iniX1 : Cond.initialized RX1 ∈ gtbl := gt_at _ 26 (by decide +kernel) (by decide +kernel)
theorem inC3 : ∀ w ∈ u_ws (clR 3) (clT 3) (clN 3), w ∈ gtbl := gt_ofs _ [976, 978, 980] (by decide +kernel) (by decide +kernel)
theorem insX2 : Cond.instantiable RX2 3 ∈ gtbl := gt_at _ 965 (by decide +kernel) (by decide +kernel)
theorem iniX2 : Cond.initialized RX2 ∈ gtbl := gt_at _ 25 (by decide +kernel) (by decide +kernel)
theorem inC4 : ∀ w ∈ u_ws (clR 4) (clT 4) (clN 4), w ∈ gtbl := gt_ofs _ [917, 919, 921] (by decide +kernel) (by decide +kernel)
theorem insX3 : Cond.instantiable RX3 3 ∈ gtbl := gt_at _ 904 (by decide +kernel) (by decide +kernel)
theorem iniX3 : Cond.initialized RX3 ∈ gtbl := gt_at _ 24 (by decide +kernel) (by decide +kernel)
theorem inC5 : ∀ w ∈ u_ws (clR 5) (clT 5) (clN 5), w ∈ gtbl := gt_ofs _ [208, 210, 212, 214, 216, 218, 220, 222, 224, 226, 228, 230, 232] (by decide +kernel) (by decide +kernel)
theorem insX4 : Cond.instantiable RX4 13 ∈ gtbl := gt_at _ 183 (by decide +kernel) (by decide +kernel)
theorem iniX4 : Cond.initialized RX4 ∈ gtbl := gt_at _ 8 (by decide +kernel) (by decide +kernel)
theorem inC6 : ∀ w ∈ u_ws (clR 6) (clT 6) (clN 6), w ∈ gtbl := gt_ofs _ [60, 62, 64, 66, 68] (by decide +kernel) (by decide +kernel)
theorem insX5 : Cond.instantiable RX5 5 ∈ gtbl := gt_at _ 46 (by decide +kernel) (by decide +kernel)
theorem iniX5 : Cond.initialized RX5 ∈ gtbl := gt_at _ 2 (by decide +kernel) (by decide +kernel)
theorem inC7 : ∀ w ∈ u_ws (clR 7) (clT 7) (clN 7), w ∈ gtbl := gt_ofs _ [328, 330, 332, 334] (by decide +kernel) (by decide +kernel)
theorem insX6 : Cond.instantiable RX6 4 ∈ gtbl := gt_at _ 312 (by decide +kernel) (by decide +kernel)
theorem iniX6 : Cond.initialized RX6 ∈ gtbl := gt_at _ 11 (by decide +kernel) (by decide +kernel)
theorem inC8 : ∀ w ∈ u_ws (clR 8) (clT 8) (clN 8), w ∈ gtbl := gt_ofs _ [84, 86, 88, 90, 92, 94, 96, 98, 100, 102, 104] (by decide +kernel) (by decide +kernel)
theorem insX7 : Cond.instantiable RX7 11 ∈ gtbl := gt_at _ 28 (by decide +kernel) (by decide +kernel)
theorem iniX7 : Cond.initialized RX7 ∈ gtbl := gt_at _ 1 (by decide +kernel) (by decide +kernel)
theorem inC9 : ∀ w ∈ u_ws (clR 9) (clT 9) (clN 9), w ∈ gtbl := gt_ofs _ [1096, 1098, 1100, 1102, 1104, 1106, 1108, 1110, 1112, 1114, 1116, 1118, 1120, 1122, 1124, 1126, 1128, 1130, 1132, 1134, 1136, 1138, 1140, 1142, 1144, 1146, 1148, 1150, 1152, 1154, 1156, 1158, 1160, 1162, 1164, 1166, 1168, 1170, 1172, 1174, 1176, 1178, 1180, 1182, 1184, 1186, 1188, 1190, 1192] (by decide +kernel) (by decide +kernel)
theorem insX8 : Cond.instantiable RX8 49 ∈ gtbl := gt_at _ 1042 (by decide +kernel) (by decide +kernel)
theorem iniX8 : Cond.initialized RX8 ∈ gtbl := gt_at _ 3 (by decide +kernel) (by decide +kernel)
theorem iniL : Cond.initialized RL ∈ gtbl := gt_at _ 0 (by decide +kernel) (by decide +kernel)
theorem oi1 : Cond.instanceMethod objectInit ∈ gtbl := gt_at _ 33 (by decide +kernel) (by decide +kernel)
theorem oi2 : Cond.code objectInit ⟨#[0xb1]⟩ 1 none ∈ gtbl := gt_at _ 34 (by decide +kernel) (by decide +kernel)
theorem arc_int : Cond.arrayClass .int ∈ gtbl := gt_at _ 71 (by decide +kernel) (by decide +kernel)
theorem arc_boolean : Cond.arrayClass .boolean ∈ gtbl := gt_at _ 72 (by decide +kernel) (by decide +kernel)
theorem arc_long : Cond.arrayClass .long ∈ gtbl := gt_at _ 235 (by decide +kernel) (by decide +kernel)
theorem aov_Schema : Cond.arrayOver (.object "FieldMigrator$Schema") ∈ xtbl := xt_at _ 36 (by decide +kernel) (by decide +kernel)
theorem aov_Form : Cond.arrayOver (.object "FieldMigrator$Form") ∈ xtbl := xt_at _ 38 (by decide +kernel) (by decide +kernel)
theorem aov_Row : Cond.arrayOver (.object "FieldMigrator$Row") ∈ xtbl := xt_at _ 40 (by decide +kernel) (by decide +kernel)
theorem aov_Mover : Cond.arrayOver (.object "FieldMigrator$Mover") ∈ xtbl := xt_at _ 42 (by decide +kernel) (by decide +kernel)
theorem aov_Move : Cond.arrayOver (.object "FieldMigrator$Move") ∈ xtbl := xt_at _ 44 (by decide +kernel) (by decide +kernel)
theorem aov_Step : Cond.arrayOver (.object "FieldMigrator$Step") ∈ xtbl := xt_at _ 191 (by decide +kernel) (by decide +kernel)
theorem aov_int : Cond.arrayOver (.array .int) ∈ xtbl := xt_at _ 189 (by decide +kernel) (by decide +kernel)
theorem okX7_init : okI mX7_init 0 := ⟨rfl, rfl, rfl, gt_at (.instanceMethod yX7_init) 30 (by decide +kernel) (by decide +kernel), iniX7, (gt_at (.code yX7_init cX7_init 1 (none)) 31 (by decide +kernel) (by decide +kernel)), by decide +kernel, by decide +kernel, by decide +kernel⟩
theorem okX7_schema : okV mX7_schema 0 := ⟨rfl, gt_at (.instanceMethod yX7_schema) 112 (by decide +kernel) (by decide +kernel), gt_at (.selects RX7 yX7_schema yX7_schema) 113 (by decide +kernel) (by decide +kernel), iniX7, (gt_at (.code yX7_schema cX7_schema 2 (some .int)) 114 (by decide +kernel) (by decide +kernel)), by decide +kernel, by decide +kernel, by decide +kernel⟩
theorem okX7_add : okV mX7_add 5 := ⟨rfl, gt_at (.instanceMethod yX7_add) 242 (by decide +kernel) (by decide +kernel), gt_at (.selects RX7 yX7_add yX7_add) 243 (by decide +kernel) (by decide +kernel), iniX7, (gt_at (.code yX7_add cX7_add 8 (some .int)) 244 (by decide +kernel) (by decide +kernel)), by decide +kernel, by decide +kernel, by decide +kernel⟩
theorem okX7_rename : okV mX7_rename 3 := ⟨rfl, gt_at (.instanceMethod yX7_rename) 370 (by decide +kernel) (by decide +kernel), gt_at (.selects RX7 yX7_rename yX7_rename) 371 (by decide +kernel) (by decide +kernel), iniX7, (gt_at (.code yX7_rename cX7_rename 7 (some .int)) 372 (by decide +kernel) (by decide +kernel)), by decide +kernel, by decide +kernel, by decide +kernel⟩
theorem okX7_turn : okV mX7_turn 3 := ⟨rfl, gt_at (.instanceMethod yX7_turn) 394 (by decide +kernel) (by decide +kernel), gt_at (.selects RX7 yX7_turn yX7_turn) 395 (by decide +kernel) (by decide +kernel), iniX7, (gt_at (.code yX7_turn cX7_turn 9 (some .int)) 396 (by decide +kernel) (by decide +kernel)), by decide +kernel, by decide +kernel, by decide +kernel⟩
theorem okX7_split : okV mX7_split 5 := ⟨rfl, gt_at (.instanceMethod yX7_split) 422 (by decide +kernel) (by decide +kernel), gt_at (.selects RX7 yX7_split yX7_split) 423 (by decide +kernel) (by decide +kernel), iniX7, (gt_at (.code yX7_split cX7_split 13 (some .int)) 424 (by decide +kernel) (by decide +kernel)), by decide +kernel, by decide +kernel, by decide +kernel⟩
theorem okX7_join : okV mX7_join 5 := ⟨rfl, gt_at (.instanceMethod yX7_join) 451 (by decide +kernel) (by decide +kernel), gt_at (.selects RX7 yX7_join yX7_join) 452 (by decide +kernel) (by decide +kernel), iniX7, (gt_at (.code yX7_join cX7_join 13 (some .int)) 453 (by decide +kernel) (by decide +kernel)), by decide +kernel, by decide +kernel, by decide +kernel⟩
theorem okX7_toggleNeed : okV mX7_toggleNeed 2 := ⟨rfl, gt_at (.instanceMethod yX7_toggleNeed) 465 (by decide +kernel) (by decide +kernel), gt_at (.selects RX7 yX7_toggleNeed yX7_toggleNeed) 466 (by decide +kernel) (by decide +kernel), iniX7, (gt_at (.code yX7_toggleNeed cX7_toggleNeed 6 (some .boolean)) 467 (by decide +kernel) (by decide +kernel)), by decide +kernel, by decide +kernel, by decide +kernel⟩
theorem okX7_drop : okV mX7_drop 2 := ⟨rfl, gt_at (.instanceMethod yX7_drop) 473 (by decide +kernel) (by decide +kernel), gt_at (.selects RX7 yX7_drop yX7_drop) 474 (by decide +kernel) (by decide +kernel), iniX7, (gt_at (.code yX7_drop cX7_drop 5 (some .boolean)) 475 (by decide +kernel) (by decide +kernel)), by decide +kernel, by decide +kernel, by decide +kernel⟩
theorem okX7_head : okV mX7_head 1 := ⟨rfl, gt_at (.instanceMethod yX7_head) 508 (by decide +kernel) (by decide +kernel), gt_at (.selects RX7 yX7_head yX7_head) 509 (by decide +kernel) (by decide +kernel), iniX7, (gt_at (.code yX7_head cX7_head 3 (some .int)) 510 (by decide +kernel) (by decide +kernel)), by decide +kernel, by decide +kernel, by decide +kernel⟩
theorem okX7_field : okV mX7_field 3 := ⟨rfl, gt_at (.instanceMethod yX7_field) 515 (by decide +kernel) (by decide +kernel), gt_at (.selects RX7 yX7_field yX7_field) 516 (by decide +kernel) (by decide +kernel), iniX7, (gt_at (.code yX7_field cX7_field 6 (some .int)) 517 (by decide +kernel) (by decide +kernel)), by decide +kernel, by decide +kernel, by decide +kernel⟩
theorem okX7_text : okV mX7_text 3 := ⟨rfl, gt_at (.instanceMethod yX7_text) 525 (by decide +kernel) (by decide +kernel), gt_at (.selects RX7 yX7_text yX7_text) 526 (by decide +kernel) (by decide +kernel), iniX7, (gt_at (.code yX7_text cX7_text 7 (some .char)) 527 (by decide +kernel) (by decide +kernel)), by decide +kernel, by decide +kernel, by decide +kernel⟩
theorem okX7_form : okV mX7_form 1 := ⟨rfl, gt_at (.instanceMethod yX7_form) 740 (by decide +kernel) (by decide +kernel), gt_at (.selects RX7 yX7_form yX7_form) 741 (by decide +kernel) (by decide +kernel), iniX7, (gt_at (.code yX7_form cX7_form 4 (some .int)) 742 (by decide +kernel) (by decide +kernel)), by decide +kernel, by decide +kernel, by decide +kernel⟩
theorem okX7_take : okV mX7_take 3 := ⟨rfl, gt_at (.instanceMethod yX7_take) 772 (by decide +kernel) (by decide +kernel), gt_at (.selects RX7 yX7_take yX7_take) 773 (by decide +kernel) (by decide +kernel), iniX7, (gt_at (.code yX7_take cX7_take 8 (some .int)) 774 (by decide +kernel) (by decide +kernel)), by decide +kernel, by decide +kernel, by decide +kernel⟩
theorem okX7_letGo : okV mX7_letGo 2 := ⟨rfl, gt_at (.instanceMethod yX7_letGo) 794 (by decide +kernel) (by decide +kernel), gt_at (.selects RX7 yX7_letGo yX7_letGo) 795 (by decide +kernel) (by decide +kernel), iniX7, (gt_at (.code yX7_letGo cX7_letGo 5 (some .int)) 796 (by decide +kernel) (by decide +kernel)), by decide +kernel, by decide +kernel, by decide +kernel⟩
theorem okX7_retire : okV mX7_retire 1 := ⟨rfl, gt_at (.instanceMethod yX7_retire) 811 (by decide +kernel) (by decide +kernel), gt_at (.selects RX7 yX7_retire yX7_retire) 812 (by decide +kernel) (by decide +kernel), iniX7, (gt_at (.code yX7_retire cX7_retire 3 (some .int)) 813 (by decide +kernel) (by decide +kernel)), by decide +kernel, by decide +kernel, by decide +kernel⟩
theorem okX7_renew : okV mX7_renew 1 := ⟨rfl, gt_at (.instanceMethod yX7_renew) 819 (by decide +kernel) (by decide +kernel), gt_at (.selects RX7 yX7_renew yX7_renew) 820 (by decide +kernel) (by decide +kernel), iniX7, (gt_at (.code yX7_renew cX7_renew 3 (some .int)) 821 (by decide +kernel) (by decide +kernel)), by decide +kernel, by decide +kernel, by decide +kernel⟩
theorem okX7_read : okV mX7_read 3 := ⟨rfl, gt_at (.instanceMethod yX7_read) 826 (by decide +kernel) (by decide +kernel), gt_at (.selects RX7 yX7_read yX7_read) 827 (by decide +kernel) (by decide +kernel), iniX7, (gt_at (.code yX7_read cX7_read 7 (some .int)) 828 (by decide +kernel) (by decide +kernel)), by decide +kernel, by decide +kernel, by decide +kernel⟩
theorem okX7_write : okV mX7_write 4 := ⟨rfl, gt_at (.instanceMethod yX7_write) 890 (by decide +kernel) (by decide +kernel), gt_at (.selects RX7 yX7_write yX7_write) 891 (by decide +kernel) (by decide +kernel), iniX7, (gt_at (.code yX7_write cX7_write 9 (some .int)) 892 (by decide +kernel) (by decide +kernel)), by decide +kernel, by decide +kernel, by decide +kernel⟩
theorem okX7_row : okV mX7_row 2 := ⟨rfl, gt_at (.instanceMethod yX7_row) 900 (by decide +kernel) (by decide +kernel), gt_at (.selects RX7 yX7_row yX7_row) 901 (by decide +kernel) (by decide +kernel), iniX7, (gt_at (.code yX7_row cX7_row 8 (some .int)) 902 (by decide +kernel) (by decide +kernel)), by decide +kernel, by decide +kernel, by decide +kernel⟩
theorem okX7_set : okV mX7_set 3 := ⟨rfl, gt_at (.instanceMethod yX7_set) 928 (by decide +kernel) (by decide +kernel), gt_at (.selects RX7 yX7_set yX7_set) 929 (by decide +kernel) (by decide +kernel), iniX7, (gt_at (.code yX7_set cX7_set 8 (some .int)) 930 (by decide +kernel) (by decide +kernel)), by decide +kernel, by decide +kernel, by decide +kernel⟩
theorem okX7_value : okV mX7_value 3 := ⟨rfl, gt_at (.instanceMethod yX7_value) 936 (by decide +kernel) (by decide +kernel), gt_at (.selects RX7 yX7_value yX7_value) 937 (by decide +kernel) (by decide +kernel), iniX7, (gt_at (.code yX7_value cX7_value 6 (some .int)) 938 (by decide +kernel) (by decide +kernel)), by decide +kernel, by decide +kernel, by decide +kernel⟩
theorem okX7_replayed : okV mX7_replayed 2 := ⟨rfl, gt_at (.instanceMethod yX7_replayed) 943 (by decide +kernel) (by decide +kernel), gt_at (.selects RX7 yX7_replayed yX7_replayed) 944 (by decide +kernel) (by decide +kernel), iniX7, (gt_at (.code yX7_replayed cX7_replayed 5 (some .int)) 945 (by decide +kernel) (by decide +kernel)), by decide +kernel, by decide +kernel, by decide +kernel⟩
theorem okX7_standing : okV mX7_standing 1 := ⟨rfl, gt_at (.instanceMethod yX7_standing) 950 (by decide +kernel) (by decide +kernel), gt_at (.selects RX7 yX7_standing yX7_standing) 951 (by decide +kernel) (by decide +kernel), iniX7, (gt_at (.code yX7_standing cX7_standing 3 (some .int)) 952 (by decide +kernel) (by decide +kernel)), by decide +kernel, by decide +kernel, by decide +kernel⟩
theorem okX7_mover : okV mX7_mover 2 := ⟨rfl, gt_at (.instanceMethod yX7_mover) 961 (by decide +kernel) (by decide +kernel), gt_at (.selects RX7 yX7_mover yX7_mover) 962 (by decide +kernel) (by decide +kernel), iniX7, (gt_at (.code yX7_mover cX7_mover 5 (some .int)) 963 (by decide +kernel) (by decide +kernel)), by decide +kernel, by decide +kernel, by decide +kernel⟩
theorem okX7_step : okV mX7_step 1 := ⟨rfl, gt_at (.instanceMethod yX7_step) 987 (by decide +kernel) (by decide +kernel), gt_at (.selects RX7 yX7_step yX7_step) 988 (by decide +kernel) (by decide +kernel), iniX7, (gt_at (.code yX7_step cX7_step 6 (some .int)) 989 (by decide +kernel) (by decide +kernel)), by decide +kernel, by decide +kernel, by decide +kernel⟩
theorem okX7_undo : okV mX7_undo 1 := ⟨rfl, gt_at (.instanceMethod yX7_undo) 1032 (by decide +kernel) (by decide +kernel), gt_at (.selects RX7 yX7_undo yX7_undo) 1033 (by decide +kernel) (by decide +kernel), iniX7, (gt_at (.code yX7_undo cX7_undo 5 (some .int)) 1034 (by decide +kernel) (by decide +kernel)), by decide +kernel, by decide +kernel, by decide +kernel⟩
theorem okX7_schemaAt : okV mX7_schemaAt 1 := ⟨rfl, gt_at (.instanceMethod yX7_schemaAt) 247 (by decide +kernel) (by decide +kernel), gt_in (List.mem_append_left _ (List.mem_of_getElem? (i := 1) (by decide +kernel))) (by decide +kernel), iniX7, (gt_at (.code yX7_schemaAt cX7_schemaAt 3 (some (.object "FieldMigrator$Schema"))) 248 (by decide +kernel) (by decide +kernel)), by decide +kernel, by decide +kernel, by decide +kernel⟩
theorem okX7_formAt : okV mX7_formAt 1 := ⟨rfl, gt_at (.instanceMethod yX7_formAt) 777 (by decide +kernel) (by decide +kernel), gt_in (List.mem_append_left _ (List.mem_of_getElem? (i := 4) (by decide +kernel))) (by decide +kernel), iniX7, (gt_at (.code yX7_formAt cX7_formAt 3 (some (.object "FieldMigrator$Form"))) 778 (by decide +kernel) (by decide +kernel)), by decide +kernel, by decide +kernel, by decide +kernel⟩
theorem okX7_rowAt : okV mX7_rowAt 1 := ⟨rfl, gt_at (.instanceMethod yX7_rowAt) 831 (by decide +kernel) (by decide +kernel), gt_in (List.mem_append_left _ (List.mem_of_getElem? (i := 5) (by decide +kernel))) (by decide +kernel), iniX7, (gt_at (.code yX7_rowAt cX7_rowAt 3 (some (.object "FieldMigrator$Row"))) 832 (by decide +kernel) (by decide +kernel)), by decide +kernel, by decide +kernel, by decide +kernel⟩
theorem okX7_moverAt : okV mX7_moverAt 1 := ⟨rfl, gt_at (.instanceMethod yX7_moverAt) 992 (by decide +kernel) (by decide +kernel), gt_in (List.mem_append_left _ (List.mem_of_getElem? (i := 9) (by decide +kernel))) (by decide +kernel), iniX7, (gt_at (.code yX7_moverAt cX7_moverAt 3 (some (.object "FieldMigrator$Mover"))) 993 (by decide +kernel) (by decide +kernel)), by decide +kernel, by decide +kernel, by decide +kernel⟩
theorem okX7_moveAt : okV mX7_moveAt 1 := ⟨rfl, gt_at (.instanceMethod yX7_moveAt) 1037 (by decide +kernel) (by decide +kernel), gt_in (List.mem_append_left _ (List.mem_of_getElem? (i := 11) (by decide +kernel))) (by decide +kernel), iniX7, (gt_at (.code yX7_moveAt cX7_moveAt 2 (some (.object "FieldMigrator$Move"))) 1038 (by decide +kernel) (by decide +kernel)), by decide +kernel, by decide +kernel, by decide +kernel⟩
theorem okX7_fieldAt : okS mX7_fieldAt 3 := ⟨rfl, gt_at (.static yX7_fieldAt) 377 (by decide +kernel) (by decide +kernel), iniX7, (gt_at (.code yX7_fieldAt cX7_fieldAt 4 (some .int)) 378 (by decide +kernel) (by decide +kernel)), by decide +kernel, by decide +kernel, by decide +kernel⟩
theorem okX7_fieldOfHead : okS mX7_fieldOfHead 2 := ⟨rfl, gt_at (.static yX7_fieldOfHead) 374 (by decide +kernel) (by decide +kernel), iniX7, (gt_at (.code yX7_fieldOfHead cX7_fieldOfHead 2 (some .int)) 375 (by decide +kernel) (by decide +kernel)), by decide +kernel, by decide +kernel, by decide +kernel⟩
theorem okX7_heldField : okS mX7_heldField 2 := ⟨rfl, gt_at (.static yX7_heldField) 798 (by decide +kernel) (by decide +kernel), iniX7, (gt_at (.code yX7_heldField cX7_heldField 3 (some .int)) 799 (by decide +kernel) (by decide +kernel)), by decide +kernel, by decide +kernel, by decide +kernel⟩
theorem okX7_heldUpOf : okV mX7_heldUpOf 1 := ⟨rfl, gt_at (.instanceMethod yX7_heldUpOf) 479 (by decide +kernel) (by decide +kernel), gt_in (List.mem_append_left _ (List.mem_of_getElem? (i := 3) (by decide +kernel))) (by decide +kernel), iniX7, (gt_at (.code yX7_heldUpOf cX7_heldUpOf 6 (some .long)) 480 (by decide +kernel) (by decide +kernel)), by decide +kernel, by decide +kernel, by decide +kernel⟩
theorem okX7_see : okV mX7_see 2 := ⟨rfl, gt_at (.instanceMethod yX7_see) 837 (by decide +kernel) (by decide +kernel), gt_in (List.mem_append_left _ (List.mem_of_getElem? (i := 6) (by decide +kernel))) (by decide +kernel), iniX7, (gt_at (.code yX7_see cX7_see 3 (none)) 838 (by decide +kernel) (by decide +kernel)), by decide +kernel, by decide +kernel, by decide +kernel⟩
theorem okX7_farthestRow : okV mX7_farthestRow 1 := ⟨rfl, gt_at (.instanceMethod yX7_farthestRow) 997 (by decide +kernel) (by decide +kernel), gt_in (List.mem_append_left _ (List.mem_of_getElem? (i := 10) (by decide +kernel))) (by decide +kernel), iniX7, (gt_at (.code yX7_farthestRow cX7_farthestRow 7 (some .int)) 998 (by decide +kernel) (by decide +kernel)), by decide +kernel, by decide +kernel, by decide +kernel⟩
theorem okX7_tellNames : okS mX7_tellNames 4 := ⟨rfl, gt_at (.static yX7_tellNames) 688 (by decide +kernel) (by decide +kernel), iniX7, (gt_at (.code yX7_tellNames cX7_tellNames 5 (none)) 689 (by decide +kernel) (by decide +kernel)), by decide +kernel, by decide +kernel, by decide +kernel⟩
theorem okX7_wordOf : okS mX7_wordOf 1 := ⟨rfl, gt_at (.static yX7_wordOf) 560 (by decide +kernel) (by decide +kernel), iniX7, (gt_at (.code yX7_wordOf cX7_wordOf 1 (some (.object "java/lang/String"))) 561 (by decide +kernel) (by decide +kernel)), by decide +kernel, by decide +kernel, by decide +kernel⟩
theorem okX7_isName : okS mX7_isName 1 := ⟨rfl, gt_at (.static yX7_isName) 266 (by decide +kernel) (by decide +kernel), iniX7, (gt_at (.code yX7_isName cX7_isName 1 (some .boolean)) 267 (by decide +kernel) (by decide +kernel)), by decide +kernel, by decide +kernel, by decide +kernel⟩
theorem okX7_isKind : okS mX7_isKind 1 := ⟨rfl, gt_at (.static yX7_isKind) 272 (by decide +kernel) (by decide +kernel), iniX7, (gt_at (.code yX7_isKind cX7_isKind 1 (some .boolean)) 273 (by decide +kernel) (by decide +kernel)), by decide +kernel, by decide +kernel, by decide +kernel⟩
theorem okX7_isFactor : okS mX7_isFactor 1 := ⟨rfl, gt_at (.static yX7_isFactor) 426 (by decide +kernel) (by decide +kernel), iniX7, (gt_at (.code yX7_isFactor cX7_isFactor 1 (some .boolean)) 427 (by decide +kernel) (by decide +kernel)), by decide +kernel, by decide +kernel, by decide +kernel⟩
theorem okX7_isValue : okS mX7_isValue 2 := ⟨rfl, gt_at (.static yX7_isValue) 269 (by decide +kernel) (by decide +kernel), iniX7, (gt_at (.code yX7_isValue cX7_isValue 2 (some .boolean)) 270 (by decide +kernel) (by decide +kernel)), by decide +kernel, by decide +kernel, by decide +kernel⟩
theorem okX7_greatestOf : okS mX7_greatestOf 1 := ⟨rfl, gt_at (.static yX7_greatestOf) 275 (by decide +kernel) (by decide +kernel), iniX7, (gt_at (.code yX7_greatestOf cX7_greatestOf 1 (some .int)) 276 (by decide +kernel) (by decide +kernel)), by decide +kernel, by decide +kernel, by decide +kernel⟩
theorem okX7_bit : okS mX7_bit 1 := ⟨rfl, gt_at (.static yX7_bit) 354 (by decide +kernel) (by decide +kernel), iniX7, (gt_at (.code yX7_bit cX7_bit 1 (some .long)) 355 (by decide +kernel) (by decide +kernel)), by decide +kernel, by decide +kernel, by decide +kernel⟩
theorem okX7_contains : okS mX7_contains 2 := ⟨rfl, gt_at (.static yX7_contains) 387 (by decide +kernel) (by decide +kernel), iniX7, (gt_at (.code yX7_contains cX7_contains 3 (some .boolean)) 388 (by decide +kernel) (by decide +kernel)), by decide +kernel, by decide +kernel, by decide +kernel⟩
theorem okX7_turned : okS mX7_turned 3 := ⟨rfl, gt_at (.static yX7_turned) 416 (by decide +kernel) (by decide +kernel), iniX7, (gt_at (.code yX7_turned cX7_turned 3 (some .int)) 417 (by decide +kernel) (by decide +kernel)), by decide +kernel, by decide +kernel, by decide +kernel⟩
theorem okX7_quotient : okS mX7_quotient 2 := ⟨rfl, gt_at (.static yX7_quotient) 442 (by decide +kernel) (by decide +kernel), iniX7, (gt_at (.code yX7_quotient cX7_quotient 2 (some .int)) 443 (by decide +kernel) (by decide +kernel)), by decide +kernel, by decide +kernel, by decide +kernel⟩
theorem okX7_remainder : okS mX7_remainder 2 := ⟨rfl, gt_at (.static yX7_remainder) 445 (by decide +kernel) (by decide +kernel), iniX7, (gt_at (.code yX7_remainder cX7_remainder 2 (some .int)) 446 (by decide +kernel) (by decide +kernel)), by decide +kernel, by decide +kernel, by decide +kernel⟩
theorem okX7_combined : okS mX7_combined 3 := ⟨rfl, gt_at (.static yX7_combined) 456 (by decide +kernel) (by decide +kernel), iniX7, (gt_at (.code yX7_combined cX7_combined 3 (some .int)) 457 (by decide +kernel) (by decide +kernel)), by decide +kernel, by decide +kernel, by decide +kernel⟩
theorem okX8_init : okI mX8_init 0 := ⟨rfl, rfl, rfl, gt_at (.instanceMethod yX8_init) 1044 (by decide +kernel) (by decide +kernel), iniX8, (gt_at (.code yX8_init cX8_init 2 (none)) 1045 (by decide +kernel) (by decide +kernel)), by decide +kernel, by decide +kernel, by decide +kernel⟩
theorem okX8_thrown : okV mX8_thrown 0 := ⟨rfl, gt_at (.instanceMethod yX8_thrown) 1196 (by decide +kernel) (by decide +kernel), gt_at (.selects RX8 yX8_thrown yX8_thrown) 1197 (by decide +kernel) (by decide +kernel), iniX8, (gt_at (.code yX8_thrown cX8_thrown 1 (some .int)) 1198 (by decide +kernel) (by decide +kernel)), by decide +kernel, by decide +kernel, by decide +kernel⟩
theorem okX8_fails : okV mX8_fails 1 := ⟨rfl, gt_at (.instanceMethod yX8_fails) 1205 (by decide +kernel) (by decide +kernel), gt_in (List.mem_append_left _ (List.mem_of_getElem? (i := 12) (by decide +kernel))) (by decide +kernel), iniX8, (gt_at (.code yX8_fails cX8_fails 2 (some .boolean)) 1206 (by decide +kernel) (by decide +kernel)), by decide +kernel, by decide +kernel, by decide +kernel⟩
theorem okX8_lies : okS mX8_lies 3 := ⟨rfl, gt_at (.static yX8_lies) 1216 (by decide +kernel) (by decide +kernel), iniX8, (gt_at (.code yX8_lies cX8_lies 3 (some .boolean)) 1217 (by decide +kernel) (by decide +kernel)), by decide +kernel, by decide +kernel, by decide +kernel⟩
theorem okX8_isSchema : okV mX8_isSchema 1 := ⟨rfl, gt_at (.instanceMethod yX8_isSchema) 1213 (by decide +kernel) (by decide +kernel), gt_in (List.mem_append_left _ (List.mem_of_getElem? (i := 13) (by decide +kernel))) (by decide +kernel), iniX8, (gt_at (.code yX8_isSchema cX8_isSchema 2 (some .boolean)) 1214 (by decide +kernel) (by decide +kernel)), by decide +kernel, by decide +kernel, by decide +kernel⟩
theorem okX8_isName : okS mX8_isName 1 := ⟨rfl, gt_at (.static yX8_isName) 1219 (by decide +kernel) (by decide +kernel), iniX8, (gt_at (.code yX8_isName cX8_isName 1 (some .boolean)) 1220 (by decide +kernel) (by decide +kernel)), by decide +kernel, by decide +kernel, by decide +kernel⟩
theorem okX8_most : okS mX8_most 1 := ⟨rfl, gt_at (.static yX8_most) 1222 (by decide +kernel) (by decide +kernel), iniX8, (gt_at (.code yX8_most cX8_most 1 (some .int)) 1223 (by decide +kernel) (by decide +kernel)), by decide +kernel, by decide +kernel, by decide +kernel⟩
theorem okX8_place : okS mX8_place 3 := ⟨rfl, gt_at (.static yX8_place) 1233 (by decide +kernel) (by decide +kernel), iniX8, (gt_at (.code yX8_place cX8_place 3 (some .int)) 1234 (by decide +kernel) (by decide +kernel)), by decide +kernel, by decide +kernel, by decide +kernel⟩
theorem okX8_find : okV mX8_find 3 := ⟨rfl, gt_at (.instanceMethod yX8_find) 1230 (by decide +kernel) (by decide +kernel), gt_in (List.mem_append_left _ (List.mem_of_getElem? (i := 15) (by decide +kernel))) (by decide +kernel), iniX8, (gt_at (.code yX8_find cX8_find 6 (some .int)) 1231 (by decide +kernel) (by decide +kernel)), by decide +kernel, by decide +kernel, by decide +kernel⟩
theorem okX8_atHead : okV mX8_atHead 2 := ⟨rfl, gt_at (.instanceMethod yX8_atHead) 1226 (by decide +kernel) (by decide +kernel), gt_in (List.mem_append_left _ (List.mem_of_getElem? (i := 14) (by decide +kernel))) (by decide +kernel), iniX8, (gt_at (.code yX8_atHead cX8_atHead 3 (some .int)) 1227 (by decide +kernel) (by decide +kernel)), by decide +kernel, by decide +kernel, by decide +kernel⟩
theorem okX8_isLast : okV mX8_isLast 1 := ⟨rfl, gt_at (.instanceMethod yX8_isLast) 1237 (by decide +kernel) (by decide +kernel), gt_in (List.mem_append_left _ (List.mem_of_getElem? (i := 16) (by decide +kernel))) (by decide +kernel), iniX8, (gt_at (.code yX8_isLast cX8_isLast 2 (some .boolean)) 1238 (by decide +kernel) (by decide +kernel)), by decide +kernel, by decide +kernel, by decide +kernel⟩
theorem okX8_schema : okV mX8_schema 0 := ⟨rfl, gt_at (.instanceMethod yX8_schema) 1200 (by decide +kernel) (by decide +kernel), gt_at (.selects RX8 yX8_schema yX8_schema) 1201 (by decide +kernel) (by decide +kernel), iniX8, (gt_at (.code yX8_schema cX8_schema 1 (some .int)) 1202 (by decide +kernel) (by decide +kernel)), by decide +kernel, by decide +kernel, by decide +kernel⟩
theorem okX8_begins : okV mX8_begins 2 := ⟨rfl, gt_at (.instanceMethod yX8_begins) 1241 (by decide +kernel) (by decide +kernel), gt_in (List.mem_append_left _ (List.mem_of_getElem? (i := 17) (by decide +kernel))) (by decide +kernel), iniX8, (gt_at (.code yX8_begins cX8_begins 5 (some .int)) 1242 (by decide +kernel) (by decide +kernel)), by decide +kernel, by decide +kernel, by decide +kernel⟩
theorem okX8_makes : okV mX8_makes 5 := ⟨rfl, gt_at (.instanceMethod yX8_makes) 1245 (by decide +kernel) (by decide +kernel), gt_in (List.mem_append_left _ (List.mem_of_getElem? (i := 18) (by decide +kernel))) (by decide +kernel), iniX8, (gt_at (.code yX8_makes cX8_makes 7 (some .int)) 1246 (by decide +kernel) (by decide +kernel)), by decide +kernel, by decide +kernel, by decide +kernel⟩
theorem okX8_ends : okV mX8_ends 2 := ⟨rfl, gt_at (.instanceMethod yX8_ends) 1261 (by decide +kernel) (by decide +kernel), gt_in (List.mem_append_left _ (List.mem_of_getElem? (i := 20) (by decide +kernel))) (by decide +kernel), iniX8, (gt_at (.code yX8_ends cX8_ends 3 (none)) 1262 (by decide +kernel) (by decide +kernel)), by decide +kernel, by decide +kernel, by decide +kernel⟩
theorem okX8_add : okV mX8_add 5 := ⟨rfl, gt_at (.instanceMethod yX8_add) 1208 (by decide +kernel) (by decide +kernel), gt_at (.selects RX8 yX8_add yX8_add) 1209 (by decide +kernel) (by decide +kernel), iniX8, (gt_at (.code yX8_add cX8_add 9 (some .int)) 1210 (by decide +kernel) (by decide +kernel)), by decide +kernel, by decide +kernel, by decide +kernel⟩
theorem okX8_rename : okV mX8_rename 3 := ⟨rfl, gt_at (.instanceMethod yX8_rename) 1248 (by decide +kernel) (by decide +kernel), gt_at (.selects RX8 yX8_rename yX8_rename) 1249 (by decide +kernel) (by decide +kernel), iniX8, (gt_at (.code yX8_rename cX8_rename 6 (some .int)) 1250 (by decide +kernel) (by decide +kernel)), by decide +kernel, by decide +kernel, by decide +kernel⟩
theorem okX8_isWaiting : okV mX8_isWaiting 2 := ⟨rfl, gt_at (.instanceMethod yX8_isWaiting) 1257 (by decide +kernel) (by decide +kernel), gt_in (List.mem_append_left _ (List.mem_of_getElem? (i := 19) (by decide +kernel))) (by decide +kernel), iniX8, (gt_at (.code yX8_isWaiting cX8_isWaiting 5 (some .boolean)) 1258 (by decide +kernel) (by decide +kernel)), by decide +kernel, by decide +kernel, by decide +kernel⟩
theorem okX8_turned : okS mX8_turned 3 := ⟨rfl, gt_at (.static yX8_turned) 1264 (by decide +kernel) (by decide +kernel), iniX8, (gt_at (.code yX8_turned cX8_turned 3 (some .int)) 1265 (by decide +kernel) (by decide +kernel)), by decide +kernel, by decide +kernel, by decide +kernel⟩
theorem okX8_turn : okV mX8_turn 3 := ⟨rfl, gt_at (.instanceMethod yX8_turn) 1252 (by decide +kernel) (by decide +kernel), gt_at (.selects RX8 yX8_turn yX8_turn) 1253 (by decide +kernel) (by decide +kernel), iniX8, (gt_at (.code yX8_turn cX8_turn 9 (some .int)) 1254 (by decide +kernel) (by decide +kernel)), by decide +kernel, by decide +kernel, by decide +kernel⟩
theorem okX8_isFree : okV mX8_isFree 2 := ⟨rfl, gt_at (.instanceMethod yX8_isFree) 1272 (by decide +kernel) (by decide +kernel), gt_in (List.mem_append_left _ (List.mem_of_getElem? (i := 21) (by decide +kernel))) (by decide +kernel), iniX8, (gt_at (.code yX8_isFree cX8_isFree 3 (some .boolean)) 1273 (by decide +kernel) (by decide +kernel)), by decide +kernel, by decide +kernel, by decide +kernel⟩
theorem okX8_isOther : okV mX8_isOther 2 := ⟨rfl, gt_at (.instanceMethod yX8_isOther) 1276 (by decide +kernel) (by decide +kernel), gt_in (List.mem_append_left _ (List.mem_of_getElem? (i := 22) (by decide +kernel))) (by decide +kernel), iniX8, (gt_at (.code yX8_isOther cX8_isOther 3 (some .boolean)) 1277 (by decide +kernel) (by decide +kernel)), by decide +kernel, by decide +kernel, by decide +kernel⟩
theorem okX8_split : okV mX8_split 5 := ⟨rfl, gt_at (.instanceMethod yX8_split) 1267 (by decide +kernel) (by decide +kernel), gt_at (.selects RX8 yX8_split yX8_split) 1268 (by decide +kernel) (by decide +kernel), iniX8, (gt_at (.code yX8_split cX8_split 12 (some .int)) 1269 (by decide +kernel) (by decide +kernel)), by decide +kernel, by decide +kernel, by decide +kernel⟩
theorem okX8_joined : okS mX8_joined 3 := ⟨rfl, gt_at (.static yX8_joined) 1283 (by decide +kernel) (by decide +kernel), iniX8, (gt_at (.code yX8_joined cX8_joined 4 (some .int)) 1284 (by decide +kernel) (by decide +kernel)), by decide +kernel, by decide +kernel, by decide +kernel⟩
theorem okX8_join : okV mX8_join 5 := ⟨rfl, gt_at (.instanceMethod yX8_join) 1279 (by decide +kernel) (by decide +kernel), gt_at (.selects RX8 yX8_join yX8_join) 1280 (by decide +kernel) (by decide +kernel), iniX8, (gt_at (.code yX8_join cX8_join 14 (some .int)) 1281 (by decide +kernel) (by decide +kernel)), by decide +kernel, by decide +kernel, by decide +kernel⟩
theorem okX8_toggleNeed : okV mX8_toggleNeed 2 := ⟨rfl, gt_at (.instanceMethod yX8_toggleNeed) 1286 (by decide +kernel) (by decide +kernel), gt_at (.selects RX8 yX8_toggleNeed yX8_toggleNeed) 1287 (by decide +kernel) (by decide +kernel), iniX8, (gt_at (.code yX8_toggleNeed cX8_toggleNeed 6 (some .boolean)) 1288 (by decide +kernel) (by decide +kernel)), by decide +kernel, by decide +kernel, by decide +kernel⟩
theorem okX8_traces : okV mX8_traces 3 := ⟨rfl, gt_at (.instanceMethod yX8_traces) 1357 (by decide +kernel) (by decide +kernel), gt_in (List.mem_append_left _ (List.mem_of_getElem? (i := 32) (by decide +kernel))) (by decide +kernel), iniX8, (gt_at (.code yX8_traces cX8_traces 5 (none)) 1358 (by decide +kernel) (by decide +kernel)), by decide +kernel, by decide +kernel, by decide +kernel⟩
theorem okX8_follows : okV mX8_follows 2 := ⟨rfl, gt_at (.instanceMethod yX8_follows) 1303 (by decide +kernel) (by decide +kernel), gt_in (List.mem_append_left _ (List.mem_of_getElem? (i := 25) (by decide +kernel))) (by decide +kernel), iniX8, (gt_at (.code yX8_follows cX8_follows 8 (none)) 1304 (by decide +kernel) (by decide +kernel)), by decide +kernel, by decide +kernel, by decide +kernel⟩
theorem okX8_tracesOf : okV mX8_tracesOf 2 := ⟨rfl, gt_at (.instanceMethod yX8_tracesOf) 1299 (by decide +kernel) (by decide +kernel), gt_in (List.mem_append_left _ (List.mem_of_getElem? (i := 24) (by decide +kernel))) (by decide +kernel), iniX8, (gt_at (.code yX8_tracesOf cX8_tracesOf 4 (none)) 1300 (by decide +kernel) (by decide +kernel)), by decide +kernel, by decide +kernel, by decide +kernel⟩
theorem okX8_isHeldUp : okV mX8_isHeldUp 2 := ⟨rfl, gt_at (.instanceMethod yX8_isHeldUp) 1295 (by decide +kernel) (by decide +kernel), gt_in (List.mem_append_left _ (List.mem_of_getElem? (i := 23) (by decide +kernel))) (by decide +kernel), iniX8, (gt_at (.code yX8_isHeldUp cX8_isHeldUp 5 (some .boolean)) 1296 (by decide +kernel) (by decide +kernel)), by decide +kernel, by decide +kernel, by decide +kernel⟩
theorem okX8_dropsOut : okV mX8_dropsOut 2 := ⟨rfl, gt_at (.instanceMethod yX8_dropsOut) 1307 (by decide +kernel) (by decide +kernel), gt_in (List.mem_append_left _ (List.mem_of_getElem? (i := 26) (by decide +kernel))) (by decide +kernel), iniX8, (gt_at (.code yX8_dropsOut cX8_dropsOut 4 (none)) 1308 (by decide +kernel) (by decide +kernel)), by decide +kernel, by decide +kernel, by decide +kernel⟩
theorem okX8_drop : okV mX8_drop 2 := ⟨rfl, gt_at (.instanceMethod yX8_drop) 1290 (by decide +kernel) (by decide +kernel), gt_at (.selects RX8 yX8_drop yX8_drop) 1291 (by decide +kernel) (by decide +kernel), iniX8, (gt_at (.code yX8_drop cX8_drop 5 (some .boolean)) 1292 (by decide +kernel) (by decide +kernel)), by decide +kernel, by decide +kernel, by decide +kernel⟩
theorem okX8_looksAtDrops : okV mX8_looksAtDrops 1 := ⟨rfl, gt_at (.instanceMethod yX8_looksAtDrops) 1373 (by decide +kernel) (by decide +kernel), gt_in (List.mem_append_left _ (List.mem_of_getElem? (i := 35) (by decide +kernel))) (by decide +kernel), iniX8, (gt_at (.code yX8_looksAtDrops cX8_looksAtDrops 6 (some .int)) 1374 (by decide +kernel) (by decide +kernel)), by decide +kernel, by decide +kernel, by decide +kernel⟩
theorem okX8_head : okV mX8_head 1 := ⟨rfl, gt_at (.instanceMethod yX8_head) 1310 (by decide +kernel) (by decide +kernel), gt_at (.selects RX8 yX8_head yX8_head) 1311 (by decide +kernel) (by decide +kernel), iniX8, (gt_at (.code yX8_head cX8_head 2 (some .int)) 1312 (by decide +kernel) (by decide +kernel)), by decide +kernel, by decide +kernel, by decide +kernel⟩
theorem okX8_isVersion : okV mX8_isVersion 2 := ⟨rfl, gt_at (.instanceMethod yX8_isVersion) 1319 (by decide +kernel) (by decide +kernel), gt_in (List.mem_append_left _ (List.mem_of_getElem? (i := 27) (by decide +kernel))) (by decide +kernel), iniX8, (gt_at (.code yX8_isVersion cX8_isVersion 3 (some .boolean)) 1320 (by decide +kernel) (by decide +kernel)), by decide +kernel, by decide +kernel, by decide +kernel⟩
theorem okX8_field : okV mX8_field 3 := ⟨rfl, gt_at (.instanceMethod yX8_field) 1314 (by decide +kernel) (by decide +kernel), gt_at (.selects RX8 yX8_field yX8_field) 1315 (by decide +kernel) (by decide +kernel), iniX8, (gt_at (.code yX8_field cX8_field 6 (some .int)) 1316 (by decide +kernel) (by decide +kernel)), by decide +kernel, by decide +kernel, by decide +kernel⟩
theorem okX8_letter : okS mX8_letter 2 := ⟨rfl, gt_at (.static yX8_letter) 1333 (by decide +kernel) (by decide +kernel), iniX8, (gt_at (.code yX8_letter cX8_letter 2 (some .char)) 1334 (by decide +kernel) (by decide +kernel)), by decide +kernel, by decide +kernel, by decide +kernel⟩
theorem okX8_length : okS mX8_length 1 := ⟨rfl, gt_at (.static yX8_length) 1330 (by decide +kernel) (by decide +kernel), iniX8, (gt_at (.code yX8_length cX8_length 1 (some .int)) 1331 (by decide +kernel) (by decide +kernel)), by decide +kernel, by decide +kernel, by decide +kernel⟩
theorem okX8_sign : okV mX8_sign 3 := ⟨rfl, gt_at (.instanceMethod yX8_sign) 1327 (by decide +kernel) (by decide +kernel), gt_in (List.mem_append_left _ (List.mem_of_getElem? (i := 28) (by decide +kernel))) (by decide +kernel), iniX8, (gt_at (.code yX8_sign cX8_sign 8 (some .int)) 1328 (by decide +kernel) (by decide +kernel)), by decide +kernel, by decide +kernel, by decide +kernel⟩
theorem okX8_text : okV mX8_text 3 := ⟨rfl, gt_at (.instanceMethod yX8_text) 1322 (by decide +kernel) (by decide +kernel), gt_at (.selects RX8 yX8_text yX8_text) 1323 (by decide +kernel) (by decide +kernel), iniX8, (gt_at (.code yX8_text cX8_text 5 (some .char)) 1324 (by decide +kernel) (by decide +kernel)), by decide +kernel, by decide +kernel, by decide +kernel⟩
theorem okX8_form : okV mX8_form 1 := ⟨rfl, gt_at (.instanceMethod yX8_form) 1336 (by decide +kernel) (by decide +kernel), gt_at (.selects RX8 yX8_form yX8_form) 1337 (by decide +kernel) (by decide +kernel), iniX8, (gt_at (.code yX8_form cX8_form 3 (some .int)) 1338 (by decide +kernel) (by decide +kernel)), by decide +kernel, by decide +kernel, by decide +kernel⟩
theorem okX8_isForm : okV mX8_isForm 1 := ⟨rfl, gt_at (.instanceMethod yX8_isForm) 1349 (by decide +kernel) (by decide +kernel), gt_in (List.mem_append_left _ (List.mem_of_getElem? (i := 30) (by decide +kernel))) (by decide +kernel), iniX8, (gt_at (.code yX8_isForm cX8_isForm 2 (some .boolean)) 1350 (by decide +kernel) (by decide +kernel)), by decide +kernel, by decide +kernel, by decide +kernel⟩
theorem okX8_inForm : okV mX8_inForm 2 := ⟨rfl, gt_at (.instanceMethod yX8_inForm) 1345 (by decide +kernel) (by decide +kernel), gt_in (List.mem_append_left _ (List.mem_of_getElem? (i := 29) (by decide +kernel))) (by decide +kernel), iniX8, (gt_at (.code yX8_inForm cX8_inForm 3 (some .int)) 1346 (by decide +kernel) (by decide +kernel)), by decide +kernel, by decide +kernel, by decide +kernel⟩
theorem okX8_held : okV mX8_held 1 := ⟨rfl, gt_at (.instanceMethod yX8_held) 1361 (by decide +kernel) (by decide +kernel), gt_in (List.mem_append_left _ (List.mem_of_getElem? (i := 33) (by decide +kernel))) (by decide +kernel), iniX8, (gt_at (.code yX8_held cX8_held 4 (some .int)) 1362 (by decide +kernel) (by decide +kernel)), by decide +kernel, by decide +kernel, by decide +kernel⟩
theorem okX8_canTake : okV mX8_canTake 2 := ⟨rfl, gt_at (.instanceMethod yX8_canTake) 1353 (by decide +kernel) (by decide +kernel), gt_in (List.mem_append_left _ (List.mem_of_getElem? (i := 31) (by decide +kernel))) (by decide +kernel), iniX8, (gt_at (.code yX8_canTake cX8_canTake 7 (some .boolean)) 1354 (by decide +kernel) (by decide +kernel)), by decide +kernel, by decide +kernel, by decide +kernel⟩
theorem okX8_take : okV mX8_take 3 := ⟨rfl, gt_at (.instanceMethod yX8_take) 1340 (by decide +kernel) (by decide +kernel), gt_at (.selects RX8 yX8_take yX8_take) 1341 (by decide +kernel) (by decide +kernel), iniX8, (gt_at (.code yX8_take cX8_take 5 (some .int)) 1342 (by decide +kernel) (by decide +kernel)), by decide +kernel, by decide +kernel, by decide +kernel⟩
theorem okX8_isHeld : okV mX8_isHeld 2 := ⟨rfl, gt_at (.instanceMethod yX8_isHeld) 1369 (by decide +kernel) (by decide +kernel), gt_in (List.mem_append_left _ (List.mem_of_getElem? (i := 34) (by decide +kernel))) (by decide +kernel), iniX8, (gt_at (.code yX8_isHeld cX8_isHeld 3 (some .boolean)) 1370 (by decide +kernel) (by decide +kernel)), by decide +kernel, by decide +kernel, by decide +kernel⟩
theorem okX8_letGo : okV mX8_letGo 2 := ⟨rfl, gt_at (.instanceMethod yX8_letGo) 1364 (by decide +kernel) (by decide +kernel), gt_at (.selects RX8 yX8_letGo yX8_letGo) 1365 (by decide +kernel) (by decide +kernel), iniX8, (gt_at (.code yX8_letGo cX8_letGo 4 (some .int)) 1366 (by decide +kernel) (by decide +kernel)), by decide +kernel, by decide +kernel, by decide +kernel⟩
theorem okX8_retire : okV mX8_retire 1 := ⟨rfl, gt_at (.instanceMethod yX8_retire) 1376 (by decide +kernel) (by decide +kernel), gt_at (.selects RX8 yX8_retire yX8_retire) 1377 (by decide +kernel) (by decide +kernel), iniX8, (gt_at (.code yX8_retire cX8_retire 4 (some .int)) 1378 (by decide +kernel) (by decide +kernel)), by decide +kernel, by decide +kernel, by decide +kernel⟩
theorem okX8_renew : okV mX8_renew 1 := ⟨rfl, gt_at (.instanceMethod yX8_renew) 1380 (by decide +kernel) (by decide +kernel), gt_at (.selects RX8 yX8_renew yX8_renew) 1381 (by decide +kernel) (by decide +kernel), iniX8, (gt_at (.code yX8_renew cX8_renew 4 (some .int)) 1382 (by decide +kernel) (by decide +kernel)), by decide +kernel, by decide +kernel, by decide +kernel⟩
theorem okX8_front : okV mX8_front 2 := ⟨rfl, gt_at (.instanceMethod yX8_front) 1413 (by decide +kernel) (by decide +kernel), gt_in (List.mem_append_left _ (List.mem_of_getElem? (i := 42) (by decide +kernel))) (by decide +kernel), iniX8, (gt_at (.code yX8_front cX8_front 3 (some .int)) 1414 (by decide +kernel) (by decide +kernel)), by decide +kernel, by decide +kernel, by decide +kernel⟩
theorem okX8_behind : okV mX8_behind 2 := ⟨rfl, gt_at (.instanceMethod yX8_behind) 1417 (by decide +kernel) (by decide +kernel), gt_in (List.mem_append_left _ (List.mem_of_getElem? (i := 43) (by decide +kernel))) (by decide +kernel), iniX8, (gt_at (.code yX8_behind cX8_behind 3 (some .int)) 1418 (by decide +kernel) (by decide +kernel)), by decide +kernel, by decide +kernel, by decide +kernel⟩
theorem okX8_needed : okV mX8_needed 4 := ⟨rfl, gt_at (.instanceMethod yX8_needed) 1433 (by decide +kernel) (by decide +kernel), gt_in (List.mem_append_left _ (List.mem_of_getElem? (i := 47) (by decide +kernel))) (by decide +kernel), iniX8, (gt_at (.code yX8_needed cX8_needed 5 (some .int)) 1434 (by decide +kernel) (by decide +kernel)), by decide +kernel, by decide +kernel, by decide +kernel⟩
theorem okX8_kindOf : okV mX8_kindOf 2 := ⟨rfl, gt_at (.instanceMethod yX8_kindOf) 1429 (by decide +kernel) (by decide +kernel), gt_in (List.mem_append_left _ (List.mem_of_getElem? (i := 46) (by decide +kernel))) (by decide +kernel), iniX8, (gt_at (.code yX8_kindOf cX8_kindOf 3 (some .int)) 1430 (by decide +kernel) (by decide +kernel)), by decide +kernel, by decide +kernel, by decide +kernel⟩
theorem okX8_up : okV mX8_up 4 := ⟨rfl, gt_at (.instanceMethod yX8_up) 1425 (by decide +kernel) (by decide +kernel), gt_in (List.mem_append_left _ (List.mem_of_getElem? (i := 45) (by decide +kernel))) (by decide +kernel), iniX8, (gt_at (.code yX8_up cX8_up 8 (none)) 1426 (by decide +kernel) (by decide +kernel)), by decide +kernel, by decide +kernel, by decide +kernel⟩
theorem okX8_down : okV mX8_down 4 := ⟨rfl, gt_at (.instanceMethod yX8_down) 1437 (by decide +kernel) (by decide +kernel), gt_in (List.mem_append_left _ (List.mem_of_getElem? (i := 48) (by decide +kernel))) (by decide +kernel), iniX8, (gt_at (.code yX8_down cX8_down 8 (none)) 1438 (by decide +kernel) (by decide +kernel)), by decide +kernel, by decide +kernel, by decide +kernel⟩
theorem okX8_goes : okV mX8_goes 5 := ⟨rfl, gt_at (.instanceMethod yX8_goes) 1421 (by decide +kernel) (by decide +kernel), gt_in (List.mem_append_left _ (List.mem_of_getElem? (i := 44) (by decide +kernel))) (by decide +kernel), iniX8, (gt_at (.code yX8_goes cX8_goes 6 (none)) 1422 (by decide +kernel) (by decide +kernel)), by decide +kernel, by decide +kernel, by decide +kernel⟩
theorem okX8_onSide : okV mX8_onSide 3 := ⟨rfl, gt_at (.instanceMethod yX8_onSide) 1409 (by decide +kernel) (by decide +kernel), gt_in (List.mem_append_left _ (List.mem_of_getElem? (i := 41) (by decide +kernel))) (by decide +kernel), iniX8, (gt_at (.code yX8_onSide cX8_onSide 4 (some .int)) 1410 (by decide +kernel) (by decide +kernel)), by decide +kernel, by decide +kernel, by decide +kernel⟩
theorem okX8_moves : okV mX8_moves 3 := ⟨rfl, gt_at (.instanceMethod yX8_moves) 1405 (by decide +kernel) (by decide +kernel), gt_in (List.mem_append_left _ (List.mem_of_getElem? (i := 40) (by decide +kernel))) (by decide +kernel), iniX8, (gt_at (.code yX8_moves cX8_moves 9 (none)) 1406 (by decide +kernel) (by decide +kernel)), by decide +kernel, by decide +kernel, by decide +kernel⟩
theorem okX8_movesTo : okV mX8_movesTo 2 := ⟨rfl, gt_at (.instanceMethod yX8_movesTo) 1401 (by decide +kernel) (by decide +kernel), gt_in (List.mem_append_left _ (List.mem_of_getElem? (i := 39) (by decide +kernel))) (by decide +kernel), iniX8, (gt_at (.code yX8_movesTo cX8_movesTo 3 (none)) 1402 (by decide +kernel) (by decide +kernel)), by decide +kernel, by decide +kernel, by decide +kernel⟩
theorem okX8_copies : okV mX8_copies 2 := ⟨rfl, gt_at (.instanceMethod yX8_copies) 1397 (by decide +kernel) (by decide +kernel), gt_in (List.mem_append_left _ (List.mem_of_getElem? (i := 38) (by decide +kernel))) (by decide +kernel), iniX8, (gt_at (.code yX8_copies cX8_copies 4 (none)) 1398 (by decide +kernel) (by decide +kernel)), by decide +kernel, by decide +kernel, by decide +kernel⟩
theorem okX8_sees : okV mX8_sees 2 := ⟨rfl, gt_at (.instanceMethod yX8_sees) 1393 (by decide +kernel) (by decide +kernel), gt_in (List.mem_append_left _ (List.mem_of_getElem? (i := 37) (by decide +kernel))) (by decide +kernel), iniX8, (gt_at (.code yX8_sees cX8_sees 3 (none)) 1394 (by decide +kernel) (by decide +kernel)), by decide +kernel, by decide +kernel, by decide +kernel⟩
theorem okX8_counts : okV mX8_counts 1 := ⟨rfl, gt_at (.instanceMethod yX8_counts) 1445 (by decide +kernel) (by decide +kernel), gt_in (List.mem_append_left _ (List.mem_of_getElem? (i := 49) (by decide +kernel))) (by decide +kernel), iniX8, (gt_at (.code yX8_counts cX8_counts 2 (none)) 1446 (by decide +kernel) (by decide +kernel)), by decide +kernel, by decide +kernel, by decide +kernel⟩
theorem okX8_isRow : okV mX8_isRow 1 := ⟨rfl, gt_at (.instanceMethod yX8_isRow) 1389 (by decide +kernel) (by decide +kernel), gt_in (List.mem_append_left _ (List.mem_of_getElem? (i := 36) (by decide +kernel))) (by decide +kernel), iniX8, (gt_at (.code yX8_isRow cX8_isRow 2 (some .boolean)) 1390 (by decide +kernel) (by decide +kernel)), by decide +kernel, by decide +kernel, by decide +kernel⟩
theorem okX8_read : okV mX8_read 3 := ⟨rfl, gt_at (.instanceMethod yX8_read) 1384 (by decide +kernel) (by decide +kernel), gt_at (.selects RX8 yX8_read yX8_read) 1385 (by decide +kernel) (by decide +kernel), iniX8, (gt_at (.code yX8_read cX8_read 6 (some .int)) 1386 (by decide +kernel) (by decide +kernel)), by decide +kernel, by decide +kernel, by decide +kernel⟩
theorem okX8_write : okV mX8_write 4 := ⟨rfl, gt_at (.instanceMethod yX8_write) 1440 (by decide +kernel) (by decide +kernel), gt_at (.selects RX8 yX8_write yX8_write) 1441 (by decide +kernel) (by decide +kernel), iniX8, (gt_at (.code yX8_write cX8_write 10 (some .int)) 1442 (by decide +kernel) (by decide +kernel)), by decide +kernel, by decide +kernel, by decide +kernel⟩
theorem okX8_row : okV mX8_row 2 := ⟨rfl, gt_at (.instanceMethod yX8_row) 1448 (by decide +kernel) (by decide +kernel), gt_at (.selects RX8 yX8_row yX8_row) 1449 (by decide +kernel) (by decide +kernel), iniX8, (gt_at (.code yX8_row cX8_row 6 (some .int)) 1450 (by decide +kernel) (by decide +kernel)), by decide +kernel, by decide +kernel, by decide +kernel⟩
theorem okX8_inRow : okV mX8_inRow 2 := ⟨rfl, gt_at (.instanceMethod yX8_inRow) 1457 (by decide +kernel) (by decide +kernel), gt_in (List.mem_append_left _ (List.mem_of_getElem? (i := 50) (by decide +kernel))) (by decide +kernel), iniX8, (gt_at (.code yX8_inRow cX8_inRow 3 (some .int)) 1458 (by decide +kernel) (by decide +kernel)), by decide +kernel, by decide +kernel, by decide +kernel⟩
theorem okX8_set : okV mX8_set 3 := ⟨rfl, gt_at (.instanceMethod yX8_set) 1452 (by decide +kernel) (by decide +kernel), gt_at (.selects RX8 yX8_set yX8_set) 1453 (by decide +kernel) (by decide +kernel), iniX8, (gt_at (.code yX8_set cX8_set 8 (some .int)) 1454 (by decide +kernel) (by decide +kernel)), by decide +kernel, by decide +kernel, by decide +kernel⟩
theorem okX8_value : okV mX8_value 3 := ⟨rfl, gt_at (.instanceMethod yX8_value) 1460 (by decide +kernel) (by decide +kernel), gt_at (.selects RX8 yX8_value yX8_value) 1461 (by decide +kernel) (by decide +kernel), iniX8, (gt_at (.code yX8_value cX8_value 5 (some .int)) 1462 (by decide +kernel) (by decide +kernel)), by decide +kernel, by decide +kernel, by decide +kernel⟩
theorem okX8_replayed : okV mX8_replayed 2 := ⟨rfl, gt_at (.instanceMethod yX8_replayed) 1464 (by decide +kernel) (by decide +kernel), gt_at (.selects RX8 yX8_replayed yX8_replayed) 1465 (by decide +kernel) (by decide +kernel), iniX8, (gt_at (.code yX8_replayed cX8_replayed 4 (some .int)) 1466 (by decide +kernel) (by decide +kernel)), by decide +kernel, by decide +kernel, by decide +kernel⟩
theorem okX8_standing : okV mX8_standing 1 := ⟨rfl, gt_at (.instanceMethod yX8_standing) 1468 (by decide +kernel) (by decide +kernel), gt_at (.selects RX8 yX8_standing yX8_standing) 1469 (by decide +kernel) (by decide +kernel), iniX8, (gt_at (.code yX8_standing cX8_standing 4 (some .int)) 1470 (by decide +kernel) (by decide +kernel)), by decide +kernel, by decide +kernel, by decide +kernel⟩
theorem okX8_mover : okV mX8_mover 2 := ⟨rfl, gt_at (.instanceMethod yX8_mover) 1472 (by decide +kernel) (by decide +kernel), gt_at (.selects RX8 yX8_mover yX8_mover) 1473 (by decide +kernel) (by decide +kernel), iniX8, (gt_at (.code yX8_mover cX8_mover 4 (some .int)) 1474 (by decide +kernel) (by decide +kernel)), by decide +kernel, by decide +kernel, by decide +kernel⟩
theorem okX8_isMover : okV mX8_isMover 1 := ⟨rfl, gt_at (.instanceMethod yX8_isMover) 1481 (by decide +kernel) (by decide +kernel), gt_in (List.mem_append_left _ (List.mem_of_getElem? (i := 51) (by decide +kernel))) (by decide +kernel), iniX8, (gt_at (.code yX8_isMover cX8_isMover 2 (some .boolean)) 1482 (by decide +kernel) (by decide +kernel)), by decide +kernel, by decide +kernel, by decide +kernel⟩
theorem okX8_off : okV mX8_off 2 := ⟨rfl, gt_at (.instanceMethod yX8_off) 1489 (by decide +kernel) (by decide +kernel), gt_in (List.mem_append_left _ (List.mem_of_getElem? (i := 53) (by decide +kernel))) (by decide +kernel), iniX8, (gt_at (.code yX8_off cX8_off 4 (some .int)) 1490 (by decide +kernel) (by decide +kernel)), by decide +kernel, by decide +kernel, by decide +kernel⟩
theorem okX8_nextRow : okV mX8_nextRow 1 := ⟨rfl, gt_at (.instanceMethod yX8_nextRow) 1485 (by decide +kernel) (by decide +kernel), gt_in (List.mem_append_left _ (List.mem_of_getElem? (i := 52) (by decide +kernel))) (by decide +kernel), iniX8, (gt_at (.code yX8_nextRow cX8_nextRow 5 (some .int)) 1486 (by decide +kernel) (by decide +kernel)), by decide +kernel, by decide +kernel, by decide +kernel⟩
theorem okX8_step : okV mX8_step 1 := ⟨rfl, gt_at (.instanceMethod yX8_step) 1476 (by decide +kernel) (by decide +kernel), gt_at (.selects RX8 yX8_step yX8_step) 1477 (by decide +kernel) (by decide +kernel), iniX8, (gt_at (.code yX8_step cX8_step 9 (some .int)) 1478 (by decide +kernel) (by decide +kernel)), by decide +kernel, by decide +kernel, by decide +kernel⟩
theorem okX8_undo : okV mX8_undo 1 := ⟨rfl, gt_at (.instanceMethod yX8_undo) 1492 (by decide +kernel) (by decide +kernel), gt_at (.selects RX8 yX8_undo yX8_undo) 1493 (by decide +kernel) (by decide +kernel), iniX8, (gt_at (.code yX8_undo cX8_undo 9 (some .int)) 1494 (by decide +kernel) (by decide +kernel)), by decide +kernel, by decide +kernel, by decide +kernel⟩
theorem okX0_init : okI mX0_init 1 := ⟨rfl, rfl, rfl, gt_at (.instanceMethod yX0_init) 746 (by decide +kernel) (by decide +kernel), iniX0, (gt_at (.code yX0_init cX0_init 2 (none)) 747 (by decide +kernel) (by decide +kernel)), by decide +kernel, by decide +kernel, by decide +kernel⟩
theorem okX1_init : okI mX1_init 3 := ⟨rfl, rfl, rfl, gt_at (.instanceMethod yX1_init) 1005 (by decide +kernel) (by decide +kernel), iniX1, (gt_at (.code yX1_init cX1_init 4 (none)) 1006 (by decide +kernel) (by decide +kernel)), by decide +kernel, by decide +kernel, by decide +kernel⟩
theorem okX2_init : okI mX2_init 2 := ⟨rfl, rfl, rfl, gt_at (.instanceMethod yX2_init) 967 (by decide +kernel) (by decide +kernel), iniX2, (gt_at (.code yX2_init cX2_init 3 (none)) 968 (by decide +kernel) (by decide +kernel)), by decide +kernel, by decide +kernel, by decide +kernel⟩
theorem okX3_init : okI mX3_init 1 := ⟨rfl, rfl, rfl, gt_at (.instanceMethod yX3_init) 906 (by decide +kernel) (by decide +kernel), iniX3, (gt_at (.code yX3_init cX3_init 2 (none)) 907 (by decide +kernel) (by decide +kernel)), by decide +kernel, by decide +kernel, by decide +kernel⟩
theorem okX4_init : okI mX4_init 0 := ⟨rfl, rfl, rfl, gt_at (.instanceMethod yX4_init) 185 (by decide +kernel) (by decide +kernel), iniX4, (gt_at (.code yX4_init cX4_init 2 (none)) 186 (by decide +kernel) (by decide +kernel)), by decide +kernel, by decide +kernel, by decide +kernel⟩
theorem okX4_isVersion : okV mX4_isVersion 1 := ⟨rfl, gt_at (.instanceMethod yX4_isVersion) 298 (by decide +kernel) (by decide +kernel), gt_at (.selects RX4 yX4_isVersion yX4_isVersion) 299 (by decide +kernel) (by decide +kernel), iniX4, (gt_at (.code yX4_isVersion cX4_isVersion 2 (some .boolean)) 300 (by decide +kernel) (by decide +kernel)), by decide +kernel, by decide +kernel, by decide +kernel⟩
theorem okX4_isFull : okV mX4_isFull 0 := ⟨rfl, gt_at (.instanceMethod yX4_isFull) 303 (by decide +kernel) (by decide +kernel), gt_at (.selects RX4 yX4_isFull yX4_isFull) 304 (by decide +kernel) (by decide +kernel), iniX4, (gt_at (.code yX4_isFull cX4_isFull 1 (some .boolean)) 305 (by decide +kernel) (by decide +kernel)), by decide +kernel, by decide +kernel, by decide +kernel⟩
theorem okX4_isField : okV mX4_isField 1 := ⟨rfl, gt_at (.instanceMethod yX4_isField) 363 (by decide +kernel) (by decide +kernel), gt_in (List.mem_append_left _ (List.mem_of_getElem? (i := 2) (by decide +kernel))) (by decide +kernel), iniX4, (gt_at (.code yX4_isField cX4_isField 2 (some .boolean)) 364 (by decide +kernel) (by decide +kernel)), by decide +kernel, by decide +kernel, by decide +kernel⟩
theorem okX4_fieldNamed : okV mX4_fieldNamed 2 := ⟨rfl, gt_at (.instanceMethod yX4_fieldNamed) 294 (by decide +kernel) (by decide +kernel), gt_at (.selects RX4 yX4_fieldNamed yX4_fieldNamed) 295 (by decide +kernel) (by decide +kernel), iniX4, (gt_at (.code yX4_fieldNamed cX4_fieldNamed 3 (some .int)) 296 (by decide +kernel) (by decide +kernel)), by decide +kernel, by decide +kernel, by decide +kernel⟩
theorem okX4_nameOf : okV mX4_nameOf 2 := ⟨rfl, gt_at (.instanceMethod yX4_nameOf) 713 (by decide +kernel) (by decide +kernel), gt_at (.selects RX4 yX4_nameOf yX4_nameOf) 714 (by decide +kernel) (by decide +kernel), iniX4, (gt_at (.code yX4_nameOf cX4_nameOf 4 (some .int)) 715 (by decide +kernel) (by decide +kernel)), by decide +kernel, by decide +kernel, by decide +kernel⟩
theorem okX4_kindOf : okV mX4_kindOf 1 := ⟨rfl, gt_at (.instanceMethod yX4_kindOf) 399 (by decide +kernel) (by decide +kernel), gt_at (.selects RX4 yX4_kindOf yX4_kindOf) 400 (by decide +kernel) (by decide +kernel), iniX4, (gt_at (.code yX4_kindOf cX4_kindOf 2 (some .int)) 401 (by decide +kernel) (by decide +kernel)), by decide +kernel, by decide +kernel, by decide +kernel⟩
theorem okX4_defaultOf : okV mX4_defaultOf 1 := ⟨rfl, gt_at (.instanceMethod yX4_defaultOf) 412 (by decide +kernel) (by decide +kernel), gt_at (.selects RX4 yX4_defaultOf yX4_defaultOf) 413 (by decide +kernel) (by decide +kernel), iniX4, (gt_at (.code yX4_defaultOf cX4_defaultOf 2 (some .int)) 414 (by decide +kernel) (by decide +kernel)), by decide +kernel, by decide +kernel, by decide +kernel⟩
theorem okX4_isNeeded : okV mX4_isNeeded 2 := ⟨rfl, gt_at (.instanceMethod yX4_isNeeded) 383 (by decide +kernel) (by decide +kernel), gt_at (.selects RX4 yX4_isNeeded yX4_isNeeded) 384 (by decide +kernel) (by decide +kernel), iniX4, (gt_at (.code yX4_isNeeded cX4_isNeeded 3 (some .boolean)) 385 (by decide +kernel) (by decide +kernel)), by decide +kernel, by decide +kernel, by decide +kernel⟩
theorem okX4_stepTo : okV mX4_stepTo 1 := ⟨rfl, gt_at (.instanceMethod yX4_stepTo) 486 (by decide +kernel) (by decide +kernel), gt_at (.selects RX4 yX4_stepTo yX4_stepTo) 487 (by decide +kernel) (by decide +kernel), iniX4, (gt_at (.code yX4_stepTo cX4_stepTo 2 (some (.object "FieldMigrator$Step"))) 488 (by decide +kernel) (by decide +kernel)), by decide +kernel, by decide +kernel, by decide +kernel⟩
theorem okX4_isTakenByOther : okV mX4_isTakenByOther 3 := ⟨rfl, gt_at (.instanceMethod yX4_isTakenByOther) 430 (by decide +kernel) (by decide +kernel), gt_at (.selects RX4 yX4_isTakenByOther yX4_isTakenByOther) 431 (by decide +kernel) (by decide +kernel), iniX4, (gt_at (.code yX4_isTakenByOther cX4_isTakenByOther 5 (some .boolean)) 432 (by decide +kernel) (by decide +kernel)), by decide +kernel, by decide +kernel, by decide +kernel⟩
theorem okX4_isFreeNumber : okV mX4_isFreeNumber 1 := ⟨rfl, gt_at (.instanceMethod yX4_isFreeNumber) 435 (by decide +kernel) (by decide +kernel), gt_at (.selects RX4 yX4_isFreeNumber yX4_isFreeNumber) 436 (by decide +kernel) (by decide +kernel), iniX4, (gt_at (.code yX4_isFreeNumber cX4_isFreeNumber 2 (some .boolean)) 437 (by decide +kernel) (by decide +kernel)), by decide +kernel, by decide +kernel, by decide +kernel⟩
theorem okX4_makeField : okV mX4_makeField 2 := ⟨rfl, gt_at (.instanceMethod yX4_makeField) 308 (by decide +kernel) (by decide +kernel), gt_at (.selects RX4 yX4_makeField yX4_makeField) 309 (by decide +kernel) (by decide +kernel), iniX4, (gt_at (.code yX4_makeField cX4_makeField 4 (some .int)) 310 (by decide +kernel) (by decide +kernel)), by decide +kernel, by decide +kernel, by decide +kernel⟩
theorem okX4_extend : okV mX4_extend 1 := ⟨rfl, gt_at (.instanceMethod yX4_extend) 338 (by decide +kernel) (by decide +kernel), gt_at (.selects RX4 yX4_extend yX4_extend) 339 (by decide +kernel) (by decide +kernel), iniX4, (gt_at (.code yX4_extend cX4_extend 5 (none)) 340 (by decide +kernel) (by decide +kernel)), by decide +kernel, by decide +kernel, by decide +kernel⟩
theorem okX4_place : okV mX4_place 3 := ⟨rfl, gt_at (.instanceMethod yX4_place) 358 (by decide +kernel) (by decide +kernel), gt_at (.selects RX4 yX4_place yX4_place) 359 (by decide +kernel) (by decide +kernel), iniX4, (gt_at (.code yX4_place cX4_place 4 (none)) 360 (by decide +kernel) (by decide +kernel)), by decide +kernel, by decide +kernel, by decide +kernel⟩
theorem okX4_isWaiting : okV mX4_isWaiting 1 := ⟨rfl, gt_at (.instanceMethod yX4_isWaiting) 403 (by decide +kernel) (by decide +kernel), gt_at (.selects RX4 yX4_isWaiting yX4_isWaiting) 404 (by decide +kernel) (by decide +kernel), iniX4, (gt_at (.code yX4_isWaiting cX4_isWaiting 2 (some .boolean)) 405 (by decide +kernel) (by decide +kernel)), by decide +kernel, by decide +kernel, by decide +kernel⟩
theorem okX4_allWaiting : okV mX4_allWaiting 0 := ⟨rfl, gt_at (.instanceMethod yX4_allWaiting) 407 (by decide +kernel) (by decide +kernel), gt_at (.selects RX4 yX4_allWaiting yX4_allWaiting) 408 (by decide +kernel) (by decide +kernel), iniX4, (gt_at (.code yX4_allWaiting cX4_allWaiting 4 (some .long)) 409 (by decide +kernel) (by decide +kernel)), by decide +kernel, by decide +kernel, by decide +kernel⟩
theorem okX4_letWait : okV mX4_letWait 1 := ⟨rfl, gt_at (.instanceMethod yX4_letWait) 495 (by decide +kernel) (by decide +kernel), gt_at (.selects RX4 yX4_letWait yX4_letWait) 496 (by decide +kernel) (by decide +kernel), iniX4, (gt_at (.code yX4_letWait cX4_letWait 2 (none)) 497 (by decide +kernel) (by decide +kernel)), by decide +kernel, by decide +kernel, by decide +kernel⟩
theorem okX4_takeOff : okV mX4_takeOff 1 := ⟨rfl, gt_at (.instanceMethod yX4_takeOff) 499 (by decide +kernel) (by decide +kernel), gt_at (.selects RX4 yX4_takeOff yX4_takeOff) 500 (by decide +kernel) (by decide +kernel), iniX4, (gt_at (.code yX4_takeOff cX4_takeOff 2 (none)) 501 (by decide +kernel) (by decide +kernel)), by decide +kernel, by decide +kernel, by decide +kernel⟩
theorem okX4_takeOffWaiting : okV mX4_takeOffWaiting 1 := ⟨rfl, gt_at (.instanceMethod yX4_takeOffWaiting) 802 (by decide +kernel) (by decide +kernel), gt_at (.selects RX4 yX4_takeOffWaiting yX4_takeOffWaiting) 803 (by decide +kernel) (by decide +kernel), iniX4, (gt_at (.code yX4_takeOffWaiting cX4_takeOffWaiting 6 (some .int)) 804 (by decide +kernel) (by decide +kernel)), by decide +kernel, by decide +kernel, by decide +kernel⟩
theorem okX4_tracesOf : okV mX4_tracesOf 2 := ⟨rfl, gt_at (.instanceMethod yX4_tracesOf) 482 (by decide +kernel) (by decide +kernel), gt_at (.selects RX4 yX4_tracesOf yX4_tracesOf) 483 (by decide +kernel) (by decide +kernel), iniX4, (gt_at (.code yX4_tracesOf cX4_tracesOf 8 (some .long)) 484 (by decide +kernel) (by decide +kernel)), by decide +kernel, by decide +kernel, by decide +kernel⟩
theorem okX4_bring : okV mX4_bring 2 := ⟨rfl, gt_at (.instanceMethod yX4_bring) 845 (by decide +kernel) (by decide +kernel), gt_at (.selects RX4 yX4_bring yX4_bring) 846 (by decide +kernel) (by decide +kernel), iniX4, (gt_at (.code yX4_bring cX4_bring 4 (none)) 847 (by decide +kernel) (by decide +kernel)), by decide +kernel, by decide +kernel, by decide +kernel⟩
theorem okX4_carry : okV mX4_carry 2 := ⟨rfl, gt_at (.instanceMethod yX4_carry) 849 (by decide +kernel) (by decide +kernel), gt_at (.selects RX4 yX4_carry yX4_carry) 850 (by decide +kernel) (by decide +kernel), iniX4, (gt_at (.code yX4_carry cX4_carry 8 (none)) 851 (by decide +kernel) (by decide +kernel)), by decide +kernel, by decide +kernel, by decide +kernel⟩
theorem okX4_isSame : okS mX4_isSame 2 := ⟨rfl, gt_at (.static yX4_isSame) 875 (by decide +kernel) (by decide +kernel), iniX4, (gt_at (.code yX4_isSame cX4_isSame 2 (some .boolean)) 876 (by decide +kernel) (by decide +kernel)), by decide +kernel, by decide +kernel, by decide +kernel⟩
theorem okX4_tell : okV mX4_tell 4 := ⟨rfl, gt_at (.instanceMethod yX4_tell) 858 (by decide +kernel) (by decide +kernel), gt_in (List.mem_append_left _ (List.mem_of_getElem? (i := 7) (by decide +kernel))) (by decide +kernel), iniX4, (gt_at (.code yX4_tell cX4_tell 9 (none)) 859 (by decide +kernel) (by decide +kernel)), by decide +kernel, by decide +kernel, by decide +kernel⟩
theorem okX4_tellAlone : okV mX4_tellAlone 4 := ⟨rfl, gt_at (.instanceMethod yX4_tellAlone) 862 (by decide +kernel) (by decide +kernel), gt_in (List.mem_append_left _ (List.mem_of_getElem? (i := 8) (by decide +kernel))) (by decide +kernel), iniX4, (gt_at (.code yX4_tellAlone cX4_tellAlone 7 (none)) 863 (by decide +kernel) (by decide +kernel)), by decide +kernel, by decide +kernel, by decide +kernel⟩
theorem okX5_init : okI mX5_init 0 := ⟨rfl, rfl, rfl, gt_at (.instanceMethod yX5_init) 48 (by decide +kernel) (by decide +kernel), iniX5, (gt_at (.code yX5_init cX5_init 2 (none)) 49 (by decide +kernel) (by decide +kernel)), by decide +kernel, by decide +kernel, by decide +kernel⟩
theorem okX5_copyFrom : okV mX5_copyFrom 1 := ⟨rfl, gt_at (.instanceMethod yX5_copyFrom) 840 (by decide +kernel) (by decide +kernel), gt_at (.selects RX5 yX5_copyFrom yX5_copyFrom) 841 (by decide +kernel) (by decide +kernel), iniX5, (gt_at (.code yX5_copyFrom cX5_copyFrom 2 (none)) 842 (by decide +kernel) (by decide +kernel)), by decide +kernel, by decide +kernel, by decide +kernel⟩
theorem okX5_valueOf : okV mX5_valueOf 1 := ⟨rfl, gt_at (.instanceMethod yX5_valueOf) 853 (by decide +kernel) (by decide +kernel), gt_at (.selects RX5 yX5_valueOf yX5_valueOf) 854 (by decide +kernel) (by decide +kernel), iniX5, (gt_at (.code yX5_valueOf cX5_valueOf 2 (some .int)) 855 (by decide +kernel) (by decide +kernel)), by decide +kernel, by decide +kernel, by decide +kernel⟩
theorem okX5_put : okV mX5_put 2 := ⟨rfl, gt_at (.instanceMethod yX5_put) 882 (by decide +kernel) (by decide +kernel), gt_at (.selects RX5 yX5_put yX5_put) 883 (by decide +kernel) (by decide +kernel), iniX5, (gt_at (.code yX5_put cX5_put 3 (none)) 884 (by decide +kernel) (by decide +kernel)), by decide +kernel, by decide +kernel, by decide +kernel⟩
theorem okX5_boxEntries : okV mX5_boxEntries 0 := ⟨rfl, gt_at (.instanceMethod yX5_boxEntries) 954 (by decide +kernel) (by decide +kernel), gt_at (.selects RX5 yX5_boxEntries yX5_boxEntries) 955 (by decide +kernel) (by decide +kernel), iniX5, (gt_at (.code yX5_boxEntries cX5_boxEntries 3 (some .int)) 956 (by decide +kernel) (by decide +kernel)), by decide +kernel, by decide +kernel, by decide +kernel⟩
theorem okX5_takeOut : okV mX5_takeOut 3 := ⟨rfl, gt_at (.instanceMethod yX5_takeOut) 871 (by decide +kernel) (by decide +kernel), gt_at (.selects RX5 yX5_takeOut yX5_takeOut) 872 (by decide +kernel) (by decide +kernel), iniX5, (gt_at (.code yX5_takeOut cX5_takeOut 5 (some .boolean)) 873 (by decide +kernel) (by decide +kernel)), by decide +kernel, by decide +kernel, by decide +kernel⟩
theorem okX5_putAway : okV mX5_putAway 3 := ⟨rfl, gt_at (.instanceMethod yX5_putAway) 878 (by decide +kernel) (by decide +kernel), gt_at (.selects RX5 yX5_putAway yX5_putAway) 879 (by decide +kernel) (by decide +kernel), iniX5, (gt_at (.code yX5_putAway cX5_putAway 5 (none)) 880 (by decide +kernel) (by decide +kernel)), by decide +kernel, by decide +kernel, by decide +kernel⟩
theorem okX6_init : okI mX6_init 6 := ⟨rfl, rfl, rfl, gt_at (.instanceMethod yX6_init) 314 (by decide +kernel) (by decide +kernel), iniX6, (gt_at (.code yX6_init cX6_init 7 (none)) 315 (by decide +kernel) (by decide +kernel)), by decide +kernel, by decide +kernel, by decide +kernel⟩
theorem okX6_isInFront : okV mX6_isInFront 1 := ⟨rfl, gt_at (.instanceMethod yX6_isInFront) 343 (by decide +kernel) (by decide +kernel), gt_at (.selects RX6 yX6_isInFront yX6_isInFront) 344 (by decide +kernel) (by decide +kernel), iniX6, (gt_at (.code yX6_isInFront cX6_isInFront 2 (some .boolean)) 345 (by decide +kernel) (by decide +kernel)), by decide +kernel, by decide +kernel, by decide +kernel⟩
theorem okX6_frontFields : okV mX6_frontFields 0 := ⟨rfl, gt_at (.instanceMethod yX6_frontFields) 347 (by decide +kernel) (by decide +kernel), gt_at (.selects RX6 yX6_frontFields yX6_frontFields) 348 (by decide +kernel) (by decide +kernel), iniX6, (gt_at (.code yX6_frontFields cX6_frontFields 1 (some .long)) 349 (by decide +kernel) (by decide +kernel)), by decide +kernel, by decide +kernel, by decide +kernel⟩
theorem okX6_behindFields : okV mX6_behindFields 0 := ⟨rfl, gt_at (.instanceMethod yX6_behindFields) 490 (by decide +kernel) (by decide +kernel), gt_at (.selects RX6 yX6_behindFields yX6_behindFields) 491 (by decide +kernel) (by decide +kernel), iniX6, (gt_at (.code yX6_behindFields cX6_behindFields 1 (some .long)) 492 (by decide +kernel) (by decide +kernel)), by decide +kernel, by decide +kernel, by decide +kernel⟩
theorem okX6_together : okS mX6_together 1 := ⟨rfl, gt_at (.static yX6_together) 351 (by decide +kernel) (by decide +kernel), iniX6, (gt_at (.code yX6_together cX6_together 4 (some .long)) 352 (by decide +kernel) (by decide +kernel)), by decide +kernel, by decide +kernel, by decide +kernel⟩
theorem okTX7_50 : okT RX7 "java/lang/IllegalStateException" 50 54 := ⟨by decide +kernel, lkX7_50, gt_at _ 7 (by decide +kernel) (by decide +kernel), by decide +kernel, by decide +kernel⟩
theorem okTX7_70 : okT RX7 "java/lang/IllegalArgumentException" 70 74 := ⟨by decide +kernel, lkX7_70, gt_at _ 10 (by decide +kernel) (by decide +kernel), by decide +kernel, by decide +kernel⟩
theorem okTX7_186 : okT RX7 "java/lang/IndexOutOfBoundsException" 186 190 := ⟨by decide +kernel, lkX7_186, gt_at _ 9 (by decide +kernel) (by decide +kernel), by decide +kernel, by decide +kernel⟩
theorem strX7_52 : (RX7, 52, "there are 4 schemas") ∈ strs := List.mem_of_getElem? (i := 0) (by decide +kernel)
theorem strX7_405 : (RX7, 405, "no such schema") ∈ strs := List.mem_of_getElem? (i := 1) (by decide +kernel)
theorem strX7_72 : (RX7, 72, "name, kind or value is out of range") ∈ strs := List.mem_of_getElem? (i := 2) (by decide +kernel)
theorem strX7_86 : (RX7, 86, "the head has the name, or there are 24 versions") ∈ strs := List.mem_of_getElem? (i := 3) (by decide +kernel)
theorem strX7_413 : (RX7, 413, "no such version or field") ∈ strs := List.mem_of_getElem? (i := 4) (by decide +kernel)
theorem strX7_108 : (RX7, 108, "other is out of range") ∈ strs := List.mem_of_getElem? (i := 5) (by decide +kernel)
theorem strX7_110 : (RX7, 110, "the head has the other name, or there are 24 versions") ∈ strs := List.mem_of_getElem? (i := 6) (by decide +kernel)
theorem strX7_118 : (RX7, 118, "kind is out of range") ∈ strs := List.mem_of_getElem? (i := 7) (by decide +kernel)
theorem strX7_127 : (RX7, 127, "the kind is the same, the drop waits, or there are 24 versions") ∈ strs := List.mem_of_getElem? (i := 8) (by decide +kernel)
theorem strX7_139 : (RX7, 139, "first, second or divisor is out of range, or both are the same") ∈ strs := List.mem_of_getElem? (i := 9) (by decide +kernel)
theorem strX7_148 : (RX7, 148, "no number, a waiting drop, a name taken, or 24 versions") ∈ strs := List.mem_of_getElem? (i := 10) (by decide +kernel)
theorem strX7_156 : (RX7, 156, "name or factor is out of range, or both fields are the same") ∈ strs := List.mem_of_getElem? (i := 11) (by decide +kernel)
theorem strX7_161 : (RX7, 161, "there are 24 versions") ∈ strs := List.mem_of_getElem? (i := 12) (by decide +kernel)
theorem strX7_163 : (RX7, 163, "the drop waits, or there are 24 versions") ∈ strs := List.mem_of_getElem? (i := 13) (by decide +kernel)
theorem strX7_188 : (RX7, 188, "no such version") ∈ strs := List.mem_of_getElem? (i := 14) (by decide +kernel)
theorem strX7_191 : (RX7, 191, "name is out of range") ∈ strs := List.mem_of_getElem? (i := 15) (by decide +kernel)
theorem strX7_426 : (RX7, 426, "add") ∈ strs := List.mem_of_getElem? (i := 16) (by decide +kernel)
theorem strX7_428 : (RX7, 428, "rename") ∈ strs := List.mem_of_getElem? (i := 17) (by decide +kernel)
theorem strX7_430 : (RX7, 430, "turn") ∈ strs := List.mem_of_getElem? (i := 18) (by decide +kernel)
theorem strX7_432 : (RX7, 432, "split") ∈ strs := List.mem_of_getElem? (i := 19) (by decide +kernel)
theorem strX7_434 : (RX7, 434, "join") ∈ strs := List.mem_of_getElem? (i := 20) (by decide +kernel)
theorem strX7_436 : (RX7, 436, "drop") ∈ strs := List.mem_of_getElem? (i := 21) (by decide +kernel)
theorem strX7_438 : (RX7, 438, "need") ∈ strs := List.mem_of_getElem? (i := 22) (by decide +kernel)
theorem strX7_229 : (RX7, 229, "no such place") ∈ strs := List.mem_of_getElem? (i := 23) (by decide +kernel)
theorem strX7_238 : (RX7, 238, "there are 8 forms") ∈ strs := List.mem_of_getElem? (i := 24) (by decide +kernel)
theorem strX7_407 : (RX7, 407, "no such form") ∈ strs := List.mem_of_getElem? (i := 25) (by decide +kernel)
theorem strX7_254 : (RX7, 254, "no such field") ∈ strs := List.mem_of_getElem? (i := 26) (by decide +kernel)
theorem strX7_272 : (RX7, 272, "the form is retired, or the field is dropped or waits for it") ∈ strs := List.mem_of_getElem? (i := 27) (by decide +kernel)
theorem strX7_415 : (RX7, 415, "the form holds no such field") ∈ strs := List.mem_of_getElem? (i := 28) (by decide +kernel)
theorem strX7_296 : (RX7, 296, "the form is retired") ∈ strs := List.mem_of_getElem? (i := 29) (by decide +kernel)
theorem strX7_409 : (RX7, 409, "no such row") ∈ strs := List.mem_of_getElem? (i := 30) (by decide +kernel)
theorem strX7_303 : (RX7, 303, "the row is of another schema") ∈ strs := List.mem_of_getElem? (i := 31) (by decide +kernel)
theorem strX7_312 : (RX7, 312, "the row is of another schema, or value is out of range") ∈ strs := List.mem_of_getElem? (i := 32) (by decide +kernel)
theorem strX7_314 : (RX7, 314, "the form may not write the field") ∈ strs := List.mem_of_getElem? (i := 33) (by decide +kernel)
theorem strX7_338 : (RX7, 338, "there are 20 rows") ∈ strs := List.mem_of_getElem? (i := 34) (by decide +kernel)
theorem strX7_345 : (RX7, 345, "value is out of range") ∈ strs := List.mem_of_getElem? (i := 35) (by decide +kernel)
theorem strX7_356 : (RX7, 356, "there are 8 movers") ∈ strs := List.mem_of_getElem? (i := 36) (by decide +kernel)
theorem strX7_411 : (RX7, 411, "no such mover") ∈ strs := List.mem_of_getElem? (i := 37) (by decide +kernel)
theorem strX7_372 : (RX7, 372, "all rows are at the target") ∈ strs := List.mem_of_getElem? (i := 38) (by decide +kernel)
theorem strX7_392 : (RX7, 392, "there is no step that is not undone") ∈ strs := List.mem_of_getElem? (i := 39) (by decide +kernel)
theorem strX7_397 : (RX7, 397, "the row was changed since the step") ∈ strs := List.mem_of_getElem? (i := 40) (by decide +kernel)
theorem mn1 : Cond.static Lib.Math.min.name ∈ gtbl := gt_at _ 459 (by decide +kernel) (by decide +kernel)
theorem mn2 : Cond.code Lib.Math.min.name Lib.Math.min.code 2 (some .int) ∈ gtbl := gt_at _ 460 (by decide +kernel) (by decide +kernel)
theorem ma1 : Cond.static Lib.Math.abs.name ∈ gtbl := gt_at _ 1000 (by decide +kernel) (by decide +kernel)
theorem ma2 : Cond.code Lib.Math.abs.name Lib.Math.abs.code 1 (some .int) ∈ gtbl := gt_at _ 1001 (by decide +kernel) (by decide +kernel)
theorem iniMath : Cond.initialized "java/lang/Math" ∈ gtbl := gt_at _ 12 (by decide +kernel) (by decide +kernel)
theorem ac1 : Cond.native arraycopyName ∈ gtbl := gt_at _ 612 (by decide +kernel) (by decide +kernel)
theorem ac2 : Cond.static arraycopyName ∈ gtbl := gt_at _ 611 (by decide +kernel) (by decide +kernel)
theorem iniSystem : Cond.initialized "java/lang/System" ∈ gtbl := gt_at _ 19 (by decide +kernel) (by decide +kernel)
