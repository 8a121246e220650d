theorem bp_6 : ((Int8.ofInt (6)).toInt32 == Int32.ofInt (6)) = true := by decide +kernel
theorem bp_8 : ((Int8.ofInt (8)).toInt32 == Int32.ofInt (8)) = true := by decide +kernel
theorem bp_10 : ((Int8.ofInt (10)).toInt32 == Int32.ofInt (10)) = true := by decide +kernel
theorem bp_20 : ((Int8.ofInt (20)).toInt32 == Int32.ofInt (20)) = true := by decide +kernel
theorem bp_22 : ((Int8.ofInt (22)).toInt32 == Int32.ofInt (22)) = true := by decide +kernel
theorem bp_23 : ((Int8.ofInt (23)).toInt32 == Int32.ofInt (23)) = true := by decide +kernel
theorem bp_24 : ((Int8.ofInt (24)).toInt32 == Int32.ofInt (24)) = true := by decide +kernel
theorem bp_25 : ((Int8.ofInt (25)).toInt32 == Int32.ofInt (25)) = true := by decide +kernel
theorem bp_26 : ((Int8.ofInt (26)).toInt32 == Int32.ofInt (26)) = true := by decide +kernel
theorem bp_31 : ((Int8.ofInt (31)).toInt32 == Int32.ofInt (31)) = true := by decide +kernel
theorem bp_32 : ((Int8.ofInt (32)).toInt32 == Int32.ofInt (32)) = true := by decide +kernel
theorem bp_46 : ((Int8.ofInt (46)).toInt32 == Int32.ofInt (46)) = true := by decide +kernel
theorem bp_48 : ((Int8.ofInt (48)).toInt32 == Int32.ofInt (48)) = true := by decide +kernel
theorem bp_62 : ((Int8.ofInt (62)).toInt32 == Int32.ofInt (62)) = true := by decide +kernel
theorem bp_96 : ((Int8.ofInt (96)).toInt32 == Int32.ofInt (96)) = true := by decide +kernel
theorem bp_97 : ((Int8.ofInt (97)).toInt32 == Int32.ofInt (97)) = true := by decide +kernel
theorem bp_100 : ((Int8.ofInt (100)).toInt32 == Int32.ofInt (100)) = true := by decide +kernel
theorem bp_101 : ((Int8.ofInt (101)).toInt32 == Int32.ofInt (101)) = true := by decide +kernel
theorem bp_105 : ((Int8.ofInt (105)).toInt32 == Int32.ofInt (105)) = true := by decide +kernel
theorem bp_106 : ((Int8.ofInt (106)).toInt32 == Int32.ofInt (106)) = true := by decide +kernel
theorem bp_108 : ((Int8.ofInt (108)).toInt32 == Int32.ofInt (108)) = true := by decide +kernel
theorem bp_109 : ((Int8.ofInt (109)).toInt32 == Int32.ofInt (109)) = true := by decide +kernel
theorem bp_110 : ((Int8.ofInt (110)).toInt32 == Int32.ofInt (110)) = true := by decide +kernel
theorem bp_111 : ((Int8.ofInt (111)).toInt32 == Int32.ofInt (111)) = true := by decide +kernel
theorem bp_112 : ((Int8.ofInt (112)).toInt32 == Int32.ofInt (112)) = true := by decide +kernel
theorem bp_114 : ((Int8.ofInt (114)).toInt32 == Int32.ofInt (114)) = true := by decide +kernel
theorem bp_115 : ((Int8.ofInt (115)).toInt32 == Int32.ofInt (115)) = true := by decide +kernel
theorem bp_116 : ((Int8.ofInt (116)).toInt32 == Int32.ofInt (116)) = true := by decide +kernel
theorem bp_117 : ((Int8.ofInt (117)).toInt32 == Int32.ofInt (117)) = true := by decide +kernel
theorem sp_192 : ((Int16.ofInt (192)).toInt32 == Int32.ofInt (192)) = true := by decide +kernel
theorem sp_384 : ((Int16.ofInt (384)).toInt32 == Int32.ofInt (384)) = true := by decide +kernel
theorem sp_512 : ((Int16.ofInt (512)).toInt32 == Int32.ofInt (512)) = true := by decide +kernel
theorem sp_528 : ((Int16.ofInt (528)).toInt32 == Int32.ofInt (528)) = true := by decide +kernel
theorem sp_960 : ((Int16.ofInt (960)).toInt32 == Int32.ofInt (960)) = true := by decide +kernel
theorem sp_999 : ((Int16.ofInt (999)).toInt32 == Int32.ofInt (999)) = true := by decide +kernel
theorem sp_1056 : ((Int16.ofInt (1056)).toInt32 == Int32.ofInt (1056)) = true := by decide +kernel
theorem sp_4096 : ((Int16.ofInt (4096)).toInt32 == Int32.ofInt (4096)) = true := by decide +kernel
theorem sp_4608 : ((Int16.ofInt (4608)).toInt32 == Int32.ofInt (4608)) = true := by decide +kernel
theorem sp_8192 : ((Int16.ofInt (8192)).toInt32 == Int32.ofInt (8192)) = true := by decide +kernel
theorem sp_9999 : ((Int16.ofInt (9999)).toInt32 == Int32.ofInt (9999)) = true := by decide +kernel
theorem sp_10000 : ((Int16.ofInt (10000)).toInt32 == Int32.ofInt (10000)) = true := by decide +kernel
abbrev fX7_init : Nat := 2
abbrev loX7_init : Nat := 41
abbrev fX7_schema : Nat := 6
abbrev loX7_schema : Nat := 90
abbrev fX7_add : Nat := 7
abbrev loX7_add : Nat := 112
abbrev fX7_rename : Nat := 8
abbrev loX7_rename : Nat := 134
abbrev fX7_turn : Nat := 8
abbrev loX7_turn : Nat := 134
abbrev fX7_split : Nat := 8
abbrev loX7_split : Nat := 134
abbrev fX7_join : Nat := 8
abbrev loX7_join : Nat := 134
abbrev fX7_toggleNeed : Nat := 8
abbrev loX7_toggleNeed : Nat := 134
abbrev fX7_drop : Nat := 8
abbrev loX7_drop : Nat := 134
abbrev fX7_head : Nat := 7
abbrev loX7_head : Nat := 112
abbrev fX7_field : Nat := 7
abbrev loX7_field : Nat := 112
abbrev fX7_text : Nat := 10
abbrev loX7_text : Nat := 284
abbrev fX7_form : Nat := 7
abbrev loX7_form : Nat := 112
abbrev fX7_take : Nat := 7
abbrev loX7_take : Nat := 112
abbrev fX7_letGo : Nat := 7
abbrev loX7_letGo : Nat := 133
abbrev fX7_retire : Nat := 7
abbrev loX7_retire : Nat := 133
abbrev fX7_renew : Nat := 7
abbrev loX7_renew : Nat := 133
abbrev fX7_read : Nat := 7
abbrev loX7_read : Nat := 178
abbrev fX7_write : Nat := 7
abbrev loX7_write : Nat := 178
abbrev fX7_row : Nat := 7
abbrev loX7_row : Nat := 112
abbrev fX7_set : Nat := 7
abbrev loX7_set : Nat := 113
abbrev fX7_value : Nat := 7
abbrev loX7_value : Nat := 178
abbrev fX7_replayed : Nat := 7
abbrev loX7_replayed : Nat := 113
abbrev fX7_standing : Nat := 7
abbrev loX7_standing : Nat := 112
abbrev fX7_mover : Nat := 7
abbrev loX7_mover : Nat := 112
abbrev fX7_step : Nat := 7
abbrev loX7_step : Nat := 141
abbrev fX7_undo : Nat := 7
abbrev loX7_undo : Nat := 141
abbrev fX7_schemaAt : Nat := 6
abbrev loX7_schemaAt : Nat := 90
abbrev fX7_formAt : Nat := 6
abbrev loX7_formAt : Nat := 90
abbrev fX7_rowAt : Nat := 6
abbrev loX7_rowAt : Nat := 90
abbrev fX7_moverAt : Nat := 6
abbrev loX7_moverAt : Nat := 90
abbrev fX7_moveAt : Nat := 0
abbrev loX7_moveAt : Nat := 0
abbrev fX7_fieldAt : Nat := 6
abbrev loX7_fieldAt : Nat := 90
abbrev fX7_fieldOfHead : Nat := 7
abbrev loX7_fieldOfHead : Nat := 113
abbrev fX7_heldField : Nat := 6
abbrev loX7_heldField : Nat := 90
abbrev fX7_heldUpOf : Nat := 4
abbrev loX7_heldUpOf : Nat := 90
abbrev fX7_see : Nat := 6
abbrev loX7_see : Nat := 156
abbrev fX7_farthestRow : Nat := 1
abbrev loX7_farthestRow : Nat := 30
abbrev fX7_tellNames : Nat := 9
abbrev loX7_tellNames : Nat := 260
abbrev fX7_wordOf : Nat := 0
abbrev loX7_wordOf : Nat := 0
abbrev fX7_isName : Nat := 0
abbrev loX7_isName : Nat := 0
abbrev fX7_isKind : Nat := 0
abbrev loX7_isKind : Nat := 0
abbrev fX7_isFactor : Nat := 0
abbrev loX7_isFactor : Nat := 0
abbrev fX7_isValue : Nat := 1
abbrev loX7_isValue : Nat := 20
abbrev fX7_greatestOf : Nat := 0
abbrev loX7_greatestOf : Nat := 0
abbrev fX7_bit : Nat := 0
abbrev loX7_bit : Nat := 0
abbrev fX7_contains : Nat := 1
abbrev loX7_contains : Nat := 20
abbrev fX7_turned : Nat := 0
abbrev loX7_turned : Nat := 0
abbrev fX7_quotient : Nat := 0
abbrev loX7_quotient : Nat := 0
abbrev fX7_remainder : Nat := 0
abbrev loX7_remainder : Nat := 0
abbrev fX7_combined : Nat := 1
abbrev loX7_combined : Nat := 30
abbrev fX8_init : Nat := 1
abbrev loX8_init : Nat := 20
abbrev fX8_thrown : Nat := 0
abbrev loX8_thrown : Nat := 0
abbrev fX8_fails : Nat := 0
abbrev loX8_fails : Nat := 0
abbrev fX8_lies : Nat := 0
abbrev loX8_lies : Nat := 0
abbrev fX8_isSchema : Nat := 1
abbrev loX8_isSchema : Nat := 22
abbrev fX8_isName : Nat := 1
abbrev loX8_isName : Nat := 22
abbrev fX8_most : Nat := 0
abbrev loX8_most : Nat := 0
abbrev fX8_place : Nat := 0
abbrev loX8_place : Nat := 0
abbrev fX8_find : Nat := 2
abbrev loX8_find : Nat := 42
abbrev fX8_atHead : Nat := 3
abbrev loX8_atHead : Nat := 67
abbrev fX8_isLast : Nat := 0
abbrev loX8_isLast : Nat := 0
abbrev fX8_schema : Nat := 1
abbrev loX8_schema : Nat := 21
abbrev fX8_begins : Nat := 1
abbrev loX8_begins : Nat := 22
abbrev fX8_makes : Nat := 1
abbrev loX8_makes : Nat := 22
abbrev fX8_ends : Nat := 1
abbrev loX8_ends : Nat := 22
abbrev fX8_add : Nat := 4
abbrev loX8_add : Nat := 89
abbrev fX8_rename : Nat := 4
abbrev loX8_rename : Nat := 89
abbrev fX8_isWaiting : Nat := 0
abbrev loX8_isWaiting : Nat := 0
abbrev fX8_turned : Nat := 0
abbrev loX8_turned : Nat := 0
abbrev fX8_turn : Nat := 4
abbrev loX8_turn : Nat := 89
abbrev fX8_isFree : Nat := 1
abbrev loX8_isFree : Nat := 24
abbrev fX8_isOther : Nat := 0
abbrev loX8_isOther : Nat := 0
abbrev fX8_split : Nat := 4
abbrev loX8_split : Nat := 89
abbrev fX8_joined : Nat := 0
abbrev loX8_joined : Nat := 0
abbrev fX8_join : Nat := 4
abbrev loX8_join : Nat := 89
abbrev fX8_toggleNeed : Nat := 4
abbrev loX8_toggleNeed : Nat := 89
abbrev fX8_traces : Nat := 1
abbrev loX8_traces : Nat := 27
abbrev fX8_follows : Nat := 0
abbrev loX8_follows : Nat := 0
abbrev fX8_tracesOf : Nat := 1
abbrev loX8_tracesOf : Nat := 27
abbrev fX8_isHeldUp : Nat := 2
abbrev loX8_isHeldUp : Nat := 50
abbrev fX8_dropsOut : Nat := 2
abbrev loX8_dropsOut : Nat := 46
abbrev fX8_drop : Nat := 4
abbrev loX8_drop : Nat := 89
abbrev fX8_looksAtDrops : Nat := 3
abbrev loX8_looksAtDrops : Nat := 74
abbrev fX8_head : Nat := 2
abbrev loX8_head : Nat := 43
abbrev fX8_isVersion : Nat := 2
abbrev loX8_isVersion : Nat := 43
abbrev fX8_field : Nat := 3
abbrev loX8_field : Nat := 67
abbrev fX8_letter : Nat := 0
abbrev loX8_letter : Nat := 0
abbrev fX8_length : Nat := 0
abbrev loX8_length : Nat := 0
abbrev fX8_sign : Nat := 1
abbrev loX8_sign : Nat := 22
abbrev fX8_text : Nat := 3
abbrev loX8_text : Nat := 65
abbrev fX8_form : Nat := 2
abbrev loX8_form : Nat := 43
abbrev fX8_isForm : Nat := 1
abbrev loX8_isForm : Nat := 22
abbrev fX8_inForm : Nat := 3
abbrev loX8_inForm : Nat := 67
abbrev fX8_held : Nat := 0
abbrev loX8_held : Nat := 0
abbrev fX8_canTake : Nat := 2
abbrev loX8_canTake : Nat := 51
abbrev fX8_take : Nat := 4
abbrev loX8_take : Nat := 89
abbrev fX8_isHeld : Nat := 0
abbrev loX8_isHeld : Nat := 0
abbrev fX8_letGo : Nat := 4
abbrev loX8_letGo : Nat := 99
abbrev fX8_retire : Nat := 4
abbrev loX8_retire : Nat := 99
abbrev fX8_renew : Nat := 4
abbrev loX8_renew : Nat := 99
abbrev fX8_front : Nat := 0
abbrev loX8_front : Nat := 0
abbrev fX8_behind : Nat := 0
abbrev loX8_behind : Nat := 0
abbrev fX8_needed : Nat := 1
abbrev loX8_needed : Nat := 22
abbrev fX8_kindOf : Nat := 0
abbrev loX8_kindOf : Nat := 0
abbrev fX8_up : Nat := 2
abbrev loX8_up : Nat := 46
abbrev fX8_down : Nat := 2
abbrev loX8_down : Nat := 46
abbrev fX8_goes : Nat := 3
abbrev loX8_goes : Nat := 73
abbrev fX8_onSide : Nat := 1
abbrev loX8_onSide : Nat := 22
abbrev fX8_moves : Nat := 4
abbrev loX8_moves : Nat := 98
abbrev fX8_movesTo : Nat := 5
abbrev loX8_movesTo : Nat := 126
abbrev fX8_copies : Nat := 0
abbrev loX8_copies : Nat := 0
abbrev fX8_sees : Nat := 6
abbrev loX8_sees : Nat := 148
abbrev fX8_counts : Nat := 0
abbrev loX8_counts : Nat := 0
abbrev fX8_isRow : Nat := 1
abbrev loX8_isRow : Nat := 22
abbrev fX8_read : Nat := 7
abbrev loX8_read : Nat := 170
abbrev fX8_write : Nat := 7
abbrev loX8_write : Nat := 170
abbrev fX8_row : Nat := 3
abbrev loX8_row : Nat := 65
abbrev fX8_inRow : Nat := 3
abbrev loX8_inRow : Nat := 67
abbrev fX8_set : Nat := 4
abbrev loX8_set : Nat := 89
abbrev fX8_value : Nat := 7
abbrev loX8_value : Nat := 170
abbrev fX8_replayed : Nat := 4
abbrev loX8_replayed : Nat := 89
abbrev fX8_standing : Nat := 2
abbrev loX8_standing : Nat := 43
abbrev fX8_mover : Nat := 3
abbrev loX8_mover : Nat := 65
abbrev fX8_isMover : Nat := 1
abbrev loX8_isMover : Nat := 22
abbrev fX8_off : Nat := 0
abbrev loX8_off : Nat := 0
abbrev fX8_nextRow : Nat := 1
abbrev loX8_nextRow : Nat := 23
abbrev fX8_step : Nat := 5
abbrev loX8_step : Nat := 126
abbrev fX8_undo : Nat := 2
abbrev loX8_undo : Nat := 45
abbrev fX0_init : Nat := 1
abbrev loX0_init : Nat := 20
abbrev fX1_init : Nat := 2
abbrev loX1_init : Nat := 41
abbrev fX2_init : Nat := 1
abbrev loX2_init : Nat := 20
abbrev fX3_init : Nat := 2
abbrev loX3_init : Nat := 41
abbrev fX4_init : Nat := 1
abbrev loX4_init : Nat := 20
abbrev fX4_isVersion : Nat := 0
abbrev loX4_isVersion : Nat := 0
abbrev fX4_isFull : Nat := 0
abbrev loX4_isFull : Nat := 0
abbrev fX4_isField : Nat := 0
abbrev loX4_isField : Nat := 0
abbrev fX4_fieldNamed : Nat := 1
abbrev loX4_fieldNamed : Nat := 21
abbrev fX4_nameOf : Nat := 2
abbrev loX4_nameOf : Nat := 43
abbrev fX4_kindOf : Nat := 1
abbrev loX4_kindOf : Nat := 21
abbrev fX4_defaultOf : Nat := 1
abbrev loX4_defaultOf : Nat := 21
abbrev fX4_isNeeded : Nat := 2
abbrev loX4_isNeeded : Nat := 42
abbrev fX4_stepTo : Nat := 1
abbrev loX4_stepTo : Nat := 21
abbrev fX4_isTakenByOther : Nat := 2
abbrev loX4_isTakenByOther : Nat := 43
abbrev fX4_isFreeNumber : Nat := 3
abbrev loX4_isFreeNumber : Nat := 64
abbrev fX4_makeField : Nat := 0
abbrev loX4_makeField : Nat := 0
abbrev fX4_extend : Nat := 3
abbrev loX4_extend : Nat := 63
abbrev fX4_place : Nat := 1
abbrev loX4_place : Nat := 21
abbrev fX4_isWaiting : Nat := 2
abbrev loX4_isWaiting : Nat := 43
abbrev fX4_allWaiting : Nat := 1
abbrev loX4_allWaiting : Nat := 20
abbrev fX4_letWait : Nat := 0
abbrev loX4_letWait : Nat := 0
abbrev fX4_takeOff : Nat := 4
abbrev loX4_takeOff : Nat := 87
abbrev fX4_takeOffWaiting : Nat := 5
abbrev loX4_takeOffWaiting : Nat := 108
abbrev fX4_tracesOf : Nat := 3
abbrev loX4_tracesOf : Nat := 63
abbrev fX4_bring : Nat := 5
abbrev loX4_bring : Nat := 133
abbrev fX4_carry : Nat := 4
abbrev loX4_carry : Nat := 106
abbrev fX4_isSame : Nat := 0
abbrev loX4_isSame : Nat := 0
abbrev fX4_tell : Nat := 3
abbrev loX4_tell : Nat := 78
abbrev fX4_tellAlone : Nat := 2
abbrev loX4_tellAlone : Nat := 52
abbrev fX5_init : Nat := 1
abbrev loX5_init : Nat := 20
abbrev fX5_copyFrom : Nat := 1
abbrev loX5_copyFrom : Nat := 120
abbrev fX5_valueOf : Nat := 0
abbrev loX5_valueOf : Nat := 0
abbrev fX5_put : Nat := 0
abbrev loX5_put : Nat := 0
abbrev fX5_boxEntries : Nat := 0
abbrev loX5_boxEntries : Nat := 0
abbrev fX5_takeOut : Nat := 0
abbrev loX5_takeOut : Nat := 0
abbrev fX5_putAway : Nat := 0
abbrev loX5_putAway : Nat := 0
abbrev fX6_init : Nat := 1
abbrev loX6_init : Nat := 20
abbrev fX6_isInFront : Nat := 0
abbrev loX6_isInFront : Nat := 0
abbrev fX6_frontFields : Nat := 2
abbrev loX6_frontFields : Nat := 43
abbrev fX6_behindFields : Nat := 2
abbrev loX6_behindFields : Nat := 43
abbrev fX6_together : Nat := 1
abbrev loX6_together : Nat := 20
abbrev fL_schema : Nat := 7
abbrev loL_schema : Nat := 111
abbrev fL_add : Nat := 8
abbrev loL_add : Nat := 139
abbrev fL_rename : Nat := 9
abbrev loL_rename : Nat := 160
abbrev fL_turn : Nat := 9
abbrev loL_turn : Nat := 162
abbrev fL_split : Nat := 9
abbrev loL_split : Nat := 166
abbrev fL_join : Nat := 9
abbrev loL_join : Nat := 166
abbrev fL_toggleNeed : Nat := 9
abbrev loL_toggleNeed : Nat := 159
abbrev fL_drop : Nat := 9
abbrev loL_drop : Nat := 158
abbrev fL_head : Nat := 8
abbrev loL_head : Nat := 134
abbrev fL_field : Nat := 8
abbrev loL_field : Nat := 137
abbrev fL_text : Nat := 11
abbrev loL_text : Nat := 310
abbrev fL_form : Nat := 8
abbrev loL_form : Nat := 135
abbrev fL_take : Nat := 8
abbrev loL_take : Nat := 139
abbrev fL_letGo : Nat := 8
abbrev loL_letGo : Nat := 157
abbrev fL_retire : Nat := 8
abbrev loL_retire : Nat := 155
abbrev fL_renew : Nat := 8
abbrev loL_renew : Nat := 155
abbrev fL_read : Nat := 8
abbrev loL_read : Nat := 204
abbrev fL_write : Nat := 8
abbrev loL_write : Nat := 206
abbrev fL_row : Nat := 8
abbrev loL_row : Nat := 139
abbrev fL_set : Nat := 8
abbrev loL_set : Nat := 140
abbrev fL_value : Nat := 8
abbrev loL_value : Nat := 203
abbrev fL_replayed : Nat := 8
abbrev loL_replayed : Nat := 137
abbrev fL_standing : Nat := 8
abbrev loL_standing : Nat := 134
abbrev fL_mover : Nat := 8
abbrev loL_mover : Nat := 136
abbrev fL_step : Nat := 8
abbrev loL_step : Nat := 166
abbrev fL_undo : Nat := 8
abbrev loL_undo : Nat := 165
section PCS
variable {M : MI} {fr lo mc ms bc bs pc : Nat} {Q : AH → AO → Prop} {h : AH} {loc : AL} {st : List AV}
theorem AW.pcs {pc2 : Nat} (e : pc = pc2) (k : AW M fr lo mc ms Q bc bs pc2 h loc st) : AW M fr lo mc ms Q bc bs pc h loc st := by subst e; exact k
def lsub (loc : AL) : AL → Prop
  | [] => True
  | q :: r => lget loc q.1 = some q.2 ∧ lsub loc r
theorem lsub_mem : ∀ {l : AL}, lsub loc l → ∀ q ∈ l, q ∈ loc
  | [], _, _, h => by cases h
  | q :: r, hl, z, h => by
    rcases List.mem_cons.mp h with rfl | h
    · exact lget_mem hl.1
    · exact lsub_mem hl.2 z h
/-- fewer locals, in any order -/
theorem AW.locs (loc2 : AL) (hs : lsub loc loc2) (k : AW M fr lo mc ms Q bc bs pc h loc2 st) : AW M fr lo mc ms Q bc bs pc h loc st := by
  intro p l e s m args below meth c D dA B0 H0 C dom0 al0 al H locs cells slots ls hZ hA hS hc hs9 ho hv hl9
  refine k p l e s m args below meth c D dA B0 H0 C dom0 al0 al H locs cells slots ls hZ hA hS hc hs9 (fun q hq => ho q (lsub_mem hs q hq)) hv ⟨hl9.1, hl9.2.1, fun q hq => ?_⟩
  obtain ⟨w, hw, e9⟩ := List.mem_map.mp hq
  exact hl9.2.2 q (List.mem_map.mpr ⟨w, lsub_mem hs w hw, e9⟩)
theorem AW.heq {h2 : AH} (e : h = h2) (k : AW M fr lo mc ms Q bc bs pc h2 loc st) : AW M fr lo mc ms Q bc bs pc h loc st := by subst e; exact k
end PCS
