theorem bp_m100 : ((Int8.ofInt (-100)).toInt32 == Int32.ofInt (-100)) = true := by decide +kernel
theorem bp_6 : ((Int8.ofInt (6)).toInt32 == Int32.ofInt (6)) = true := by decide +kernel
theorem bp_7 : ((Int8.ofInt (7)).toInt32 == Int32.ofInt (7)) = true := by decide +kernel
theorem bp_8 : ((Int8.ofInt (8)).toInt32 == Int32.ofInt (8)) = true := by decide +kernel
theorem bp_9 : ((Int8.ofInt (9)).toInt32 == Int32.ofInt (9)) = true := by decide +kernel
theorem bp_10 : ((Int8.ofInt (10)).toInt32 == Int32.ofInt (10)) = true := by decide +kernel
theorem bp_11 : ((Int8.ofInt (11)).toInt32 == Int32.ofInt (11)) = true := by decide +kernel
theorem bp_12 : ((Int8.ofInt (12)).toInt32 == Int32.ofInt (12)) = true := by decide +kernel
theorem bp_13 : ((Int8.ofInt (13)).toInt32 == Int32.ofInt (13)) = true := by decide +kernel
theorem bp_15 : ((Int8.ofInt (15)).toInt32 == Int32.ofInt (15)) = true := by decide +kernel
theorem bp_16 : ((Int8.ofInt (16)).toInt32 == Int32.ofInt (16)) = true := by decide +kernel
theorem bp_19 : ((Int8.ofInt (19)).toInt32 == Int32.ofInt (19)) = true := by decide +kernel
theorem bp_20 : ((Int8.ofInt (20)).toInt32 == Int32.ofInt (20)) = true := by decide +kernel
theorem bp_23 : ((Int8.ofInt (23)).toInt32 == Int32.ofInt (23)) = true := by decide +kernel
theorem bp_24 : ((Int8.ofInt (24)).toInt32 == Int32.ofInt (24)) = true := by decide +kernel
theorem bp_25 : ((Int8.ofInt (25)).toInt32 == Int32.ofInt (25)) = true := by decide +kernel
theorem bp_26 : ((Int8.ofInt (26)).toInt32 == Int32.ofInt (26)) = true := by decide +kernel
theorem bp_27 : ((Int8.ofInt (27)).toInt32 == Int32.ofInt (27)) = true := by decide +kernel
theorem bp_29 : ((Int8.ofInt (29)).toInt32 == Int32.ofInt (29)) = true := by decide +kernel
theorem bp_30 : ((Int8.ofInt (30)).toInt32 == Int32.ofInt (30)) = true := by decide +kernel
theorem bp_31 : ((Int8.ofInt (31)).toInt32 == Int32.ofInt (31)) = true := by decide +kernel
theorem bp_32 : ((Int8.ofInt (32)).toInt32 == Int32.ofInt (32)) = true := by decide +kernel
theorem bp_36 : ((Int8.ofInt (36)).toInt32 == Int32.ofInt (36)) = true := by decide +kernel
theorem bp_39 : ((Int8.ofInt (39)).toInt32 == Int32.ofInt (39)) = true := by decide +kernel
theorem bp_40 : ((Int8.ofInt (40)).toInt32 == Int32.ofInt (40)) = true := by decide +kernel
theorem bp_46 : ((Int8.ofInt (46)).toInt32 == Int32.ofInt (46)) = true := by decide +kernel
theorem bp_48 : ((Int8.ofInt (48)).toInt32 == Int32.ofInt (48)) = true := by decide +kernel
theorem bp_50 : ((Int8.ofInt (50)).toInt32 == Int32.ofInt (50)) = true := by decide +kernel
theorem bp_58 : ((Int8.ofInt (58)).toInt32 == Int32.ofInt (58)) = true := by decide +kernel
theorem bp_62 : ((Int8.ofInt (62)).toInt32 == Int32.ofInt (62)) = true := by decide +kernel
theorem bp_64 : ((Int8.ofInt (64)).toInt32 == Int32.ofInt (64)) = true := by decide +kernel
theorem bp_96 : ((Int8.ofInt (96)).toInt32 == Int32.ofInt (96)) = true := by decide +kernel
theorem bp_97 : ((Int8.ofInt (97)).toInt32 == Int32.ofInt (97)) = true := by decide +kernel
theorem bp_100 : ((Int8.ofInt (100)).toInt32 == Int32.ofInt (100)) = true := by decide +kernel
theorem bp_101 : ((Int8.ofInt (101)).toInt32 == Int32.ofInt (101)) = true := by decide +kernel
theorem bp_106 : ((Int8.ofInt (106)).toInt32 == Int32.ofInt (106)) = true := by decide +kernel
theorem bp_110 : ((Int8.ofInt (110)).toInt32 == Int32.ofInt (110)) = true := by decide +kernel
theorem bp_112 : ((Int8.ofInt (112)).toInt32 == Int32.ofInt (112)) = true := by decide +kernel
theorem bp_114 : ((Int8.ofInt (114)).toInt32 == Int32.ofInt (114)) = true := by decide +kernel
theorem bp_115 : ((Int8.ofInt (115)).toInt32 == Int32.ofInt (115)) = true := by decide +kernel
theorem bp_116 : ((Int8.ofInt (116)).toInt32 == Int32.ofInt (116)) = true := by decide +kernel
theorem sp_m300 : ((Int16.ofInt (-300)).toInt32 == Int32.ofInt (-300)) = true := by decide +kernel
theorem sp_m200 : ((Int16.ofInt (-200)).toInt32 == Int32.ofInt (-200)) = true := by decide +kernel
theorem sp_431 : ((Int16.ofInt (431)).toInt32 == Int32.ofInt (431)) = true := by decide +kernel
theorem sp_512 : ((Int16.ofInt (512)).toInt32 == Int32.ofInt (512)) = true := by decide +kernel
theorem sp_571 : ((Int16.ofInt (571)).toInt32 == Int32.ofInt (571)) = true := by decide +kernel
theorem sp_999 : ((Int16.ofInt (999)).toInt32 == Int32.ofInt (999)) = true := by decide +kernel
theorem sp_1000 : ((Int16.ofInt (1000)).toInt32 == Int32.ofInt (1000)) = true := by decide +kernel
theorem sp_2048 : ((Int16.ofInt (2048)).toInt32 == Int32.ofInt (2048)) = true := by decide +kernel
theorem sp_6000 : ((Int16.ofInt (6000)).toInt32 == Int32.ofInt (6000)) = true := by decide +kernel
theorem sp_7000 : ((Int16.ofInt (7000)).toInt32 == Int32.ofInt (7000)) = true := by decide +kernel
theorem sp_8000 : ((Int16.ofInt (8000)).toInt32 == Int32.ofInt (8000)) = true := by decide +kernel
theorem sp_9000 : ((Int16.ofInt (9000)).toInt32 == Int32.ofInt (9000)) = true := by decide +kernel
theorem sp_9999 : ((Int16.ofInt (9999)).toInt32 == Int32.ofInt (9999)) = true := by decide +kernel
theorem sp_10000 : ((Int16.ofInt (10000)).toInt32 == Int32.ofInt (10000)) = true := by decide +kernel
theorem sp_10001 : ((Int16.ofInt (10001)).toInt32 == Int32.ofInt (10001)) = true := by decide +kernel
abbrev fX7_init : Nat := 2
abbrev loX7_init : Nat := 41
abbrev fX7_schema : Nat := 6
abbrev loX7_schema : Nat := 90
abbrev fX7_add : Nat := 7
abbrev loX7_add : Nat := 112
abbrev fX7_rename : Nat := 8
abbrev loX7_rename : Nat := 134
abbrev fX7_turn : Nat := 8
abbrev loX7_turn : Nat := 134
abbrev fX7_split : Nat := 8
abbrev loX7_split : Nat := 134
abbrev fX7_join : Nat := 8
abbrev loX7_join : Nat := 134
abbrev fX7_toggleNeed : Nat := 8
abbrev loX7_toggleNeed : Nat := 134
abbrev fX7_drop : Nat := 8
abbrev loX7_drop : Nat := 134
abbrev fX7_head : Nat := 7
abbrev loX7_head : Nat := 112
abbrev fX7_field : Nat := 7
abbrev loX7_field : Nat := 112
abbrev fX7_text : Nat := 10
abbrev loX7_text : Nat := 284
abbrev fX7_row : Nat := 7
abbrev loX7_row : Nat := 112
abbrev fX7_set : Nat := 7
abbrev loX7_set : Nat := 113
abbrev fX7_value : Nat := 7
abbrev loX7_value : Nat := 178
abbrev fX7_replayed : Nat := 7
abbrev loX7_replayed : Nat := 113
abbrev fX7_standing : Nat := 7
abbrev loX7_standing : Nat := 112
abbrev fX7_mover : Nat := 7
abbrev loX7_mover : Nat := 112
abbrev fX7_step : Nat := 7
abbrev loX7_step : Nat := 141
abbrev fX7_undo : Nat := 7
abbrev loX7_undo : Nat := 141
abbrev fX7_schemaAt : Nat := 6
abbrev loX7_schemaAt : Nat := 90
abbrev fX7_rowAt : Nat := 6
abbrev loX7_rowAt : Nat := 90
abbrev fX7_moverAt : Nat := 6
abbrev loX7_moverAt : Nat := 90
abbrev fX7_moveAt : Nat := 0
abbrev loX7_moveAt : Nat := 0
abbrev fX7_fieldAt : Nat := 6
abbrev loX7_fieldAt : Nat := 90
abbrev fX7_fieldOfHead : Nat := 7
abbrev loX7_fieldOfHead : Nat := 113
abbrev fX7_heldUpOf : Nat := 4
abbrev loX7_heldUpOf : Nat := 90
abbrev fX7_see : Nat := 6
abbrev loX7_see : Nat := 156
abbrev fX7_farthestRow : Nat := 1
abbrev loX7_farthestRow : Nat := 30
abbrev fX7_tellNames : Nat := 9
abbrev loX7_tellNames : Nat := 260
abbrev fX7_wordOf : Nat := 0
abbrev loX7_wordOf : Nat := 0
abbrev fX7_isName : Nat := 0
abbrev loX7_isName : Nat := 0
abbrev fX7_isKind : Nat := 0
abbrev loX7_isKind : Nat := 0
abbrev fX7_isFactor : Nat := 0
abbrev loX7_isFactor : Nat := 0
abbrev fX7_isValue : Nat := 1
abbrev loX7_isValue : Nat := 20
abbrev fX7_greatestOf : Nat := 0
abbrev loX7_greatestOf : Nat := 0
abbrev fX7_bit : Nat := 0
abbrev loX7_bit : Nat := 0
abbrev fX7_contains : Nat := 1
abbrev loX7_contains : Nat := 20
abbrev fX7_turned : Nat := 0
abbrev loX7_turned : Nat := 0
abbrev fX7_quotient : Nat := 0
abbrev loX7_quotient : Nat := 0
abbrev fX7_remainder : Nat := 0
abbrev loX7_remainder : Nat := 0
abbrev fX7_combined : Nat := 1
abbrev loX7_combined : Nat := 30
abbrev fX1_init : Nat := 2
abbrev loX1_init : Nat := 41
abbrev fX2_init : Nat := 1
abbrev loX2_init : Nat := 20
abbrev fX3_init : Nat := 2
abbrev loX3_init : Nat := 41
abbrev fX4_init : Nat := 1
abbrev loX4_init : Nat := 20
abbrev fX4_isVersion : Nat := 0
abbrev loX4_isVersion : Nat := 0
abbrev fX4_isFull : Nat := 0
abbrev loX4_isFull : Nat := 0
abbrev fX4_isField : Nat := 0
abbrev loX4_isField : Nat := 0
abbrev fX4_fieldNamed : Nat := 1
abbrev loX4_fieldNamed : Nat := 21
abbrev fX4_nameOf : Nat := 2
abbrev loX4_nameOf : Nat := 43
abbrev fX4_kindOf : Nat := 1
abbrev loX4_kindOf : Nat := 21
abbrev fX4_defaultOf : Nat := 1
abbrev loX4_defaultOf : Nat := 21
abbrev fX4_isNeeded : Nat := 2
abbrev loX4_isNeeded : Nat := 42
abbrev fX4_stepTo : Nat := 1
abbrev loX4_stepTo : Nat := 21
abbrev fX4_isTakenByOther : Nat := 2
abbrev loX4_isTakenByOther : Nat := 43
abbrev fX4_isFreeNumber : Nat := 3
abbrev loX4_isFreeNumber : Nat := 64
abbrev fX4_makeField : Nat := 0
abbrev loX4_makeField : Nat := 0
abbrev fX4_extend : Nat := 3
abbrev loX4_extend : Nat := 63
abbrev fX4_place : Nat := 1
abbrev loX4_place : Nat := 21
abbrev fX4_isWaiting : Nat := 2
abbrev loX4_isWaiting : Nat := 43
abbrev fX4_allWaiting : Nat := 1
abbrev loX4_allWaiting : Nat := 20
abbrev fX4_letWait : Nat := 0
abbrev loX4_letWait : Nat := 0
abbrev fX4_takeOff : Nat := 4
abbrev loX4_takeOff : Nat := 87
abbrev fX4_tracesOf : Nat := 3
abbrev loX4_tracesOf : Nat := 63
abbrev fX4_bring : Nat := 5
abbrev loX4_bring : Nat := 133
abbrev fX4_carry : Nat := 4
abbrev loX4_carry : Nat := 106
abbrev fX4_isSame : Nat := 0
abbrev loX4_isSame : Nat := 0
abbrev fX4_tell : Nat := 3
abbrev loX4_tell : Nat := 78
abbrev fX4_tellAlone : Nat := 2
abbrev loX4_tellAlone : Nat := 52
abbrev fX5_init : Nat := 1
abbrev loX5_init : Nat := 20
abbrev fX5_copyFrom : Nat := 1
abbrev loX5_copyFrom : Nat := 120
abbrev fX5_valueOf : Nat := 0
abbrev loX5_valueOf : Nat := 0
abbrev fX5_put : Nat := 0
abbrev loX5_put : Nat := 0
abbrev fX5_boxEntries : Nat := 0
abbrev loX5_boxEntries : Nat := 0
abbrev fX5_takeOut : Nat := 0
abbrev loX5_takeOut : Nat := 0
abbrev fX5_putAway : Nat := 0
abbrev loX5_putAway : Nat := 0
abbrev fX6_init : Nat := 1
abbrev loX6_init : Nat := 20
abbrev fX6_isInFront : Nat := 0
abbrev loX6_isInFront : Nat := 0
abbrev fX6_frontFields : Nat := 2
abbrev loX6_frontFields : Nat := 43
abbrev fX6_behindFields : Nat := 2
abbrev loX6_behindFields : Nat := 43
abbrev fX6_together : Nat := 1
abbrev loX6_together : Nat := 20
abbrev fL_part : Nat := 0
abbrev loL_part : Nat := 0
abbrev fL_does : Nat := 9
abbrev loL_does : Nat := 166
abbrev fL_asks : Nat := 11
abbrev loL_asks : Nat := 310
abbrev fL_state : Nat := 0
abbrev loL_state : Nat := 0
abbrev fL_find : Nat := 1
abbrev loL_find : Nat := 22
abbrev fL_isNeeded : Nat := 1
abbrev loL_isNeeded : Nat := 22
abbrev fL_side : Nat := 0
abbrev loL_side : Nat := 0
abbrev fL_by : Nat := 0
abbrev loL_by : Nat := 0
abbrev fL_kind : Nat := 0
abbrev loL_kind : Nat := 0
abbrev fL_turned : Nat := 0
abbrev loL_turned : Nat := 0
abbrev fL_joined : Nat := 0
abbrev loL_joined : Nat := 0
abbrev fL_tells : Nat := 2
abbrev loL_tells : Nat := 44
abbrev fL_moves : Nat := 3
abbrev loL_moves : Nat := 78
abbrev fL_copies : Nat := 0
abbrev loL_copies : Nat := 0
abbrev fL_isVersion : Nat := 13
abbrev loL_isVersion : Nat := 365
abbrev fL_isText : Nat := 12
abbrev loL_isText : Nat := 335
abbrev fL_areRows : Nat := 12
abbrev loL_areRows : Nat := 335
abbrev fL_begins : Nat := 0
abbrev loL_begins : Nat := 0
abbrev fL_makes : Nat := 0
abbrev loL_makes : Nat := 0
abbrev fL_goes : Nat := 0
abbrev loL_goes : Nat := 0
abbrev fL_isStep : Nat := 10
abbrev loL_isStep : Nat := 193
abbrev fL_isSet : Nat := 10
abbrev loL_isSet : Nat := 193
abbrev fL_isMoved : Nat := 10
abbrev loL_isMoved : Nat := 193
abbrev fL_isUndone : Nat := 10
abbrev loL_isUndone : Nat := 193
abbrev fL_isDone : Nat := 11
abbrev loL_isDone : Nat := 235
section PCS
variable {M : MI} {fr lo mc ms bc bs pc : Nat} {Q : AH → AO → Prop} {h : AH} {loc : AL} {st : List AV}
theorem AW.pcs {pc2 : Nat} (e : pc = pc2) (k : AW M fr lo mc ms Q bc bs pc2 h loc st) : AW M fr lo mc ms Q bc bs pc h loc st := by subst e; exact k
def lsub (loc : AL) : AL → Prop
  | [] => True
  | q :: r => lget loc q.1 = some q.2 ∧ lsub loc r
theorem lsub_mem : ∀ {l : AL}, lsub loc l → ∀ q ∈ l, q ∈ loc
  | [], _, _, h => by cases h
  | q :: r, hl, z, h => by
    rcases List.mem_cons.mp h with rfl | h
    · exact lget_mem hl.1
    · exact lsub_mem hl.2 z h
/-- fewer locals, in any order -/
theorem AW.locs (loc2 : AL) (hs : lsub loc loc2) (k : AW M fr lo mc ms Q bc bs pc h loc2 st) : AW M fr lo mc ms Q bc bs pc h loc st := by
  intro p l e s m args below meth c D dA B0 H0 C dom0 al0 al H locs cells slots ls hZ hA hS hc hs9 ho hv hl9
  refine k p l e s m args below meth c D dA B0 H0 C dom0 al0 al H locs cells slots ls hZ hA hS hc hs9 (fun q hq => ho q (lsub_mem hs q hq)) hv ⟨hl9.1, hl9.2.1, fun q hq => ?_⟩
  obtain ⟨w, hw, e9⟩ := List.mem_map.mp hq
  exact hl9.2.2 q (List.mem_map.mpr ⟨w, lsub_mem hs w hw, e9⟩)
theorem AW.heq {h2 : AH} (e : h = h2) (k : AW M fr lo mc ms Q bc bs pc h2 loc st) : AW M fr lo mc ms Q bc bs pc h loc st := by subst e; exact k
end PCS
