/-! ===== counting bits: the body ===== -/
section M1
variable {Q : AH → AO → Prop} {h : AH}
theorem dJ13_bitCount_0 : decode cJ13_bitCount_95d88 0 = .ok (.lload_n 0, 1) := by decide +kernel
theorem dJ13_bitCount_1 : decode cJ13_bitCount_95d88 1 = .ok (.lload_n 0, 1) := by decide +kernel
theorem dJ13_bitCount_2 : decode cJ13_bitCount_95d88 2 = .ok (.iconst 1, 1) := by decide +kernel
theorem dJ13_bitCount_3 : decode cJ13_bitCount_95d88 3 = .ok (.lushr, 1) := by decide +kernel
theorem dJ13_bitCount_4 : decode cJ13_bitCount_95d88 4 = .ok (.ldc2_w 314, 3) := by decide +kernel
theorem dJ13_bitCount_7 : decode cJ13_bitCount_95d88 7 = .ok (.land, 1) := by decide +kernel
theorem dJ13_bitCount_8 : decode cJ13_bitCount_95d88 8 = .ok (.lsub, 1) := by decide +kernel
theorem dJ13_bitCount_9 : decode cJ13_bitCount_95d88 9 = .ok (.lstore_n 0, 1) := by decide +kernel
theorem dJ13_bitCount_10 : decode cJ13_bitCount_95d88 10 = .ok (.lload_n 0, 1) := by decide +kernel
theorem dJ13_bitCount_11 : decode cJ13_bitCount_95d88 11 = .ok (.ldc2_w 316, 3) := by decide +kernel
theorem dJ13_bitCount_14 : decode cJ13_bitCount_95d88 14 = .ok (.land, 1) := by decide +kernel
theorem dJ13_bitCount_15 : decode cJ13_bitCount_95d88 15 = .ok (.lload_n 0, 1) := by decide +kernel
theorem dJ13_bitCount_16 : decode cJ13_bitCount_95d88 16 = .ok (.iconst 2, 1) := by decide +kernel
theorem dJ13_bitCount_17 : decode cJ13_bitCount_95d88 17 = .ok (.lushr, 1) := by decide +kernel
theorem dJ13_bitCount_18 : decode cJ13_bitCount_95d88 18 = .ok (.ldc2_w 316, 3) := by decide +kernel
theorem dJ13_bitCount_21 : decode cJ13_bitCount_95d88 21 = .ok (.land, 1) := by decide +kernel
theorem dJ13_bitCount_22 : decode cJ13_bitCount_95d88 22 = .ok (.ladd, 1) := by decide +kernel
theorem dJ13_bitCount_23 : decode cJ13_bitCount_95d88 23 = .ok (.lstore_n 0, 1) := by decide +kernel
theorem dJ13_bitCount_24 : decode cJ13_bitCount_95d88 24 = .ok (.lload_n 0, 1) := by decide +kernel
theorem dJ13_bitCount_25 : decode cJ13_bitCount_95d88 25 = .ok (.lload_n 0, 1) := by decide +kernel
theorem dJ13_bitCount_26 : decode cJ13_bitCount_95d88 26 = .ok (.iconst 4, 1) := by decide +kernel
theorem dJ13_bitCount_27 : decode cJ13_bitCount_95d88 27 = .ok (.lushr, 1) := by decide +kernel
theorem dJ13_bitCount_28 : decode cJ13_bitCount_95d88 28 = .ok (.ladd, 1) := by decide +kernel
theorem dJ13_bitCount_29 : decode cJ13_bitCount_95d88 29 = .ok (.ldc2_w 318, 3) := by decide +kernel
theorem dJ13_bitCount_32 : decode cJ13_bitCount_95d88 32 = .ok (.land, 1) := by decide +kernel
theorem dJ13_bitCount_33 : decode cJ13_bitCount_95d88 33 = .ok (.lstore_n 0, 1) := by decide +kernel
theorem dJ13_bitCount_34 : decode cJ13_bitCount_95d88 34 = .ok (.lload_n 0, 1) := by decide +kernel
theorem dJ13_bitCount_35 : decode cJ13_bitCount_95d88 35 = .ok (.lload_n 0, 1) := by decide +kernel
theorem dJ13_bitCount_36 : decode cJ13_bitCount_95d88 36 = .ok (.bipush 8, 2) := by decide +kernel
theorem dJ13_bitCount_38 : decode cJ13_bitCount_95d88 38 = .ok (.lushr, 1) := by decide +kernel
theorem dJ13_bitCount_39 : decode cJ13_bitCount_95d88 39 = .ok (.ladd, 1) := by decide +kernel
theorem dJ13_bitCount_40 : decode cJ13_bitCount_95d88 40 = .ok (.lstore_n 0, 1) := by decide +kernel
theorem dJ13_bitCount_41 : decode cJ13_bitCount_95d88 41 = .ok (.lload_n 0, 1) := by decide +kernel
theorem dJ13_bitCount_42 : decode cJ13_bitCount_95d88 42 = .ok (.lload_n 0, 1) := by decide +kernel
theorem dJ13_bitCount_43 : decode cJ13_bitCount_95d88 43 = .ok (.bipush 16, 2) := by decide +kernel
theorem dJ13_bitCount_45 : decode cJ13_bitCount_95d88 45 = .ok (.lushr, 1) := by decide +kernel
theorem dJ13_bitCount_46 : decode cJ13_bitCount_95d88 46 = .ok (.ladd, 1) := by decide +kernel
theorem dJ13_bitCount_47 : decode cJ13_bitCount_95d88 47 = .ok (.lstore_n 0, 1) := by decide +kernel
theorem dJ13_bitCount_48 : decode cJ13_bitCount_95d88 48 = .ok (.lload_n 0, 1) := by decide +kernel
theorem dJ13_bitCount_49 : decode cJ13_bitCount_95d88 49 = .ok (.lload_n 0, 1) := by decide +kernel
theorem dJ13_bitCount_50 : decode cJ13_bitCount_95d88 50 = .ok (.bipush 32, 2) := by decide +kernel
theorem dJ13_bitCount_52 : decode cJ13_bitCount_95d88 52 = .ok (.lushr, 1) := by decide +kernel
theorem dJ13_bitCount_53 : decode cJ13_bitCount_95d88 53 = .ok (.ladd, 1) := by decide +kernel
theorem dJ13_bitCount_54 : decode cJ13_bitCount_95d88 54 = .ok (.lstore_n 0, 1) := by decide +kernel
theorem dJ13_bitCount_55 : decode cJ13_bitCount_95d88 55 = .ok (.lload_n 0, 1) := by decide +kernel
theorem dJ13_bitCount_56 : decode cJ13_bitCount_95d88 56 = .ok (.l2i, 1) := by decide +kernel
theorem dJ13_bitCount_57 : decode cJ13_bitCount_95d88 57 = .ok (.bipush 127, 2) := by decide +kernel
theorem dJ13_bitCount_59 : decode cJ13_bitCount_95d88 59 = .ok (.iand, 1) := by decide +kernel
theorem dJ13_bitCount_60 : decode cJ13_bitCount_95d88 60 = .ok (.ireturn, 1) := by decide +kernel
theorem bpl_16 : ((Int8.ofInt (16)).toInt32 == Int32.ofInt (16)) = true := by decide +kernel
theorem bpl_127 : ((Int8.ofInt (127)).toInt32 == Int32.ofInt (127)) = true := by decide +kernel
theorem bpl_8 : ((Int8.ofInt (8)).toInt32 == Int32.ofInt (8)) = true := by decide +kernel
theorem bpl_32 : ((Int8.ofInt (32)).toInt32 == Int32.ofInt (32)) = true := by decide +kernel
set_option maxHeartbeats 1000000 in
theorem kJ13_bitCount {x : Int64} (k : Q h (.inl (some (vi (bcv x))))) : AC mJ13_bitCount 0 0 0 0 h [vl x] Q := by
  refine AC.mk (by decide) (Nat.le_of_ble_eq_true rfl) ?_
  refine AW.lload_n dJ13_bitCount_0 rfl ?_
  refine AW.lload_n dJ13_bitCount_1 rfl ?_
  refine AW.iconst dJ13_bitCount_2 (by decide) ?_
  refine AW.lushr (k9 := 1) dJ13_bitCount_3 (by decide) ?_
  refine AW.ldc2 dJ13_bitCount_4 lkJ13_314 ?_
  refine AW.land dJ13_bitCount_7 ?_
  refine AW.lsub dJ13_bitCount_8 ?_
  refine AW.lstore_n dJ13_bitCount_9 rfl ?_
  refine AW.locs [(0, vl (bc1 x))] ⟨rfl, trivial⟩ ?_
  refine AW.lload_n dJ13_bitCount_10 rfl ?_
  refine AW.ldc2 dJ13_bitCount_11 lkJ13_316 ?_
  refine AW.land dJ13_bitCount_14 ?_
  refine AW.lload_n dJ13_bitCount_15 rfl ?_
  refine AW.iconst dJ13_bitCount_16 (by decide) ?_
  refine AW.lushr (k9 := 2) dJ13_bitCount_17 (by decide) ?_
  refine AW.ldc2 dJ13_bitCount_18 lkJ13_316 ?_
  refine AW.land dJ13_bitCount_21 ?_
  refine AW.ladd dJ13_bitCount_22 ?_
  refine AW.lstore_n dJ13_bitCount_23 rfl ?_
  refine AW.locs [(0, vl (bc2 (bc1 x)))] ⟨rfl, trivial⟩ ?_
  refine AW.lload_n dJ13_bitCount_24 rfl ?_
  refine AW.lload_n dJ13_bitCount_25 rfl ?_
  refine AW.iconst dJ13_bitCount_26 (by decide) ?_
  refine AW.lushr (k9 := 4) dJ13_bitCount_27 (by decide) ?_
  refine AW.ladd dJ13_bitCount_28 ?_
  refine AW.ldc2 dJ13_bitCount_29 lkJ13_318 ?_
  refine AW.land dJ13_bitCount_32 ?_
  refine AW.lstore_n dJ13_bitCount_33 rfl ?_
  refine AW.locs [(0, vl (bc3 (bc2 (bc1 x))))] ⟨rfl, trivial⟩ ?_
  refine AW.lload_n dJ13_bitCount_34 rfl ?_
  refine AW.lload_n dJ13_bitCount_35 rfl ?_
  refine AW.bipush dJ13_bitCount_36 bpl_8 (by decide) ?_
  refine AW.lushr (k9 := 8) dJ13_bitCount_38 (by decide) ?_
  refine AW.ladd dJ13_bitCount_39 ?_
  refine AW.lstore_n dJ13_bitCount_40 rfl ?_
  refine AW.locs [(0, vl (bc4 (bc3 (bc2 (bc1 x))) 8))] ⟨rfl, trivial⟩ ?_
  refine AW.lload_n dJ13_bitCount_41 rfl ?_
  refine AW.lload_n dJ13_bitCount_42 rfl ?_
  refine AW.bipush dJ13_bitCount_43 bpl_16 (by decide) ?_
  refine AW.lushr (k9 := 16) dJ13_bitCount_45 (by decide) ?_
  refine AW.ladd dJ13_bitCount_46 ?_
  refine AW.lstore_n dJ13_bitCount_47 rfl ?_
  refine AW.locs [(0, vl (bc4 (bc4 (bc3 (bc2 (bc1 x))) 8) 16))] ⟨rfl, trivial⟩ ?_
  refine AW.lload_n dJ13_bitCount_48 rfl ?_
  refine AW.lload_n dJ13_bitCount_49 rfl ?_
  refine AW.bipush dJ13_bitCount_50 bpl_32 (by decide) ?_
  refine AW.lushr (k9 := 32) dJ13_bitCount_52 (by decide) ?_
  refine AW.ladd dJ13_bitCount_53 ?_
  refine AW.lstore_n dJ13_bitCount_54 rfl ?_
  refine AW.locs [(0, vl (bc4 (bc4 (bc4 (bc3 (bc2 (bc1 x))) 8) 16) 32))] ⟨rfl, trivial⟩ ?_
  refine AW.lload_n dJ13_bitCount_55 rfl ?_
  refine AW.l2i dJ13_bitCount_56 ?_
  refine AW.bipush dJ13_bitCount_57 bpl_127 (by decide) ?_
  refine AW.iand dJ13_bitCount_59 ?_
  exact AW.iret dJ13_bitCount_60 rfl k
end M1
