theorem bp_6 : ((Int8.ofInt (6)).toInt32 == Int32.ofInt (6)) = true := by decide +kernel
theorem bp_8 : ((Int8.ofInt (8)).toInt32 == Int32.ofInt (8)) = true := by decide +kernel
theorem bp_10 : ((Int8.ofInt (10)).toInt32 == Int32.ofInt (10)) = true := by decide +kernel
theorem bp_20 : ((Int8.ofInt (20)).toInt32 == Int32.ofInt (20)) = true := by decide +kernel
theorem bp_22 : ((Int8.ofInt (22)).toInt32 == Int32.ofInt (22)) = true := by decide +kernel
theorem bp_23 : ((Int8.ofInt (23)).toInt32 == Int32.ofInt (23)) = true := by decide +kernel
theorem bp_24 : ((Int8.ofInt (24)).toInt32 == Int32.ofInt (24)) = true := by decide +kernel
theorem bp_25 : ((Int8.ofInt (25)).toInt32 == Int32.ofInt (25)) = true := by decide +kernel
theorem bp_26 : ((Int8.ofInt (26)).toInt32 == Int32.ofInt (26)) = true := by decide +kernel
theorem bp_31 : ((Int8.ofInt (31)).toInt32 == Int32.ofInt (31)) = true := by decide +kernel
theorem bp_32 : ((Int8.ofInt (32)).toInt32 == Int32.ofInt (32)) = true := by decide +kernel
theorem bp_46 : ((Int8.ofInt (46)).toInt32 == Int32.ofInt (46)) = true := by decide +kernel
theorem bp_48 : ((Int8.ofInt (48)).toInt32 == Int32.ofInt (48)) = true := by decide +kernel
theorem bp_62 : ((Int8.ofInt (62)).toInt32 == Int32.ofInt (62)) = true := by decide +kernel
theorem bp_96 : ((Int8.ofInt (96)).toInt32 == Int32.ofInt (96)) = true := by decide +kernel
theorem bp_97 : ((Int8.ofInt (97)).toInt32 == Int32.ofInt (97)) = true := by decide +kernel
theorem bp_100 : ((Int8.ofInt (100)).toInt32 == Int32.ofInt (100)) = true := by decide +kernel
theorem bp_101 : ((Int8.ofInt (101)).toInt32 == Int32.ofInt (101)) = true := by decide +kernel
theorem bp_105 : ((Int8.ofInt (105)).toInt32 == Int32.ofInt (105)) = true := by decide +kernel
theorem bp_106 : ((Int8.ofInt (106)).toInt32 == Int32.ofInt (106)) = true := by decide +kernel
theorem bp_108 : ((Int8.ofInt (108)).toInt32 == Int32.ofInt (108)) = true := by decide +kernel
theorem bp_109 : ((Int8.ofInt (109)).toInt32 == Int32.ofInt (109)) = true := by decide +kernel
theorem bp_110 : ((Int8.ofInt (110)).toInt32 == Int32.ofInt (110)) = true := by decide +kernel
theorem bp_111 : ((Int8.ofInt (111)).toInt32 == Int32.ofInt (111)) = true := by decide +kernel
theorem bp_112 : ((Int8.ofInt (112)).toInt32 == Int32.ofInt (112)) = true := by decide +kernel
theorem bp_114 : ((Int8.ofInt (114)).toInt32 == Int32.ofInt (114)) = true := by decide +kernel
theorem bp_115 : ((Int8.ofInt (115)).toInt32 == Int32.ofInt (115)) = true := by decide +kernel
theorem bp_116 : ((Int8.ofInt (116)).toInt32 == Int32.ofInt (116)) = true := by decide +kernel
theorem bp_117 : ((Int8.ofInt (117)).toInt32 == Int32.ofInt (117)) = true := by decide +kernel
theorem sp_192 : ((Int16.ofInt (192)).toInt32 == Int32.ofInt (192)) = true := by decide +kernel
theorem sp_384 : ((Int16.ofInt (384)).toInt32 == Int32.ofInt (384)) = true := by decide +kernel
theorem sp_512 : ((Int16.ofInt (512)).toInt32 == Int32.ofInt (512)) = true := by decide +kernel
theorem sp_528 : ((Int16.ofInt (528)).toInt32 == Int32.ofInt (528)) = true := by decide +kernel
theorem sp_960 : ((Int16.ofInt (960)).toInt32 == Int32.ofInt (960)) = true := by decide +kernel
theorem sp_999 : ((Int16.ofInt (999)).toInt32 == Int32.ofInt (999)) = true := by decide +kernel
theorem sp_1056 : ((Int16.ofInt (1056)).toInt32 == Int32.ofInt (1056)) = true := by decide +kernel
theorem sp_4096 : ((Int16.ofInt (4096)).toInt32 == Int32.ofInt (4096)) = true := by decide +kernel
theorem sp_4608 : ((Int16.ofInt (4608)).toInt32 == Int32.ofInt (4608)) = true := by decide +kernel
theorem sp_8192 : ((Int16.ofInt (8192)).toInt32 == Int32.ofInt (8192)) = true := by decide +kernel
theorem sp_9999 : ((Int16.ofInt (9999)).toInt32 == Int32.ofInt (9999)) = true := by decide +kernel
theorem sp_10000 : ((Int16.ofInt (10000)).toInt32 == Int32.ofInt (10000)) = true := by decide +kernel
section PCS
variable {M : MI} {fr lo mc ms bc bs pc : Nat} {Q : AH → AO → Prop} {h : AH} {loc : AL} {st : List AV}
theorem AW.pcs {pc2 : Nat} (e : pc = pc2) (k : AW M fr lo mc ms Q bc bs pc2 h loc st) : AW M fr lo mc ms Q bc bs pc h loc st := by subst e; exact k
def lsub (loc : AL) : AL → Prop
  | [] => True
  | q :: r => lget loc q.1 = some q.2 ∧ lsub loc r
theorem lsub_mem : ∀ {l : AL}, lsub loc l → ∀ q ∈ l, q ∈ loc
  | [], _, _, h => by cases h
  | q :: r, hl, z, h => by
    rcases List.mem_cons.mp h with rfl | h
    · exact lget_mem hl.1
    · exact lsub_mem hl.2 z h
/-- fewer locals, in any order -/
theorem AW.locs (loc2 : AL) (hs : lsub loc loc2) (k : AW M fr lo mc ms Q bc bs pc h loc2 st) : AW M fr lo mc ms Q bc bs pc h loc st := by
  intro p l e s m args below meth c D dA B0 H0 C dom0 al0 al H locs cells slots ls hZ hA hS hc hs9 ho hv hl9
  refine k p l e s m args below meth c D dA B0 H0 C dom0 al0 al H locs cells slots ls hZ hA hS hc hs9 (fun q hq => ho q (lsub_mem hs q hq)) hv ⟨hl9.1, hl9.2.1, fun q hq => ?_⟩
  obtain ⟨w, hw, e9⟩ := List.mem_map.mp hq
  exact hl9.2.2 q (List.mem_map.mpr ⟨w, lsub_mem hs w hw, e9⟩)
theorem AW.heq {h2 : AH} (e : h = h2) (k : AW M fr lo mc ms Q bc bs pc h2 loc st) : AW M fr lo mc ms Q bc bs pc h loc st := by subst e; exact k
end PCS
