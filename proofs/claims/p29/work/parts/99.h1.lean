/-! ===== the law's doings: steps, sets, movers' moves ===== -/
section H1
variable {Q : AH → AO → Prop} {h g h1 G : AH} {Z Y : ZT} {c b L r n : Nat} {mc ms bc bs : Nat}
abbrev ldb (i : Int) : AL := [(0, vr mF), (1, vr nS), (2, vi i), (3, vr (la 1)), (4, vr (la 2)), (5, vr (la 3)), (6, vr (la 4)), (7, vr (la 5)), (8, vr (la 6)), (9, vr (la 7)), (10, vr (la 8)), (11, vr (la 9)), (12, vr (la 10)), (13, vr (la 11))]
abbrev ldn (i wh o1 o2 o3 : Int) : AL := (14, vi wh) :: (15, vi o1) :: (16, vi o2) :: (17, vi o3) :: ldb i
/-- the draws' ranges -/
def DRW (wh o1 o2 o3 : Int) : Prop := (0 ≤ wh ∧ wh < 40) ∧ (0 ≤ o1 ∧ o1 < 6000) ∧ (0 ≤ o2 ∧ o2 < 7000) ∧ 0 ≤ o3 ∧ o3 < 8000
theorem tmod_b {x y : Int} (hx : 0 ≤ x) (hy : 0 < y) : 0 ≤ x.tmod y ∧ x.tmod y < y := ⟨Int.tmod_nonneg y hx, Int.tmod_lt_of_pos x hy⟩
set_option maxHeartbeats 2000000 in
theorem dn_stp {i wh o1 o2 o3 : Int} (J : IV L h Z c b) (V : JV h Z) (D : DRW wh o1 o2 o3) (hw : wh < 15) (k : ∀ g Y c', c' ≤ c + 1 → IV L g Y c' b → JV g Y → Q g (.inl (some (vi 1)))) : AW mL_isDone fL_isDone loL_isDone 20 300 Q 20 300 45 h (ldn i wh o1 o2 o3) [] := by
  obtain ⟨d0, d1, d2, d3⟩ := D
  have s128 : ∀ w : Int, 0 ≤ w ∧ w ≤ 6 → AW mL_isDone fL_isDone loL_isDone 20 300 Q 20 300 128 h (ldn i wh o1 o2 o3) [vi w, vr (la 4), vr (la 3), vr (la 2), vr (la 1), vr mF] := fun w hw => by
    refine AW.iload dL_isDone_128 rfl ?_
    refine AW.iload dL_isDone_130 rfl ?_
    refine AW.iload dL_isDone_132 rfl ?_
    refine AW.callS (as := [vq _, vq _, vq _, vq _, vq _, vi _, vi _, vi _, vi _]) dL_isDone_134 rfl rfl rfl okL_isStep lkL_163 rfl rfl rfl (leb (by omega)) (leb (by omega)) rfl (kL_isStep (w := w) J V hw (by omega) (by omega) (by omega) (fun g Y J' V' => (AW.k1 ?_)))
    refine AW.zret dL_isDone_137 rfl ?_ ?_
    · omega
    exact k _ _ c (by omega) J' V'
  have cs : wh < 6 ∨ wh = 6 ∨ (7 ≤ wh ∧ wh < 9) ∨ (9 ≤ wh ∧ wh < 11) ∨ (11 ≤ wh ∧ wh < 13) ∨ wh = 13 ∨ wh = 14 := by omega
  rcases cs with e | e | e | e | e | e | e
  · refine AW.iload dL_isDone_45 rfl ?_
    refine AW.bipush dL_isDone_47 bp_15 (by decide) ?_
    refine AW.icmp_geF (tgt := 138) dL_isDone_49 rfl (by omega) ?_
    refine AW.aload_n dL_isDone_52 rfl ?_
    refine AW.aload_n dL_isDone_53 rfl ?_
    refine AW.aload dL_isDone_54 rfl ?_
    refine AW.aload dL_isDone_56 rfl ?_
    refine AW.aload dL_isDone_58 rfl ?_
    refine AW.iload dL_isDone_60 rfl ?_
    refine AW.bipush dL_isDone_62 bp_6 (by decide) ?_
    refine AW.icmp_geF (tgt := 71) dL_isDone_64 rfl (by omega) ?_
    refine AW.iconst dL_isDone_67 (by decide) ?_
    refine AW.goto (tgt := 128) dL_isDone_68 rfl ?_
    exact s128 _ (by omega)
  · refine AW.iload dL_isDone_45 rfl ?_
    refine AW.bipush dL_isDone_47 bp_15 (by decide) ?_
    refine AW.icmp_geF (tgt := 138) dL_isDone_49 rfl (by omega) ?_
    refine AW.aload_n dL_isDone_52 rfl ?_
    refine AW.aload_n dL_isDone_53 rfl ?_
    refine AW.aload dL_isDone_54 rfl ?_
    refine AW.aload dL_isDone_56 rfl ?_
    refine AW.aload dL_isDone_58 rfl ?_
    refine AW.iload dL_isDone_60 rfl ?_
    refine AW.bipush dL_isDone_62 bp_6 (by decide) ?_
    refine AW.icmp_geT (tgt := 71) dL_isDone_64 rfl (by omega) ?_
    refine AW.iload dL_isDone_71 rfl ?_
    refine AW.bipush dL_isDone_73 bp_7 (by decide) ?_
    refine AW.icmp_geF (tgt := 82) dL_isDone_75 rfl (by omega) ?_
    refine AW.iconst dL_isDone_78 (by decide) ?_
    refine AW.goto (tgt := 128) dL_isDone_79 rfl ?_
    exact s128 _ (by omega)
  · refine AW.iload dL_isDone_45 rfl ?_
    refine AW.bipush dL_isDone_47 bp_15 (by decide) ?_
    refine AW.icmp_geF (tgt := 138) dL_isDone_49 rfl (by omega) ?_
    refine AW.aload_n dL_isDone_52 rfl ?_
    refine AW.aload_n dL_isDone_53 rfl ?_
    refine AW.aload dL_isDone_54 rfl ?_
    refine AW.aload dL_isDone_56 rfl ?_
    refine AW.aload dL_isDone_58 rfl ?_
    refine AW.iload dL_isDone_60 rfl ?_
    refine AW.bipush dL_isDone_62 bp_6 (by decide) ?_
    refine AW.icmp_geT (tgt := 71) dL_isDone_64 rfl (by omega) ?_
    refine AW.iload dL_isDone_71 rfl ?_
    refine AW.bipush dL_isDone_73 bp_7 (by decide) ?_
    refine AW.icmp_geT (tgt := 82) dL_isDone_75 rfl (by omega) ?_
    refine AW.iload dL_isDone_82 rfl ?_
    refine AW.bipush dL_isDone_84 bp_9 (by decide) ?_
    refine AW.icmp_geF (tgt := 93) dL_isDone_86 rfl (by omega) ?_
    refine AW.iconst dL_isDone_89 (by decide) ?_
    refine AW.goto (tgt := 128) dL_isDone_90 rfl ?_
    exact s128 _ (by omega)
  · refine AW.iload dL_isDone_45 rfl ?_
    refine AW.bipush dL_isDone_47 bp_15 (by decide) ?_
    refine AW.icmp_geF (tgt := 138) dL_isDone_49 rfl (by omega) ?_
    refine AW.aload_n dL_isDone_52 rfl ?_
    refine AW.aload_n dL_isDone_53 rfl ?_
    refine AW.aload dL_isDone_54 rfl ?_
    refine AW.aload dL_isDone_56 rfl ?_
    refine AW.aload dL_isDone_58 rfl ?_
    refine AW.iload dL_isDone_60 rfl ?_
    refine AW.bipush dL_isDone_62 bp_6 (by decide) ?_
    refine AW.icmp_geT (tgt := 71) dL_isDone_64 rfl (by omega) ?_
    refine AW.iload dL_isDone_71 rfl ?_
    refine AW.bipush dL_isDone_73 bp_7 (by decide) ?_
    refine AW.icmp_geT (tgt := 82) dL_isDone_75 rfl (by omega) ?_
    refine AW.iload dL_isDone_82 rfl ?_
    refine AW.bipush dL_isDone_84 bp_9 (by decide) ?_
    refine AW.icmp_geT (tgt := 93) dL_isDone_86 rfl (by omega) ?_
    refine AW.iload dL_isDone_93 rfl ?_
    refine AW.bipush dL_isDone_95 bp_11 (by decide) ?_
    refine AW.icmp_geF (tgt := 104) dL_isDone_97 rfl (by omega) ?_
    refine AW.iconst dL_isDone_100 (by decide) ?_
    refine AW.goto (tgt := 128) dL_isDone_101 rfl ?_
    exact s128 _ (by omega)
  · refine AW.iload dL_isDone_45 rfl ?_
    refine AW.bipush dL_isDone_47 bp_15 (by decide) ?_
    refine AW.icmp_geF (tgt := 138) dL_isDone_49 rfl (by omega) ?_
    refine AW.aload_n dL_isDone_52 rfl ?_
    refine AW.aload_n dL_isDone_53 rfl ?_
    refine AW.aload dL_isDone_54 rfl ?_
    refine AW.aload dL_isDone_56 rfl ?_
    refine AW.aload dL_isDone_58 rfl ?_
    refine AW.iload dL_isDone_60 rfl ?_
    refine AW.bipush dL_isDone_62 bp_6 (by decide) ?_
    refine AW.icmp_geT (tgt := 71) dL_isDone_64 rfl (by omega) ?_
    refine AW.iload dL_isDone_71 rfl ?_
    refine AW.bipush dL_isDone_73 bp_7 (by decide) ?_
    refine AW.icmp_geT (tgt := 82) dL_isDone_75 rfl (by omega) ?_
    refine AW.iload dL_isDone_82 rfl ?_
    refine AW.bipush dL_isDone_84 bp_9 (by decide) ?_
    refine AW.icmp_geT (tgt := 93) dL_isDone_86 rfl (by omega) ?_
    refine AW.iload dL_isDone_93 rfl ?_
    refine AW.bipush dL_isDone_95 bp_11 (by decide) ?_
    refine AW.icmp_geT (tgt := 104) dL_isDone_97 rfl (by omega) ?_
    refine AW.iload dL_isDone_104 rfl ?_
    refine AW.bipush dL_isDone_106 bp_13 (by decide) ?_
    refine AW.icmp_geF (tgt := 115) dL_isDone_108 rfl (by omega) ?_
    refine AW.pcs (pc2 := 111) rfl ?_
    refine AW.iconst dL_isDone_111 (by decide) ?_
    refine AW.goto (tgt := 128) dL_isDone_112 rfl ?_
    exact s128 _ (by omega)
  · refine AW.iload dL_isDone_45 rfl ?_
    refine AW.bipush dL_isDone_47 bp_15 (by decide) ?_
    refine AW.icmp_geF (tgt := 138) dL_isDone_49 rfl (by omega) ?_
    refine AW.aload_n dL_isDone_52 rfl ?_
    refine AW.aload_n dL_isDone_53 rfl ?_
    refine AW.aload dL_isDone_54 rfl ?_
    refine AW.aload dL_isDone_56 rfl ?_
    refine AW.aload dL_isDone_58 rfl ?_
    refine AW.iload dL_isDone_60 rfl ?_
    refine AW.bipush dL_isDone_62 bp_6 (by decide) ?_
    refine AW.icmp_geT (tgt := 71) dL_isDone_64 rfl (by omega) ?_
    refine AW.iload dL_isDone_71 rfl ?_
    refine AW.bipush dL_isDone_73 bp_7 (by decide) ?_
    refine AW.icmp_geT (tgt := 82) dL_isDone_75 rfl (by omega) ?_
    refine AW.iload dL_isDone_82 rfl ?_
    refine AW.bipush dL_isDone_84 bp_9 (by decide) ?_
    refine AW.icmp_geT (tgt := 93) dL_isDone_86 rfl (by omega) ?_
    refine AW.iload dL_isDone_93 rfl ?_
    refine AW.bipush dL_isDone_95 bp_11 (by decide) ?_
    refine AW.icmp_geT (tgt := 104) dL_isDone_97 rfl (by omega) ?_
    refine AW.iload dL_isDone_104 rfl ?_
    refine AW.bipush dL_isDone_106 bp_13 (by decide) ?_
    refine AW.icmp_geT (tgt := 115) dL_isDone_108 rfl (by omega) ?_
    refine AW.pcs (pc2 := 115) rfl ?_
    refine AW.iload dL_isDone_115 rfl ?_
    refine AW.bipush dL_isDone_117 bp_13 (by decide) ?_
    refine AW.icmp_neF (tgt := 126) dL_isDone_119 rfl (by omega) ?_
    refine AW.iconst dL_isDone_122 (by decide) ?_
    refine AW.goto (tgt := 128) dL_isDone_123 rfl ?_
    exact s128 _ (by omega)
  · refine AW.iload dL_isDone_45 rfl ?_
    refine AW.bipush dL_isDone_47 bp_15 (by decide) ?_
    refine AW.icmp_geF (tgt := 138) dL_isDone_49 rfl (by omega) ?_
    refine AW.aload_n dL_isDone_52 rfl ?_
    refine AW.aload_n dL_isDone_53 rfl ?_
    refine AW.aload dL_isDone_54 rfl ?_
    refine AW.aload dL_isDone_56 rfl ?_
    refine AW.aload dL_isDone_58 rfl ?_
    refine AW.iload dL_isDone_60 rfl ?_
    refine AW.bipush dL_isDone_62 bp_6 (by decide) ?_
    refine AW.icmp_geT (tgt := 71) dL_isDone_64 rfl (by omega) ?_
    refine AW.iload dL_isDone_71 rfl ?_
    refine AW.bipush dL_isDone_73 bp_7 (by decide) ?_
    refine AW.icmp_geT (tgt := 82) dL_isDone_75 rfl (by omega) ?_
    refine AW.iload dL_isDone_82 rfl ?_
    refine AW.bipush dL_isDone_84 bp_9 (by decide) ?_
    refine AW.icmp_geT (tgt := 93) dL_isDone_86 rfl (by omega) ?_
    refine AW.iload dL_isDone_93 rfl ?_
    refine AW.bipush dL_isDone_95 bp_11 (by decide) ?_
    refine AW.icmp_geT (tgt := 104) dL_isDone_97 rfl (by omega) ?_
    refine AW.iload dL_isDone_104 rfl ?_
    refine AW.bipush dL_isDone_106 bp_13 (by decide) ?_
    refine AW.icmp_geT (tgt := 115) dL_isDone_108 rfl (by omega) ?_
    refine AW.pcs (pc2 := 115) rfl ?_
    refine AW.iload dL_isDone_115 rfl ?_
    refine AW.bipush dL_isDone_117 bp_13 (by decide) ?_
    refine AW.icmp_neT (tgt := 126) dL_isDone_119 rfl (by omega) ?_
    refine AW.bipush dL_isDone_126 bp_6 (by decide) ?_
    exact s128 _ (by omega)
set_option maxHeartbeats 2000000 in
theorem dn_set {i wh o1 o2 o3 : Int} (J : IV L h Z c b) (V : JV h Z) (hc : c < 512) (D : DRW wh o1 o2 o3) (hw : 19 ≤ wh ∧ wh < 27) (k : ∀ g Y c', c' ≤ c + 1 → IV L g Y c' b → JV g Y → Q g (.inl (some (vi 1)))) : AW mL_isDone fL_isDone loL_isDone 20 300 Q 20 300 45 h (ldn i wh o1 o2 o3) [] := by
  obtain ⟨d0, d1, d2, d3⟩ := D
  have v2 := V.b2
  have m9 := tmod_b (x := o3) (y := 9) d3.1 (by decide)
  have m7 := tmod_b (x := o2) (y := 7) d2.1 (by decide)
  have q9 : 0 ≤ o3.tdiv 9 := Int.tdiv_nonneg d3.1 (by decide)
  have s374 : ∀ r : Int, 0 ≤ r ∧ r ≤ Z 19 0 → AW mL_isDone fL_isDone loL_isDone 20 300 Q 20 300 374 h (ldn i wh o1 o2 o3) [vi r] := fun r hr => by
    obtain ⟨r, rfl⟩ := Int.eq_ofNat_of_zero_le hr.1
    have s454 : ∀ x : Int, -1 ≤ x ∧ x ≤ 10000 → AW mL_isDone fL_isDone loL_isDone 20 300 Q 20 300 454 h ((18, vi (r : Int)) :: ldn i wh o1 o2 o3) [vi x, vi (o2.tmod 7), vi (r : Int), vr (la 8), vr (la 6), vr (la 5), vr (la 4), vr (la 3), vr (la 1), vr mF] := fun x hx => by
      refine AW.callS (as := [vq _, vq _, vq _, vq _, vq _, vq _, vq _, vi _, vi _, vi _]) dL_isDone_454 rfl rfl rfl okL_isSet lkL_167 rfl rfl rfl (leb (by omega)) (leb (by omega)) rfl (kL_isSet (r := r) (n := o2.tmod 7) (x := x) J V hc hr.2 (by omega) hx (fun g Y c' hc' J' V' => (AW.k1 ?_)))
      refine AW.zret dL_isDone_457 rfl ?_ ?_
      · omega
      exact k _ _ c' hc' J' V'
    by_cases e0 : o3.tmod 9 = 0
    · refine AW.istore dL_isDone_374 rfl ?_
      refine AW.aload_n dL_isDone_376 rfl ?_
      refine AW.aload_n dL_isDone_377 rfl ?_
      refine AW.aload dL_isDone_378 rfl ?_
      refine AW.aload dL_isDone_380 rfl ?_
      refine AW.aload dL_isDone_382 rfl ?_
      refine AW.aload dL_isDone_384 rfl ?_
      refine AW.aload dL_isDone_386 rfl ?_
      refine AW.iload dL_isDone_388 rfl ?_
      refine AW.iload dL_isDone_390 rfl ?_
      refine AW.bipush dL_isDone_392 bp_7 (by decide) ?_
      refine AW.irem dL_isDone_394 (by omega) ?_
      refine AW.iload dL_isDone_395 rfl ?_
      refine AW.bipush dL_isDone_397 bp_9 (by decide) ?_
      refine AW.irem dL_isDone_399 (by omega) ?_
      refine AW.if_neF (tgt := 407) dL_isDone_400 rfl (by exact e0) ?_
      refine AW.iconst dL_isDone_403 (by decide) ?_
      refine AW.goto (tgt := 454) dL_isDone_404 rfl ?_
      exact s454 _ (by omega)
    · by_cases e1 : o3.tmod 9 < 3
      · have mm := tmod_b (x := o3.tdiv 9) (y := 2) q9 (by decide)
        refine AW.istore dL_isDone_374 rfl ?_
        refine AW.aload_n dL_isDone_376 rfl ?_
        refine AW.aload_n dL_isDone_377 rfl ?_
        refine AW.aload dL_isDone_378 rfl ?_
        refine AW.aload dL_isDone_380 rfl ?_
        refine AW.aload dL_isDone_382 rfl ?_
        refine AW.aload dL_isDone_384 rfl ?_
        refine AW.aload dL_isDone_386 rfl ?_
        refine AW.iload dL_isDone_388 rfl ?_
        refine AW.iload dL_isDone_390 rfl ?_
        refine AW.bipush dL_isDone_392 bp_7 (by decide) ?_
        refine AW.irem dL_isDone_394 (by omega) ?_
        refine AW.iload dL_isDone_395 rfl ?_
        refine AW.bipush dL_isDone_397 bp_9 (by decide) ?_
        refine AW.irem dL_isDone_399 (by omega) ?_
        refine AW.if_neT (tgt := 407) dL_isDone_400 rfl (by exact e0) ?_
        refine AW.iload dL_isDone_407 rfl ?_
        refine AW.bipush dL_isDone_409 bp_9 (by decide) ?_
        refine AW.irem dL_isDone_411 (by omega) ?_
        refine AW.iconst dL_isDone_412 (by decide) ?_
        refine AW.icmp_geF (tgt := 426) dL_isDone_413 rfl (by omega) ?_
        refine AW.iload dL_isDone_416 rfl ?_
        refine AW.bipush dL_isDone_418 bp_9 (by decide) ?_
        refine AW.pcs (pc2 := 420) rfl ?_
        refine AW.idiv dL_isDone_420 (by omega) ?_
        refine AW.iconst dL_isDone_421 (by decide) ?_
        refine AW.irem dL_isDone_422 (by omega) ?_
        refine AW.goto (tgt := 454) dL_isDone_423 rfl ?_
        exact s454 _ (by omega)
      · by_cases e2 : o3.tmod 9 < 6
        · have mm := tmod_b (x := o3.tdiv 9) (y := 1000) q9 (by decide)
          refine AW.istore dL_isDone_374 rfl ?_
          refine AW.aload_n dL_isDone_376 rfl ?_
          refine AW.aload_n dL_isDone_377 rfl ?_
          refine AW.aload dL_isDone_378 rfl ?_
          refine AW.aload dL_isDone_380 rfl ?_
          refine AW.aload dL_isDone_382 rfl ?_
          refine AW.aload dL_isDone_384 rfl ?_
          refine AW.aload dL_isDone_386 rfl ?_
          refine AW.iload dL_isDone_388 rfl ?_
          refine AW.iload dL_isDone_390 rfl ?_
          refine AW.bipush dL_isDone_392 bp_7 (by decide) ?_
          refine AW.irem dL_isDone_394 (by omega) ?_
          refine AW.iload dL_isDone_395 rfl ?_
          refine AW.bipush dL_isDone_397 bp_9 (by decide) ?_
          refine AW.irem dL_isDone_399 (by omega) ?_
          refine AW.if_neT (tgt := 407) dL_isDone_400 rfl (by exact e0) ?_
          refine AW.iload dL_isDone_407 rfl ?_
          refine AW.bipush dL_isDone_409 bp_9 (by decide) ?_
          refine AW.irem dL_isDone_411 (by omega) ?_
          refine AW.iconst dL_isDone_412 (by decide) ?_
          refine AW.icmp_geT (tgt := 426) dL_isDone_413 rfl (by omega) ?_
          refine AW.iload dL_isDone_426 rfl ?_
          refine AW.bipush dL_isDone_428 bp_9 (by decide) ?_
          refine AW.pcs (pc2 := 430) rfl ?_
          refine AW.irem dL_isDone_430 (by omega) ?_
          refine AW.bipush dL_isDone_431 bp_6 (by decide) ?_
          refine AW.icmp_geF (tgt := 448) dL_isDone_433 rfl (by omega) ?_
          refine AW.iload dL_isDone_436 rfl ?_
          refine AW.bipush dL_isDone_438 bp_9 (by decide) ?_
          refine AW.idiv dL_isDone_440 (by omega) ?_
          refine AW.sipush dL_isDone_441 sp_1000 (by decide) ?_
          refine AW.irem dL_isDone_444 (by omega) ?_
          refine AW.goto (tgt := 454) dL_isDone_445 rfl ?_
          exact s454 _ (by omega)
        · have mm := tmod_b (x := o3) (y := 10001) d3.1 (by decide)
          refine AW.istore dL_isDone_374 rfl ?_
          refine AW.aload_n dL_isDone_376 rfl ?_
          refine AW.aload_n dL_isDone_377 rfl ?_
          refine AW.aload dL_isDone_378 rfl ?_
          refine AW.aload dL_isDone_380 rfl ?_
          refine AW.aload dL_isDone_382 rfl ?_
          refine AW.aload dL_isDone_384 rfl ?_
          refine AW.aload dL_isDone_386 rfl ?_
          refine AW.iload dL_isDone_388 rfl ?_
          refine AW.iload dL_isDone_390 rfl ?_
          refine AW.bipush dL_isDone_392 bp_7 (by decide) ?_
          refine AW.irem dL_isDone_394 (by omega) ?_
          refine AW.iload dL_isDone_395 rfl ?_
          refine AW.bipush dL_isDone_397 bp_9 (by decide) ?_
          refine AW.irem dL_isDone_399 (by omega) ?_
          refine AW.if_neT (tgt := 407) dL_isDone_400 rfl (by exact e0) ?_
          refine AW.iload dL_isDone_407 rfl ?_
          refine AW.bipush dL_isDone_409 bp_9 (by decide) ?_
          refine AW.irem dL_isDone_411 (by omega) ?_
          refine AW.iconst dL_isDone_412 (by decide) ?_
          refine AW.icmp_geT (tgt := 426) dL_isDone_413 rfl (by omega) ?_
          refine AW.iload dL_isDone_426 rfl ?_
          refine AW.bipush dL_isDone_428 bp_9 (by decide) ?_
          refine AW.pcs (pc2 := 430) rfl ?_
          refine AW.irem dL_isDone_430 (by omega) ?_
          refine AW.bipush dL_isDone_431 bp_6 (by decide) ?_
          refine AW.icmp_geT (tgt := 448) dL_isDone_433 rfl (by omega) ?_
          refine AW.iload dL_isDone_448 rfl ?_
          refine AW.sipush dL_isDone_450 sp_10001 (by decide) ?_
          refine AW.irem dL_isDone_453 (by omega) ?_
          exact s454 _ (by omega)
  by_cases e0 : o1.tmod 20 = 0
  · refine AW.iload dL_isDone_45 rfl ?_
    refine AW.bipush dL_isDone_47 bp_15 (by decide) ?_
    refine AW.icmp_geT (tgt := 138) dL_isDone_49 rfl (by omega) ?_
    refine AW.iload dL_isDone_138 rfl ?_
    refine AW.bipush dL_isDone_140 bp_19 (by decide) ?_
    refine AW.icmp_geT (tgt := 338) dL_isDone_142 rfl (by omega) ?_
    refine AW.iload dL_isDone_338 rfl ?_
    refine AW.bipush dL_isDone_340 bp_27 (by decide) ?_
    refine AW.icmp_geF (tgt := 458) dL_isDone_342 rfl (by omega) ?_
    refine AW.iload dL_isDone_345 rfl ?_
    refine AW.bipush dL_isDone_347 bp_20 (by decide) ?_
    refine AW.irem dL_isDone_349 (by omega) ?_
    refine AW.if_eqT (tgt := 360) dL_isDone_350 rfl (by exact e0) ?_
    refine AW.aload dL_isDone_360 rfl ?_
    refine AW.iconst dL_isDone_362 (by decide) ?_
    refine AW.aldIE dL_isDone_363 J.T.a4 (by omega) (by omega) (by exact V.g2) ?_
    refine AW.goto (tgt := 374) dL_isDone_364 rfl ?_
    exact s374 _ (by omega)
  · by_cases e1 : Z 19 0 = 0
    · refine AW.iload dL_isDone_45 rfl ?_
      refine AW.bipush dL_isDone_47 bp_15 (by decide) ?_
      refine AW.icmp_geT (tgt := 138) dL_isDone_49 rfl (by omega) ?_
      refine AW.iload dL_isDone_138 rfl ?_
      refine AW.bipush dL_isDone_140 bp_19 (by decide) ?_
      refine AW.icmp_geT (tgt := 338) dL_isDone_142 rfl (by omega) ?_
      refine AW.iload dL_isDone_338 rfl ?_
      refine AW.bipush dL_isDone_340 bp_27 (by decide) ?_
      refine AW.icmp_geF (tgt := 458) dL_isDone_342 rfl (by omega) ?_
      refine AW.iload dL_isDone_345 rfl ?_
      refine AW.bipush dL_isDone_347 bp_20 (by decide) ?_
      refine AW.irem dL_isDone_349 (by omega) ?_
      refine AW.if_eqF (tgt := 360) dL_isDone_350 rfl (by exact e0) ?_
      refine AW.aload dL_isDone_353 rfl ?_
      refine AW.iconst dL_isDone_355 (by decide) ?_
      refine AW.aldIE dL_isDone_356 J.T.a4 (by omega) (by omega) (by exact V.g2) ?_
      refine AW.if_neF (tgt := 367) dL_isDone_357 rfl (by omega) ?_
      refine AW.aload dL_isDone_360 rfl ?_
      refine AW.iconst dL_isDone_362 (by decide) ?_
      refine AW.aldIE dL_isDone_363 J.T.a4 (by omega) (by omega) (by exact V.g2) ?_
      refine AW.goto (tgt := 374) dL_isDone_364 rfl ?_
      exact s374 _ (by omega)
    · have mm := tmod_b (x := o1) (y := Z 19 0) d1.1 (by omega)
      refine AW.iload dL_isDone_45 rfl ?_
      refine AW.bipush dL_isDone_47 bp_15 (by decide) ?_
      refine AW.icmp_geT (tgt := 138) dL_isDone_49 rfl (by omega) ?_
      refine AW.iload dL_isDone_138 rfl ?_
      refine AW.bipush dL_isDone_140 bp_19 (by decide) ?_
      refine AW.icmp_geT (tgt := 338) dL_isDone_142 rfl (by omega) ?_
      refine AW.iload dL_isDone_338 rfl ?_
      refine AW.bipush dL_isDone_340 bp_27 (by decide) ?_
      refine AW.icmp_geF (tgt := 458) dL_isDone_342 rfl (by omega) ?_
      refine AW.iload dL_isDone_345 rfl ?_
      refine AW.bipush dL_isDone_347 bp_20 (by decide) ?_
      refine AW.irem dL_isDone_349 (by omega) ?_
      refine AW.if_eqF (tgt := 360) dL_isDone_350 rfl (by exact e0) ?_
      refine AW.aload dL_isDone_353 rfl ?_
      refine AW.iconst dL_isDone_355 (by decide) ?_
      refine AW.aldIE dL_isDone_356 J.T.a4 (by omega) (by omega) (by exact V.g2) ?_
      refine AW.if_neT (tgt := 367) dL_isDone_357 rfl (by omega) ?_
      refine AW.iload dL_isDone_367 rfl ?_
      refine AW.aload dL_isDone_369 rfl ?_
      refine AW.iconst dL_isDone_371 (by decide) ?_
      refine AW.aldIE dL_isDone_372 J.T.a4 (by omega) (by omega) (by exact V.g2) ?_
      refine AW.irem dL_isDone_373 (by omega) ?_
      exact s374 _ (by omega)
set_option maxHeartbeats 2000000 in
theorem dn_mvr {i wh o1 o2 o3 : Int} (J : IV L h Z c b) (V : JV h Z) (hc : c < 512) (D : DRW wh o1 o2 o3) (hw : 29 ≤ wh) (k : ∀ g Y c', c' ≤ c + 1 → IV L g Y c' b → JV g Y → Q g (.inl (some (vi 1)))) : AW mL_isDone fL_isDone loL_isDone 20 300 Q 20 300 45 h (ldn i wh o1 o2 o3) [] := by
  obtain ⟨d0, d1, d2, d3⟩ := D
  have v3 := V.b3
  have s646 : ∀ r : Int, 0 ≤ r ∧ r ≤ Z 28 0 → AW mL_isDone fL_isDone loL_isDone 20 300 Q 20 300 646 h (ldn i wh o1 o2 o3) [vi r] := fun r hr => by
    obtain ⟨r, rfl⟩ := Int.eq_ofNat_of_zero_le hr.1
    by_cases e : wh < 36
    · refine AW.istore dL_isDone_646 rfl ?_
      refine AW.iload dL_isDone_648 rfl ?_
      refine AW.bipush dL_isDone_650 bp_36 (by decide) ?_
      refine AW.icmp_geF (tgt := 685) dL_isDone_652 rfl (by omega) ?_
      refine AW.aload_n dL_isDone_655 rfl ?_
      refine AW.aload_n dL_isDone_656 rfl ?_
      refine AW.aload dL_isDone_657 rfl ?_
      refine AW.aload dL_isDone_659 rfl ?_
      refine AW.aload dL_isDone_661 rfl ?_
      refine AW.aload dL_isDone_663 rfl ?_
      refine AW.aload dL_isDone_665 rfl ?_
      refine AW.aload dL_isDone_667 rfl ?_
      refine AW.aload dL_isDone_669 rfl ?_
      refine AW.aload dL_isDone_671 rfl ?_
      refine AW.aload dL_isDone_673 rfl ?_
      refine AW.aload dL_isDone_675 rfl ?_
      refine AW.iload dL_isDone_677 rfl ?_
      refine AW.callS (as := [vq _, vq _, vq _, vq _, vq _, vq _, vq _, vq _, vq _, vq _, vq _, vq _, vi _]) dL_isDone_679 rfl rfl rfl okL_isMoved lkL_171 rfl rfl rfl (leb (by omega)) (leb (by omega)) rfl (kL_isMoved (mv := r) J V hc hr.2 (fun g Y c' hc' J' V' => (AW.k1 ?_)))
      refine AW.goto (tgt := 705) dL_isDone_682 rfl ?_
      refine AW.zret dL_isDone_705 rfl ?_ ?_
      · omega
      exact k _ _ c' hc' J' V'
    · refine AW.istore dL_isDone_646 rfl ?_
      refine AW.iload dL_isDone_648 rfl ?_
      refine AW.bipush dL_isDone_650 bp_36 (by decide) ?_
      refine AW.icmp_geT (tgt := 685) dL_isDone_652 rfl (by omega) ?_
      refine AW.aload_n dL_isDone_685 rfl ?_
      refine AW.aload dL_isDone_686 rfl ?_
      refine AW.aload dL_isDone_688 rfl ?_
      refine AW.aload dL_isDone_690 rfl ?_
      refine AW.aload dL_isDone_692 rfl ?_
      refine AW.aload dL_isDone_694 rfl ?_
      refine AW.aload dL_isDone_696 rfl ?_
      refine AW.aload dL_isDone_698 rfl ?_
      refine AW.iload dL_isDone_700 rfl ?_
      refine AW.callS (as := [vq _, vq _, vq _, vq _, vq _, vq _, vq _, vq _, vi _]) dL_isDone_702 rfl rfl rfl okL_isUndone lkL_175 rfl rfl rfl (leb (by omega)) (leb (by omega)) rfl (kL_isUndone (mv := r) J V (by omega) hr.2 (fun g Y J' V' => (AW.k1 ?_)))
      refine AW.zret dL_isDone_705 rfl ?_ ?_
      · omega
      exact k _ _ c (by omega) J' V'
  by_cases e0 : o1.tmod 20 = 0
  · refine AW.iload dL_isDone_45 rfl ?_
    refine AW.bipush dL_isDone_47 bp_15 (by decide) ?_
    refine AW.icmp_geT (tgt := 138) dL_isDone_49 rfl (by omega) ?_
    refine AW.iload dL_isDone_138 rfl ?_
    refine AW.bipush dL_isDone_140 bp_19 (by decide) ?_
    refine AW.icmp_geT (tgt := 338) dL_isDone_142 rfl (by omega) ?_
    refine AW.iload dL_isDone_338 rfl ?_
    refine AW.bipush dL_isDone_340 bp_27 (by decide) ?_
    refine AW.icmp_geT (tgt := 458) dL_isDone_342 rfl (by omega) ?_
    refine AW.iload dL_isDone_458 rfl ?_
    refine AW.bipush dL_isDone_460 bp_29 (by decide) ?_
    refine AW.icmp_geT (tgt := 617) dL_isDone_462 rfl (by omega) ?_
    refine AW.iload dL_isDone_617 rfl ?_
    refine AW.bipush dL_isDone_619 bp_20 (by decide) ?_
    refine AW.irem dL_isDone_621 (by omega) ?_
    refine AW.if_eqT (tgt := 632) dL_isDone_622 rfl (by exact e0) ?_
    refine AW.aload dL_isDone_632 rfl ?_
    refine AW.iconst dL_isDone_634 (by decide) ?_
    refine AW.aldIE dL_isDone_635 J.T.a4 (by omega) (by omega) (by exact V.g3) ?_
    refine AW.goto (tgt := 646) dL_isDone_636 rfl ?_
    exact s646 _ (by omega)
  · by_cases e1 : Z 28 0 = 0
    · refine AW.iload dL_isDone_45 rfl ?_
      refine AW.bipush dL_isDone_47 bp_15 (by decide) ?_
      refine AW.icmp_geT (tgt := 138) dL_isDone_49 rfl (by omega) ?_
      refine AW.iload dL_isDone_138 rfl ?_
      refine AW.bipush dL_isDone_140 bp_19 (by decide) ?_
      refine AW.icmp_geT (tgt := 338) dL_isDone_142 rfl (by omega) ?_
      refine AW.iload dL_isDone_338 rfl ?_
      refine AW.bipush dL_isDone_340 bp_27 (by decide) ?_
      refine AW.icmp_geT (tgt := 458) dL_isDone_342 rfl (by omega) ?_
      refine AW.iload dL_isDone_458 rfl ?_
      refine AW.bipush dL_isDone_460 bp_29 (by decide) ?_
      refine AW.icmp_geT (tgt := 617) dL_isDone_462 rfl (by omega) ?_
      refine AW.iload dL_isDone_617 rfl ?_
      refine AW.bipush dL_isDone_619 bp_20 (by decide) ?_
      refine AW.irem dL_isDone_621 (by omega) ?_
      refine AW.if_eqF (tgt := 632) dL_isDone_622 rfl (by exact e0) ?_
      refine AW.aload dL_isDone_625 rfl ?_
      refine AW.iconst dL_isDone_627 (by decide) ?_
      refine AW.aldIE dL_isDone_628 J.T.a4 (by omega) (by omega) (by exact V.g3) ?_
      refine AW.if_neF (tgt := 639) dL_isDone_629 rfl (by omega) ?_
      refine AW.aload dL_isDone_632 rfl ?_
      refine AW.iconst dL_isDone_634 (by decide) ?_
      refine AW.aldIE dL_isDone_635 J.T.a4 (by omega) (by omega) (by exact V.g3) ?_
      refine AW.pcs (pc2 := 636) rfl ?_
      refine AW.goto (tgt := 646) dL_isDone_636 rfl ?_
      exact s646 _ (by omega)
    · have mm := tmod_b (x := o1) (y := Z 28 0) d1.1 (by omega)
      refine AW.iload dL_isDone_45 rfl ?_
      refine AW.bipush dL_isDone_47 bp_15 (by decide) ?_
      refine AW.icmp_geT (tgt := 138) dL_isDone_49 rfl (by omega) ?_
      refine AW.iload dL_isDone_138 rfl ?_
      refine AW.bipush dL_isDone_140 bp_19 (by decide) ?_
      refine AW.icmp_geT (tgt := 338) dL_isDone_142 rfl (by omega) ?_
      refine AW.iload dL_isDone_338 rfl ?_
      refine AW.bipush dL_isDone_340 bp_27 (by decide) ?_
      refine AW.icmp_geT (tgt := 458) dL_isDone_342 rfl (by omega) ?_
      refine AW.iload dL_isDone_458 rfl ?_
      refine AW.bipush dL_isDone_460 bp_29 (by decide) ?_
      refine AW.icmp_geT (tgt := 617) dL_isDone_462 rfl (by omega) ?_
      refine AW.iload dL_isDone_617 rfl ?_
      refine AW.bipush dL_isDone_619 bp_20 (by decide) ?_
      refine AW.irem dL_isDone_621 (by omega) ?_
      refine AW.if_eqF (tgt := 632) dL_isDone_622 rfl (by exact e0) ?_
      refine AW.aload dL_isDone_625 rfl ?_
      refine AW.iconst dL_isDone_627 (by decide) ?_
      refine AW.aldIE dL_isDone_628 J.T.a4 (by omega) (by omega) (by exact V.g3) ?_
      refine AW.if_neT (tgt := 639) dL_isDone_629 rfl (by omega) ?_
      refine AW.iload dL_isDone_639 rfl ?_
      refine AW.aload dL_isDone_641 rfl ?_
      refine AW.iconst dL_isDone_643 (by decide) ?_
      refine AW.pcs (pc2 := 644) rfl ?_
      refine AW.aldIE dL_isDone_644 J.T.a4 (by omega) (by omega) (by exact V.g3) ?_
      refine AW.irem dL_isDone_645 (by omega) ?_
      exact s646 _ (by omega)
end H1
