/-! ===== the law's calls of the class ===== -/
section C0
variable {Q : AH → AO → Prop} {h g : AH} {bc bs : Nat}
theorem AC.mono {M : MI} {fr lo nc ns : Nat} {vs : List AV} {Q' : AH → AO → Prop} (hC : AC M fr lo nc ns h vs Q) (k : ∀ h' o, Q h' o → Q' h' o) : AC M fr lo nc ns h vs Q' := by
  intro l D dA B0 H0 al p e ha hc hcl s m args below hf happ hP hK
  obtain ⟨n, o, a, b, c, d⟩ := hC l D dA B0 H0 al p e ha hc hcl s m args below hf happ hP hK
  refine ⟨n, o, a, b, c, ?_⟩
  rcases d with ⟨⟨v, h', al', q1, q2, q3, q4⟩, d2⟩ | ⟨q, d1, E, ce, L, ⟨h', al', q1, q2⟩, d3⟩
  · exact Or.inl ⟨⟨v, h', al', q1, k _ _ q2, q3, q4⟩, d2⟩
  · exact Or.inr ⟨q, d1, E, ce, L, ⟨h', al', k _ _ q1, q2⟩, d3⟩
theorem okL_does : okSH mL_does 7 := ⟨rfl, gt_at (.static yL_does) 232 (by decide +kernel) (by decide +kernel), iniL, gt_at (.codeWith yL_does cL_does 8 (some .int) mL_does.2.2.2.2) 233 (by decide +kernel) (by decide +kernel), by decide +kernel, by decide +kernel, by decide +kernel⟩
theorem okL_asks : okSH mL_asks 5 := ⟨rfl, gt_at (.static yL_asks) 640 (by decide +kernel) (by decide +kernel), iniL, gt_at (.codeWith yL_asks cL_asks 6 (some .int) mL_asks.2.2.2.2) 641 (by decide +kernel) (by decide +kernel), by decide +kernel, by decide +kernel, by decide +kernel⟩
theorem hd_does_x {pc : Nat} (hp : pc < 211) : HD mL_does pc eIx (-300) := ⟨rfl, rfl, [], (0, 211, 212, 52), [(0, 211, 218, 54), (0, 211, 224, 56)], rfl, Nat.zero_le _, hp, by decide, lkL_52, trivial, 7, by decide, dL_does_212, Or.inl ⟨by decide, dL_does_214, dL_does_217⟩⟩
theorem hd_does_a {pc : Nat} (hp : pc < 211) : HD mL_does pc eIa (-200) := ⟨rfl, rfl, [(0, 211, 212, 52)], (0, 211, 218, 54), [(0, 211, 224, 56)], rfl, Nat.zero_le _, hp, by decide, lkL_54, ⟨⟨by decide, eIx, lkL_52, by decide +kernel⟩, trivial⟩, 7, by decide, dL_does_218, Or.inl ⟨by decide, dL_does_220, dL_does_223⟩⟩
theorem hd_does_s {pc : Nat} (hp : pc < 211) : HD mL_does pc eIs (-100) := ⟨rfl, rfl, [(0, 211, 212, 52), (0, 211, 218, 54)], (0, 211, 224, 56), [], rfl, Nat.zero_le _, hp, by decide, lkL_56, ⟨⟨by decide, eIx, lkL_52, by decide +kernel⟩, ⟨⟨by decide, eIa, lkL_54, by decide +kernel⟩, trivial⟩⟩, 7, by decide, dL_does_224, Or.inr ⟨by decide, dL_does_226, dL_does_228⟩⟩
theorem hd_asks_x {pc : Nat} (hp : pc < 79) : HD mL_asks pc eIx (-300) := ⟨rfl, rfl, [], (0, 79, 80, 52), [(0, 79, 86, 54)], rfl, Nat.zero_le _, hp, by decide, lkL_52, trivial, 5, by decide, dL_asks_80, Or.inl ⟨by decide, dL_asks_82, dL_asks_85⟩⟩
theorem hd_asks_a {pc : Nat} (hp : pc < 79) : HD mL_asks pc eIa (-200) := ⟨rfl, rfl, [(0, 79, 80, 52)], (0, 79, 86, 54), [], rfl, Nat.zero_le _, hp, by decide, lkL_54, ⟨⟨by decide, eIx, lkL_52, by decide +kernel⟩, trivial⟩, 5, by decide, dL_asks_86, Or.inl ⟨by decide, dL_asks_88, dL_asks_91⟩⟩
/-- what becomes of a call's end -/
abbrev rsD : List (String × Int) := [(eIx, -300), (eIa, -200), (eIs, -100)]
def DQ (Q : AH → AO → Prop) : AH → AO → Prop := fun h' o => match o with
  | .inl (some (.inl v)) => Q h' (.inl (some (vi v)))
  | .inl _ => False
  | .inr E => ∃ n, (E, n) ∈ rsD ∧ Q h' (.inl (some (vi n)))
def DB (Q : AH → AO → Prop) : AH → AO → Prop := fun h' o => match o with
  | .inl (some (.inl v)) => (v = 0 → Q h' (.inl (some (vi 0)))) ∧ (¬ v = 0 → Q h' (.inl (some (vi 1))))
  | .inl _ => False
  | .inr E => ∃ n, (E, n) ∈ rsD ∧ Q h' (.inl (some (vi n)))
abbrev rsA : List (String × Int) := [(eIx, -300), (eIa, -200)]
def AQ (Q : AH → AO → Prop) : AH → AO → Prop := fun h' o => match o with
  | .inl (some (.inl v)) => Q h' (.inl (some (vi v)))
  | .inl _ => False
  | .inr E => ∃ n, (E, n) ∈ rsA ∧ Q h' (.inl (some (vi n)))
set_option maxHeartbeats 1000000 in
theorem kL_does_add {x1 x2 x3 x4 x5 : Int} (hF : hT h mF = some (8, 0)) (hC : AC mX7_add fX7_add loX7_add bc bs h [vr mF, vi x1, vi x2, vi x3, vi x4, vi (if ¬ x5 = 1 then 0 else 1)] (DQ Q)) : AC mL_does fL_does loL_does bc bs h [vr mF, vi 0, vi x1, vi x2, vi x3, vi x4, vi x5] Q := by
  refine AC.mkH (by decide +kernel) (Nat.le_of_ble_eq_true rfl) ?_
  refine AW.iload_n dL_does_0 rfl ?_
  refine AW.if_neF (tgt := 28) dL_does_1 rfl (by decide) ?_
  refine AW.aload_n dL_does_4 rfl ?_
  refine AW.iload_n dL_does_5 rfl ?_
  refine AW.iload_n dL_does_6 rfl ?_
  refine AW.iload dL_does_7 rfl ?_
  refine AW.iload dL_does_9 rfl ?_
  refine AW.iload dL_does_11 rfl ?_
  refine AW.iconst dL_does_13 (by decide) ?_
  refine' AW.icmp_neJ 22 (tgt := 21) dL_does_14 rfl _ _ _
  rotate_left 2
  · intro c_14 k_14
    refine AW.iconst dL_does_21 (by decide) ?_
    exact k_14
  · intro c_14 k_14
    refine AW.iconst dL_does_17 (by decide) ?_
    refine AW.goto (tgt := 22) dL_does_18 rfl ?_
    exact k_14
  refine AW.callVH (as := [vi _, vi _, vi _, vi _, vi _]) dL_does_22 rfl rfl okX7_add lkL_8 hF rfl rfl rfl rfl (Nat.le_refl _) (Nat.le_refl _) rfl (hC.mono fun g o hq => ?_)
  rcases o with (_ | v | v) | E
  · exact hq.elim
  · have hq : Q g (.inl (some (vi v))) := hq
    refine AW.goto (tgt := 211) dL_does_25 rfl ?_
    exact AW.iret dL_does_211 rfl hq
  · exact hq.elim
  · obtain ⟨n, hm, hq⟩ := hq
    simp only [List.mem_cons, List.not_mem_nil, or_false, Prod.mk.injEq] at hm
    rcases hm with ⟨rfl, rfl⟩ | ⟨rfl, rfl⟩ | ⟨rfl, rfl⟩
    · exact ⟨_, hd_does_x (by decide), hq⟩
    · exact ⟨_, hd_does_a (by decide), hq⟩
    · exact ⟨_, hd_does_s (by decide), hq⟩
set_option maxHeartbeats 1000000 in
theorem kL_does_rename {x1 x2 x3 x4 x5 : Int} (hF : hT h mF = some (8, 0)) (hC : AC mX7_rename fX7_rename loX7_rename bc bs h [vr mF, vi x1, vi x2, vi x3] (DQ Q)) : AC mL_does fL_does loL_does bc bs h [vr mF, vi 1, vi x1, vi x2, vi x3, vi x4, vi x5] Q := by
  refine AC.mkH (by decide +kernel) (Nat.le_of_ble_eq_true rfl) ?_
  refine AW.iload_n dL_does_0 rfl ?_
  refine AW.if_neT (tgt := 28) dL_does_1 rfl (by decide) ?_
  refine AW.iload_n dL_does_28 rfl ?_
  refine AW.iconst dL_does_29 (by decide) ?_
  refine AW.icmp_neF (tgt := 44) dL_does_30 rfl (by decide) ?_
  refine AW.aload_n dL_does_33 rfl ?_
  refine AW.iload_n dL_does_34 rfl ?_
  refine AW.iload_n dL_does_35 rfl ?_
  refine AW.iload dL_does_36 rfl ?_
  refine AW.callVH (as := [vi _, vi _, vi _]) dL_does_38 rfl rfl okX7_rename lkL_14 hF rfl rfl rfl rfl (Nat.le_refl _) (Nat.le_refl _) rfl (hC.mono fun g o hq => ?_)
  rcases o with (_ | v | v) | E
  · exact hq.elim
  · have hq : Q g (.inl (some (vi v))) := hq
    refine AW.goto (tgt := 211) dL_does_41 rfl ?_
    exact AW.iret dL_does_211 rfl hq
  · exact hq.elim
  · obtain ⟨n, hm, hq⟩ := hq
    simp only [List.mem_cons, List.not_mem_nil, or_false, Prod.mk.injEq] at hm
    rcases hm with ⟨rfl, rfl⟩ | ⟨rfl, rfl⟩ | ⟨rfl, rfl⟩
    · exact ⟨_, hd_does_x (by decide), hq⟩
    · exact ⟨_, hd_does_a (by decide), hq⟩
    · exact ⟨_, hd_does_s (by decide), hq⟩
set_option maxHeartbeats 1000000 in
theorem kL_does_turn {x1 x2 x3 x4 x5 : Int} (hF : hT h mF = some (8, 0)) (hC : AC mX7_turn fX7_turn loX7_turn bc bs h [vr mF, vi x1, vi x2, vi x3] (DQ Q)) : AC mL_does fL_does loL_does bc bs h [vr mF, vi 2, vi x1, vi x2, vi x3, vi x4, vi x5] Q := by
  refine AC.mkH (by decide +kernel) (Nat.le_of_ble_eq_true rfl) ?_
  refine AW.iload_n dL_does_0 rfl ?_
  refine AW.if_neT (tgt := 28) dL_does_1 rfl (by decide) ?_
  refine AW.iload_n dL_does_28 rfl ?_
  refine AW.iconst dL_does_29 (by decide) ?_
  refine AW.icmp_neT (tgt := 44) dL_does_30 rfl (by decide) ?_
  refine AW.iload_n dL_does_44 rfl ?_
  refine AW.iconst dL_does_45 (by decide) ?_
  refine AW.icmp_neF (tgt := 60) dL_does_46 rfl (by decide) ?_
  refine AW.aload_n dL_does_49 rfl ?_
  refine AW.iload_n dL_does_50 rfl ?_
  refine AW.iload_n dL_does_51 rfl ?_
  refine AW.iload dL_does_52 rfl ?_
  refine AW.callVH (as := [vi _, vi _, vi _]) dL_does_54 rfl rfl okX7_turn lkL_18 hF rfl rfl rfl rfl (Nat.le_refl _) (Nat.le_refl _) rfl (hC.mono fun g o hq => ?_)
  rcases o with (_ | v | v) | E
  · exact hq.elim
  · have hq : Q g (.inl (some (vi v))) := hq
    refine AW.goto (tgt := 211) dL_does_57 rfl ?_
    exact AW.iret dL_does_211 rfl hq
  · exact hq.elim
  · obtain ⟨n, hm, hq⟩ := hq
    simp only [List.mem_cons, List.not_mem_nil, or_false, Prod.mk.injEq] at hm
    rcases hm with ⟨rfl, rfl⟩ | ⟨rfl, rfl⟩ | ⟨rfl, rfl⟩
    · exact ⟨_, hd_does_x (by decide), hq⟩
    · exact ⟨_, hd_does_a (by decide), hq⟩
    · exact ⟨_, hd_does_s (by decide), hq⟩
set_option maxHeartbeats 1000000 in
theorem kL_does_split {x1 x2 x3 x4 x5 : Int} (hF : hT h mF = some (8, 0)) (hC : AC mX7_split fX7_split loX7_split bc bs h [vr mF, vi x1, vi x2, vi x3, vi x4, vi x5] (DQ Q)) : AC mL_does fL_does loL_does bc bs h [vr mF, vi 3, vi x1, vi x2, vi x3, vi x4, vi x5] Q := by
  refine AC.mkH (by decide +kernel) (Nat.le_of_ble_eq_true rfl) ?_
  refine AW.iload_n dL_does_0 rfl ?_
  refine AW.if_neT (tgt := 28) dL_does_1 rfl (by decide) ?_
  refine AW.iload_n dL_does_28 rfl ?_
  refine AW.iconst dL_does_29 (by decide) ?_
  refine AW.icmp_neT (tgt := 44) dL_does_30 rfl (by decide) ?_
  refine AW.iload_n dL_does_44 rfl ?_
  refine AW.iconst dL_does_45 (by decide) ?_
  refine AW.icmp_neT (tgt := 60) dL_does_46 rfl (by decide) ?_
  refine AW.iload_n dL_does_60 rfl ?_
  refine AW.iconst dL_does_61 (by decide) ?_
  refine AW.icmp_neF (tgt := 80) dL_does_62 rfl (by decide) ?_
  refine AW.aload_n dL_does_65 rfl ?_
  refine AW.iload_n dL_does_66 rfl ?_
  refine AW.iload_n dL_does_67 rfl ?_
  refine AW.iload dL_does_68 rfl ?_
  refine AW.iload dL_does_70 rfl ?_
  refine AW.iload dL_does_72 rfl ?_
  refine AW.callVH (as := [vi _, vi _, vi _, vi _, vi _]) dL_does_74 rfl rfl okX7_split lkL_21 hF rfl rfl rfl rfl (Nat.le_refl _) (Nat.le_refl _) rfl (hC.mono fun g o hq => ?_)
  rcases o with (_ | v | v) | E
  · exact hq.elim
  · have hq : Q g (.inl (some (vi v))) := hq
    refine AW.goto (tgt := 211) dL_does_77 rfl ?_
    exact AW.iret dL_does_211 rfl hq
  · exact hq.elim
  · obtain ⟨n, hm, hq⟩ := hq
    simp only [List.mem_cons, List.not_mem_nil, or_false, Prod.mk.injEq] at hm
    rcases hm with ⟨rfl, rfl⟩ | ⟨rfl, rfl⟩ | ⟨rfl, rfl⟩
    · exact ⟨_, hd_does_x (by decide), hq⟩
    · exact ⟨_, hd_does_a (by decide), hq⟩
    · exact ⟨_, hd_does_s (by decide), hq⟩
set_option maxHeartbeats 1000000 in
theorem kL_does_join {x1 x2 x3 x4 x5 : Int} (hF : hT h mF = some (8, 0)) (hC : AC mX7_join fX7_join loX7_join bc bs h [vr mF, vi x1, vi x2, vi x3, vi x4, vi x5] (DQ Q)) : AC mL_does fL_does loL_does bc bs h [vr mF, vi 4, vi x1, vi x2, vi x3, vi x4, vi x5] Q := by
  refine AC.mkH (by decide +kernel) (Nat.le_of_ble_eq_true rfl) ?_
  refine AW.iload_n dL_does_0 rfl ?_
  refine AW.if_neT (tgt := 28) dL_does_1 rfl (by decide) ?_
  refine AW.iload_n dL_does_28 rfl ?_
  refine AW.iconst dL_does_29 (by decide) ?_
  refine AW.icmp_neT (tgt := 44) dL_does_30 rfl (by decide) ?_
  refine AW.iload_n dL_does_44 rfl ?_
  refine AW.iconst dL_does_45 (by decide) ?_
  refine AW.icmp_neT (tgt := 60) dL_does_46 rfl (by decide) ?_
  refine AW.iload_n dL_does_60 rfl ?_
  refine AW.iconst dL_does_61 (by decide) ?_
  refine AW.icmp_neT (tgt := 80) dL_does_62 rfl (by decide) ?_
  refine AW.iload_n dL_does_80 rfl ?_
  refine AW.iconst dL_does_81 (by decide) ?_
  refine AW.icmp_neF (tgt := 100) dL_does_82 rfl (by decide) ?_
  refine AW.aload_n dL_does_85 rfl ?_
  refine AW.iload_n dL_does_86 rfl ?_
  refine AW.iload_n dL_does_87 rfl ?_
  refine AW.iload dL_does_88 rfl ?_
  refine AW.iload dL_does_90 rfl ?_
  refine AW.iload dL_does_92 rfl ?_
  refine AW.callVH (as := [vi _, vi _, vi _, vi _, vi _]) dL_does_94 rfl rfl okX7_join lkL_25 hF rfl rfl rfl rfl (Nat.le_refl _) (Nat.le_refl _) rfl (hC.mono fun g o hq => ?_)
  rcases o with (_ | v | v) | E
  · exact hq.elim
  · have hq : Q g (.inl (some (vi v))) := hq
    refine AW.goto (tgt := 211) dL_does_97 rfl ?_
    exact AW.iret dL_does_211 rfl hq
  · exact hq.elim
  · obtain ⟨n, hm, hq⟩ := hq
    simp only [List.mem_cons, List.not_mem_nil, or_false, Prod.mk.injEq] at hm
    rcases hm with ⟨rfl, rfl⟩ | ⟨rfl, rfl⟩ | ⟨rfl, rfl⟩
    · exact ⟨_, hd_does_x (by decide), hq⟩
    · exact ⟨_, hd_does_a (by decide), hq⟩
    · exact ⟨_, hd_does_s (by decide), hq⟩
set_option maxHeartbeats 1000000 in
theorem kL_does_drop {x1 x2 x3 x4 x5 : Int} (hF : hT h mF = some (8, 0)) (hC : AC mX7_drop fX7_drop loX7_drop bc bs h [vr mF, vi x1, vi x2] (DB Q)) : AC mL_does fL_does loL_does bc bs h [vr mF, vi 5, vi x1, vi x2, vi x3, vi x4, vi x5] Q := by
  refine AC.mkH (by decide +kernel) (Nat.le_of_ble_eq_true rfl) ?_
  refine AW.iload_n dL_does_0 rfl ?_
  refine AW.if_neT (tgt := 28) dL_does_1 rfl (by decide) ?_
  refine AW.iload_n dL_does_28 rfl ?_
  refine AW.iconst dL_does_29 (by decide) ?_
  refine AW.icmp_neT (tgt := 44) dL_does_30 rfl (by decide) ?_
  refine AW.iload_n dL_does_44 rfl ?_
  refine AW.iconst dL_does_45 (by decide) ?_
  refine AW.icmp_neT (tgt := 60) dL_does_46 rfl (by decide) ?_
  refine AW.iload_n dL_does_60 rfl ?_
  refine AW.iconst dL_does_61 (by decide) ?_
  refine AW.icmp_neT (tgt := 80) dL_does_62 rfl (by decide) ?_
  refine AW.iload_n dL_does_80 rfl ?_
  refine AW.iconst dL_does_81 (by decide) ?_
  refine AW.icmp_neT (tgt := 100) dL_does_82 rfl (by decide) ?_
  refine AW.iload_n dL_does_100 rfl ?_
  refine AW.iconst dL_does_101 (by decide) ?_
  refine AW.icmp_neF (tgt := 122) dL_does_102 rfl (by decide) ?_
  refine AW.aload_n dL_does_105 rfl ?_
  refine AW.iload_n dL_does_106 rfl ?_
  refine AW.iload_n dL_does_107 rfl ?_
  refine AW.callVH (as := [vi _, vi _]) dL_does_108 rfl rfl okX7_drop lkL_28 hF rfl rfl rfl rfl (Nat.le_refl _) (Nat.le_refl _) rfl (hC.mono fun g o hq => ?_)
  rcases o with (_ | v | v) | E
  · exact hq.elim
  · have hq : (v = 0 → Q g (.inl (some (vi 0)))) ∧ (¬ v = 0 → Q g (.inl (some (vi 1)))) := hq
    refine AW.if_eq (tgt := 118) dL_does_111 rfl (fun c => ?_) (fun c => ?_)
    · refine AW.iconst dL_does_118 (by decide) ?_
      refine AW.goto (tgt := 211) dL_does_119 rfl ?_
      exact AW.iret dL_does_211 rfl (hq.1 c)
    · refine AW.iconst dL_does_114 (by decide) ?_
      refine AW.goto (tgt := 211) dL_does_115 rfl ?_
      exact AW.iret dL_does_211 rfl (hq.2 c)
  · exact hq.elim
  · obtain ⟨n, hm, hq⟩ := hq
    simp only [List.mem_cons, List.not_mem_nil, or_false, Prod.mk.injEq] at hm
    rcases hm with ⟨rfl, rfl⟩ | ⟨rfl, rfl⟩ | ⟨rfl, rfl⟩
    · exact ⟨_, hd_does_x (by decide), hq⟩
    · exact ⟨_, hd_does_a (by decide), hq⟩
    · exact ⟨_, hd_does_s (by decide), hq⟩
set_option maxHeartbeats 1000000 in
theorem kL_does_toggleNeed {x1 x2 x3 x4 x5 : Int} (hF : hT h mF = some (8, 0)) (hC : AC mX7_toggleNeed fX7_toggleNeed loX7_toggleNeed bc bs h [vr mF, vi x1, vi x2] (DB Q)) : AC mL_does fL_does loL_does bc bs h [vr mF, vi 6, vi x1, vi x2, vi x3, vi x4, vi x5] Q := by
  refine AC.mkH (by decide +kernel) (Nat.le_of_ble_eq_true rfl) ?_
  refine AW.iload_n dL_does_0 rfl ?_
  refine AW.if_neT (tgt := 28) dL_does_1 rfl (by decide) ?_
  refine AW.iload_n dL_does_28 rfl ?_
  refine AW.iconst dL_does_29 (by decide) ?_
  refine AW.icmp_neT (tgt := 44) dL_does_30 rfl (by decide) ?_
  refine AW.iload_n dL_does_44 rfl ?_
  refine AW.iconst dL_does_45 (by decide) ?_
  refine AW.icmp_neT (tgt := 60) dL_does_46 rfl (by decide) ?_
  refine AW.iload_n dL_does_60 rfl ?_
  refine AW.iconst dL_does_61 (by decide) ?_
  refine AW.icmp_neT (tgt := 80) dL_does_62 rfl (by decide) ?_
  refine AW.iload_n dL_does_80 rfl ?_
  refine AW.iconst dL_does_81 (by decide) ?_
  refine AW.icmp_neT (tgt := 100) dL_does_82 rfl (by decide) ?_
  refine AW.iload_n dL_does_100 rfl ?_
  refine AW.iconst dL_does_101 (by decide) ?_
  refine AW.icmp_neT (tgt := 122) dL_does_102 rfl (by decide) ?_
  refine AW.iload_n dL_does_122 rfl ?_
  refine AW.bipush dL_does_123 bp_6 (by decide) ?_
  refine AW.icmp_neF (tgt := 145) dL_does_125 rfl (by decide) ?_
  refine AW.aload_n dL_does_128 rfl ?_
  refine AW.iload_n dL_does_129 rfl ?_
  refine AW.iload_n dL_does_130 rfl ?_
  refine AW.callVH (as := [vi _, vi _]) dL_does_131 rfl rfl okX7_toggleNeed lkL_32 hF rfl rfl rfl rfl (Nat.le_refl _) (Nat.le_refl _) rfl (hC.mono fun g o hq => ?_)
  rcases o with (_ | v | v) | E
  · exact hq.elim
  · have hq : (v = 0 → Q g (.inl (some (vi 0)))) ∧ (¬ v = 0 → Q g (.inl (some (vi 1)))) := hq
    refine AW.if_eq (tgt := 141) dL_does_134 rfl (fun c => ?_) (fun c => ?_)
    · refine AW.iconst dL_does_141 (by decide) ?_
      refine AW.goto (tgt := 211) dL_does_142 rfl ?_
      exact AW.iret dL_does_211 rfl (hq.1 c)
    · refine AW.iconst dL_does_137 (by decide) ?_
      refine AW.goto (tgt := 211) dL_does_138 rfl ?_
      exact AW.iret dL_does_211 rfl (hq.2 c)
  · exact hq.elim
  · obtain ⟨n, hm, hq⟩ := hq
    simp only [List.mem_cons, List.not_mem_nil, or_false, Prod.mk.injEq] at hm
    rcases hm with ⟨rfl, rfl⟩ | ⟨rfl, rfl⟩ | ⟨rfl, rfl⟩
    · exact ⟨_, hd_does_x (by decide), hq⟩
    · exact ⟨_, hd_does_a (by decide), hq⟩
    · exact ⟨_, hd_does_s (by decide), hq⟩
set_option maxHeartbeats 1000000 in
theorem kL_does_row {x1 x2 x3 x4 x5 : Int} (hF : hT h mF = some (8, 0)) (hC : AC mX7_row fX7_row loX7_row bc bs h [vr mF, vi x1, vi x2] (DQ Q)) : AC mL_does fL_does loL_does bc bs h [vr mF, vi 7, vi x1, vi x2, vi x3, vi x4, vi x5] Q := by
  refine AC.mkH (by decide +kernel) (Nat.le_of_ble_eq_true rfl) ?_
  refine AW.iload_n dL_does_0 rfl ?_
  refine AW.if_neT (tgt := 28) dL_does_1 rfl (by decide) ?_
  refine AW.iload_n dL_does_28 rfl ?_
  refine AW.iconst dL_does_29 (by decide) ?_
  refine AW.icmp_neT (tgt := 44) dL_does_30 rfl (by decide) ?_
  refine AW.iload_n dL_does_44 rfl ?_
  refine AW.iconst dL_does_45 (by decide) ?_
  refine AW.icmp_neT (tgt := 60) dL_does_46 rfl (by decide) ?_
  refine AW.iload_n dL_does_60 rfl ?_
  refine AW.iconst dL_does_61 (by decide) ?_
  refine AW.icmp_neT (tgt := 80) dL_does_62 rfl (by decide) ?_
  refine AW.iload_n dL_does_80 rfl ?_
  refine AW.iconst dL_does_81 (by decide) ?_
  refine AW.icmp_neT (tgt := 100) dL_does_82 rfl (by decide) ?_
  refine AW.iload_n dL_does_100 rfl ?_
  refine AW.iconst dL_does_101 (by decide) ?_
  refine AW.icmp_neT (tgt := 122) dL_does_102 rfl (by decide) ?_
  refine AW.iload_n dL_does_122 rfl ?_
  refine AW.bipush dL_does_123 bp_6 (by decide) ?_
  refine AW.icmp_neT (tgt := 145) dL_does_125 rfl (by decide) ?_
  refine AW.iload_n dL_does_145 rfl ?_
  refine AW.bipush dL_does_146 bp_7 (by decide) ?_
  refine AW.icmp_neF (tgt := 160) dL_does_148 rfl (by decide) ?_
  refine AW.aload_n dL_does_151 rfl ?_
  refine AW.iload_n dL_does_152 rfl ?_
  refine AW.iload_n dL_does_153 rfl ?_
  refine AW.callVH (as := [vi _, vi _]) dL_does_154 rfl rfl okX7_row lkL_35 hF rfl rfl rfl rfl (Nat.le_refl _) (Nat.le_refl _) rfl (hC.mono fun g o hq => ?_)
  rcases o with (_ | v | v) | E
  · exact hq.elim
  · have hq : Q g (.inl (some (vi v))) := hq
    refine AW.goto (tgt := 211) dL_does_157 rfl ?_
    exact AW.iret dL_does_211 rfl hq
  · exact hq.elim
  · obtain ⟨n, hm, hq⟩ := hq
    simp only [List.mem_cons, List.not_mem_nil, or_false, Prod.mk.injEq] at hm
    rcases hm with ⟨rfl, rfl⟩ | ⟨rfl, rfl⟩ | ⟨rfl, rfl⟩
    · exact ⟨_, hd_does_x (by decide), hq⟩
    · exact ⟨_, hd_does_a (by decide), hq⟩
    · exact ⟨_, hd_does_s (by decide), hq⟩
set_option maxHeartbeats 1000000 in
theorem kL_does_set {x1 x2 x3 x4 x5 : Int} (hF : hT h mF = some (8, 0)) (hC : AC mX7_set fX7_set loX7_set bc bs h [vr mF, vi x1, vi x2, vi x3] (DQ Q)) : AC mL_does fL_does loL_does bc bs h [vr mF, vi 8, vi x1, vi x2, vi x3, vi x4, vi x5] Q := by
  refine AC.mkH (by decide +kernel) (Nat.le_of_ble_eq_true rfl) ?_
  refine AW.iload_n dL_does_0 rfl ?_
  refine AW.if_neT (tgt := 28) dL_does_1 rfl (by decide) ?_
  refine AW.iload_n dL_does_28 rfl ?_
  refine AW.iconst dL_does_29 (by decide) ?_
  refine AW.icmp_neT (tgt := 44) dL_does_30 rfl (by decide) ?_
  refine AW.iload_n dL_does_44 rfl ?_
  refine AW.iconst dL_does_45 (by decide) ?_
  refine AW.icmp_neT (tgt := 60) dL_does_46 rfl (by decide) ?_
  refine AW.iload_n dL_does_60 rfl ?_
  refine AW.iconst dL_does_61 (by decide) ?_
  refine AW.icmp_neT (tgt := 80) dL_does_62 rfl (by decide) ?_
  refine AW.iload_n dL_does_80 rfl ?_
  refine AW.iconst dL_does_81 (by decide) ?_
  refine AW.icmp_neT (tgt := 100) dL_does_82 rfl (by decide) ?_
  refine AW.iload_n dL_does_100 rfl ?_
  refine AW.iconst dL_does_101 (by decide) ?_
  refine AW.icmp_neT (tgt := 122) dL_does_102 rfl (by decide) ?_
  refine AW.iload_n dL_does_122 rfl ?_
  refine AW.bipush dL_does_123 bp_6 (by decide) ?_
  refine AW.icmp_neT (tgt := 145) dL_does_125 rfl (by decide) ?_
  refine AW.iload_n dL_does_145 rfl ?_
  refine AW.bipush dL_does_146 bp_7 (by decide) ?_
  refine AW.icmp_neT (tgt := 160) dL_does_148 rfl (by decide) ?_
  refine AW.iload_n dL_does_160 rfl ?_
  refine AW.bipush dL_does_161 bp_8 (by decide) ?_
  refine AW.icmp_neF (tgt := 177) dL_does_163 rfl (by decide) ?_
  refine AW.aload_n dL_does_166 rfl ?_
  refine AW.iload_n dL_does_167 rfl ?_
  refine AW.iload_n dL_does_168 rfl ?_
  refine AW.iload dL_does_169 rfl ?_
  refine AW.callVH (as := [vi _, vi _, vi _]) dL_does_171 rfl rfl okX7_set lkL_39 hF rfl rfl rfl rfl (Nat.le_refl _) (Nat.le_refl _) rfl (hC.mono fun g o hq => ?_)
  rcases o with (_ | v | v) | E
  · exact hq.elim
  · have hq : Q g (.inl (some (vi v))) := hq
    refine AW.goto (tgt := 211) dL_does_174 rfl ?_
    exact AW.iret dL_does_211 rfl hq
  · exact hq.elim
  · obtain ⟨n, hm, hq⟩ := hq
    simp only [List.mem_cons, List.not_mem_nil, or_false, Prod.mk.injEq] at hm
    rcases hm with ⟨rfl, rfl⟩ | ⟨rfl, rfl⟩ | ⟨rfl, rfl⟩
    · exact ⟨_, hd_does_x (by decide), hq⟩
    · exact ⟨_, hd_does_a (by decide), hq⟩
    · exact ⟨_, hd_does_s (by decide), hq⟩
set_option maxHeartbeats 1000000 in
theorem kL_does_mover {x1 x2 x3 x4 x5 : Int} (hF : hT h mF = some (8, 0)) (hC : AC mX7_mover fX7_mover loX7_mover bc bs h [vr mF, vi x1, vi x2] (DQ Q)) : AC mL_does fL_does loL_does bc bs h [vr mF, vi 9, vi x1, vi x2, vi x3, vi x4, vi x5] Q := by
  refine AC.mkH (by decide +kernel) (Nat.le_of_ble_eq_true rfl) ?_
  refine AW.iload_n dL_does_0 rfl ?_
  refine AW.if_neT (tgt := 28) dL_does_1 rfl (by decide) ?_
  refine AW.iload_n dL_does_28 rfl ?_
  refine AW.iconst dL_does_29 (by decide) ?_
  refine AW.icmp_neT (tgt := 44) dL_does_30 rfl (by decide) ?_
  refine AW.iload_n dL_does_44 rfl ?_
  refine AW.iconst dL_does_45 (by decide) ?_
  refine AW.icmp_neT (tgt := 60) dL_does_46 rfl (by decide) ?_
  refine AW.iload_n dL_does_60 rfl ?_
  refine AW.iconst dL_does_61 (by decide) ?_
  refine AW.icmp_neT (tgt := 80) dL_does_62 rfl (by decide) ?_
  refine AW.iload_n dL_does_80 rfl ?_
  refine AW.iconst dL_does_81 (by decide) ?_
  refine AW.icmp_neT (tgt := 100) dL_does_82 rfl (by decide) ?_
  refine AW.iload_n dL_does_100 rfl ?_
  refine AW.iconst dL_does_101 (by decide) ?_
  refine AW.icmp_neT (tgt := 122) dL_does_102 rfl (by decide) ?_
  refine AW.iload_n dL_does_122 rfl ?_
  refine AW.bipush dL_does_123 bp_6 (by decide) ?_
  refine AW.icmp_neT (tgt := 145) dL_does_125 rfl (by decide) ?_
  refine AW.iload_n dL_does_145 rfl ?_
  refine AW.bipush dL_does_146 bp_7 (by decide) ?_
  refine AW.icmp_neT (tgt := 160) dL_does_148 rfl (by decide) ?_
  refine AW.iload_n dL_does_160 rfl ?_
  refine AW.bipush dL_does_161 bp_8 (by decide) ?_
  refine AW.icmp_neT (tgt := 177) dL_does_163 rfl (by decide) ?_
  refine AW.iload_n dL_does_177 rfl ?_
  refine AW.bipush dL_does_178 bp_9 (by decide) ?_
  refine AW.icmp_neF (tgt := 192) dL_does_180 rfl (by decide) ?_
  refine AW.aload_n dL_does_183 rfl ?_
  refine AW.iload_n dL_does_184 rfl ?_
  refine AW.iload_n dL_does_185 rfl ?_
  refine AW.callVH (as := [vi _, vi _]) dL_does_186 rfl rfl okX7_mover lkL_42 hF rfl rfl rfl rfl (Nat.le_refl _) (Nat.le_refl _) rfl (hC.mono fun g o hq => ?_)
  rcases o with (_ | v | v) | E
  · exact hq.elim
  · have hq : Q g (.inl (some (vi v))) := hq
    refine AW.goto (tgt := 211) dL_does_189 rfl ?_
    exact AW.iret dL_does_211 rfl hq
  · exact hq.elim
  · obtain ⟨n, hm, hq⟩ := hq
    simp only [List.mem_cons, List.not_mem_nil, or_false, Prod.mk.injEq] at hm
    rcases hm with ⟨rfl, rfl⟩ | ⟨rfl, rfl⟩ | ⟨rfl, rfl⟩
    · exact ⟨_, hd_does_x (by decide), hq⟩
    · exact ⟨_, hd_does_a (by decide), hq⟩
    · exact ⟨_, hd_does_s (by decide), hq⟩
set_option maxHeartbeats 1000000 in
theorem kL_does_step {x1 x2 x3 x4 x5 : Int} (hF : hT h mF = some (8, 0)) (hC : AC mX7_step fX7_step loX7_step bc bs h [vr mF, vi x1] (DQ Q)) : AC mL_does fL_does loL_does bc bs h [vr mF, vi 10, vi x1, vi x2, vi x3, vi x4, vi x5] Q := by
  refine AC.mkH (by decide +kernel) (Nat.le_of_ble_eq_true rfl) ?_
  refine AW.iload_n dL_does_0 rfl ?_
  refine AW.if_neT (tgt := 28) dL_does_1 rfl (by decide) ?_
  refine AW.iload_n dL_does_28 rfl ?_
  refine AW.iconst dL_does_29 (by decide) ?_
  refine AW.icmp_neT (tgt := 44) dL_does_30 rfl (by decide) ?_
  refine AW.iload_n dL_does_44 rfl ?_
  refine AW.iconst dL_does_45 (by decide) ?_
  refine AW.icmp_neT (tgt := 60) dL_does_46 rfl (by decide) ?_
  refine AW.iload_n dL_does_60 rfl ?_
  refine AW.iconst dL_does_61 (by decide) ?_
  refine AW.icmp_neT (tgt := 80) dL_does_62 rfl (by decide) ?_
  refine AW.iload_n dL_does_80 rfl ?_
  refine AW.iconst dL_does_81 (by decide) ?_
  refine AW.icmp_neT (tgt := 100) dL_does_82 rfl (by decide) ?_
  refine AW.iload_n dL_does_100 rfl ?_
  refine AW.iconst dL_does_101 (by decide) ?_
  refine AW.icmp_neT (tgt := 122) dL_does_102 rfl (by decide) ?_
  refine AW.iload_n dL_does_122 rfl ?_
  refine AW.bipush dL_does_123 bp_6 (by decide) ?_
  refine AW.icmp_neT (tgt := 145) dL_does_125 rfl (by decide) ?_
  refine AW.iload_n dL_does_145 rfl ?_
  refine AW.bipush dL_does_146 bp_7 (by decide) ?_
  refine AW.icmp_neT (tgt := 160) dL_does_148 rfl (by decide) ?_
  refine AW.iload_n dL_does_160 rfl ?_
  refine AW.bipush dL_does_161 bp_8 (by decide) ?_
  refine AW.icmp_neT (tgt := 177) dL_does_163 rfl (by decide) ?_
  refine AW.iload_n dL_does_177 rfl ?_
  refine AW.bipush dL_does_178 bp_9 (by decide) ?_
  refine AW.icmp_neT (tgt := 192) dL_does_180 rfl (by decide) ?_
  refine AW.iload_n dL_does_192 rfl ?_
  refine AW.bipush dL_does_193 bp_10 (by decide) ?_
  refine AW.icmp_neF (tgt := 206) dL_does_195 rfl (by decide) ?_
  refine AW.aload_n dL_does_198 rfl ?_
  refine AW.iload_n dL_does_199 rfl ?_
  refine AW.callVH (as := [vi _]) dL_does_200 rfl rfl okX7_step lkL_45 hF rfl rfl rfl rfl (Nat.le_refl _) (Nat.le_refl _) rfl (hC.mono fun g o hq => ?_)
  rcases o with (_ | v | v) | E
  · exact hq.elim
  · have hq : Q g (.inl (some (vi v))) := hq
    refine AW.goto (tgt := 211) dL_does_203 rfl ?_
    exact AW.iret dL_does_211 rfl hq
  · exact hq.elim
  · obtain ⟨n, hm, hq⟩ := hq
    simp only [List.mem_cons, List.not_mem_nil, or_false, Prod.mk.injEq] at hm
    rcases hm with ⟨rfl, rfl⟩ | ⟨rfl, rfl⟩ | ⟨rfl, rfl⟩
    · exact ⟨_, hd_does_x (by decide), hq⟩
    · exact ⟨_, hd_does_a (by decide), hq⟩
    · exact ⟨_, hd_does_s (by decide), hq⟩
set_option maxHeartbeats 1000000 in
theorem kL_does_undo {x1 x2 x3 x4 x5 : Int} (hF : hT h mF = some (8, 0)) (hC : AC mX7_undo fX7_undo loX7_undo bc bs h [vr mF, vi x1] (DQ Q)) : AC mL_does fL_does loL_does bc bs h [vr mF, vi 11, vi x1, vi x2, vi x3, vi x4, vi x5] Q := by
  refine AC.mkH (by decide +kernel) (Nat.le_of_ble_eq_true rfl) ?_
  refine AW.iload_n dL_does_0 rfl ?_
  refine AW.if_neT (tgt := 28) dL_does_1 rfl (by decide) ?_
  refine AW.iload_n dL_does_28 rfl ?_
  refine AW.iconst dL_does_29 (by decide) ?_
  refine AW.icmp_neT (tgt := 44) dL_does_30 rfl (by decide) ?_
  refine AW.iload_n dL_does_44 rfl ?_
  refine AW.iconst dL_does_45 (by decide) ?_
  refine AW.icmp_neT (tgt := 60) dL_does_46 rfl (by decide) ?_
  refine AW.iload_n dL_does_60 rfl ?_
  refine AW.iconst dL_does_61 (by decide) ?_
  refine AW.icmp_neT (tgt := 80) dL_does_62 rfl (by decide) ?_
  refine AW.iload_n dL_does_80 rfl ?_
  refine AW.iconst dL_does_81 (by decide) ?_
  refine AW.icmp_neT (tgt := 100) dL_does_82 rfl (by decide) ?_
  refine AW.iload_n dL_does_100 rfl ?_
  refine AW.iconst dL_does_101 (by decide) ?_
  refine AW.icmp_neT (tgt := 122) dL_does_102 rfl (by decide) ?_
  refine AW.iload_n dL_does_122 rfl ?_
  refine AW.bipush dL_does_123 bp_6 (by decide) ?_
  refine AW.icmp_neT (tgt := 145) dL_does_125 rfl (by decide) ?_
  refine AW.iload_n dL_does_145 rfl ?_
  refine AW.bipush dL_does_146 bp_7 (by decide) ?_
  refine AW.icmp_neT (tgt := 160) dL_does_148 rfl (by decide) ?_
  refine AW.iload_n dL_does_160 rfl ?_
  refine AW.bipush dL_does_161 bp_8 (by decide) ?_
  refine AW.icmp_neT (tgt := 177) dL_does_163 rfl (by decide) ?_
  refine AW.iload_n dL_does_177 rfl ?_
  refine AW.bipush dL_does_178 bp_9 (by decide) ?_
  refine AW.icmp_neT (tgt := 192) dL_does_180 rfl (by decide) ?_
  refine AW.iload_n dL_does_192 rfl ?_
  refine AW.bipush dL_does_193 bp_10 (by decide) ?_
  refine AW.icmp_neT (tgt := 206) dL_does_195 rfl (by decide) ?_
  refine AW.aload_n dL_does_206 rfl ?_
  refine AW.iload_n dL_does_207 rfl ?_
  refine AW.callVH (as := [vi _]) dL_does_208 rfl rfl okX7_undo lkL_49 hF rfl rfl rfl rfl (Nat.le_refl _) (Nat.le_refl _) rfl (hC.mono fun g o hq => ?_)
  rcases o with (_ | v | v) | E
  · exact hq.elim
  · have hq : Q g (.inl (some (vi v))) := hq
    exact AW.iret dL_does_211 rfl hq
  · exact hq.elim
  · obtain ⟨n, hm, hq⟩ := hq
    simp only [List.mem_cons, List.not_mem_nil, or_false, Prod.mk.injEq] at hm
    rcases hm with ⟨rfl, rfl⟩ | ⟨rfl, rfl⟩ | ⟨rfl, rfl⟩
    · exact ⟨_, hd_does_x (by decide), hq⟩
    · exact ⟨_, hd_does_a (by decide), hq⟩
    · exact ⟨_, hd_does_s (by decide), hq⟩
set_option maxHeartbeats 1000000 in
theorem kL_asks_field {x1 x2 x3 : Int} (hF : hT h mF = some (8, 0)) (hC : AC mX7_field fX7_field loX7_field bc bs h [vr mF, vi x1, vi x2, vi x3] (AQ Q)) : AC mL_asks fL_asks loL_asks bc bs h [vr mF, vi 0, vi x1, vi x2, vi x3] Q := by
  refine AC.mkH (by decide +kernel) (Nat.le_of_ble_eq_true rfl) ?_
  refine AW.iload_n dL_asks_0 rfl ?_
  refine AW.if_neF (tgt := 15) dL_asks_1 rfl (by decide) ?_
  refine AW.aload_n dL_asks_4 rfl ?_
  refine AW.iload_n dL_asks_5 rfl ?_
  refine AW.iload_n dL_asks_6 rfl ?_
  refine AW.iload dL_asks_7 rfl ?_
  refine AW.callVH (as := [vi _, vi _, vi _]) dL_asks_9 rfl rfl okX7_field lkL_58 hF rfl rfl rfl rfl (Nat.le_refl _) (Nat.le_refl _) rfl (hC.mono fun g o hq => ?_)
  rcases o with (_ | v | v) | E
  · exact hq.elim
  · have hq : Q g (.inl (some (vi v))) := hq
    refine AW.goto (tgt := 79) dL_asks_12 rfl ?_
    exact AW.iret dL_asks_79 rfl hq
  · exact hq.elim
  · obtain ⟨n, hm, hq⟩ := hq
    simp only [List.mem_cons, List.not_mem_nil, or_false, Prod.mk.injEq] at hm
    rcases hm with ⟨rfl, rfl⟩ | ⟨rfl, rfl⟩
    · exact ⟨_, hd_asks_x (by decide), hq⟩
    · exact ⟨_, hd_asks_a (by decide), hq⟩
set_option maxHeartbeats 1000000 in
theorem kL_asks_text {x1 x2 x3 : Int} (hF : hT h mF = some (8, 0)) (hC : AC mX7_text fX7_text loX7_text bc bs h [vr mF, vi x1, vi x2, vi x3] (AQ Q)) : AC mL_asks fL_asks loL_asks bc bs h [vr mF, vi 1, vi x1, vi x2, vi x3] Q := by
  refine AC.mkH (by decide +kernel) (Nat.le_of_ble_eq_true rfl) ?_
  refine AW.iload_n dL_asks_0 rfl ?_
  refine AW.if_neT (tgt := 15) dL_asks_1 rfl (by decide) ?_
  refine AW.iload_n dL_asks_15 rfl ?_
  refine AW.iconst dL_asks_16 (by decide) ?_
  refine AW.icmp_neF (tgt := 31) dL_asks_17 rfl (by decide) ?_
  refine AW.aload_n dL_asks_20 rfl ?_
  refine AW.iload_n dL_asks_21 rfl ?_
  refine AW.iload_n dL_asks_22 rfl ?_
  refine AW.iload dL_asks_23 rfl ?_
  refine AW.callVH (as := [vi _, vi _, vi _]) dL_asks_25 rfl rfl okX7_text lkL_61 hF rfl rfl rfl rfl (Nat.le_refl _) (Nat.le_refl _) rfl (hC.mono fun g o hq => ?_)
  rcases o with (_ | v | v) | E
  · exact hq.elim
  · have hq : Q g (.inl (some (vi v))) := hq
    refine AW.goto (tgt := 79) dL_asks_28 rfl ?_
    exact AW.iret dL_asks_79 rfl hq
  · exact hq.elim
  · obtain ⟨n, hm, hq⟩ := hq
    simp only [List.mem_cons, List.not_mem_nil, or_false, Prod.mk.injEq] at hm
    rcases hm with ⟨rfl, rfl⟩ | ⟨rfl, rfl⟩
    · exact ⟨_, hd_asks_x (by decide), hq⟩
    · exact ⟨_, hd_asks_a (by decide), hq⟩
set_option maxHeartbeats 1000000 in
theorem kL_asks_value {x1 x2 x3 : Int} (hF : hT h mF = some (8, 0)) (hC : AC mX7_value fX7_value loX7_value bc bs h [vr mF, vi x1, vi x2, vi x3] (AQ Q)) : AC mL_asks fL_asks loL_asks bc bs h [vr mF, vi 2, vi x1, vi x2, vi x3] Q := by
  refine AC.mkH (by decide +kernel) (Nat.le_of_ble_eq_true rfl) ?_
  refine AW.iload_n dL_asks_0 rfl ?_
  refine AW.if_neT (tgt := 15) dL_asks_1 rfl (by decide) ?_
  refine AW.iload_n dL_asks_15 rfl ?_
  refine AW.iconst dL_asks_16 (by decide) ?_
  refine AW.icmp_neT (tgt := 31) dL_asks_17 rfl (by decide) ?_
  refine AW.iload_n dL_asks_31 rfl ?_
  refine AW.iconst dL_asks_32 (by decide) ?_
  refine AW.icmp_neF (tgt := 47) dL_asks_33 rfl (by decide) ?_
  refine AW.aload_n dL_asks_36 rfl ?_
  refine AW.iload_n dL_asks_37 rfl ?_
  refine AW.iload_n dL_asks_38 rfl ?_
  refine AW.iload dL_asks_39 rfl ?_
  refine AW.callVH (as := [vi _, vi _, vi _]) dL_asks_41 rfl rfl okX7_value lkL_65 hF rfl rfl rfl rfl (Nat.le_refl _) (Nat.le_refl _) rfl (hC.mono fun g o hq => ?_)
  rcases o with (_ | v | v) | E
  · exact hq.elim
  · have hq : Q g (.inl (some (vi v))) := hq
    refine AW.goto (tgt := 79) dL_asks_44 rfl ?_
    exact AW.iret dL_asks_79 rfl hq
  · exact hq.elim
  · obtain ⟨n, hm, hq⟩ := hq
    simp only [List.mem_cons, List.not_mem_nil, or_false, Prod.mk.injEq] at hm
    rcases hm with ⟨rfl, rfl⟩ | ⟨rfl, rfl⟩
    · exact ⟨_, hd_asks_x (by decide), hq⟩
    · exact ⟨_, hd_asks_a (by decide), hq⟩
set_option maxHeartbeats 1000000 in
theorem kL_asks_replayed {x1 x2 x3 : Int} (hF : hT h mF = some (8, 0)) (hC : AC mX7_replayed fX7_replayed loX7_replayed bc bs h [vr mF, vi x1, vi x2] (AQ Q)) : AC mL_asks fL_asks loL_asks bc bs h [vr mF, vi 3, vi x1, vi x2, vi x3] Q := by
  refine AC.mkH (by decide +kernel) (Nat.le_of_ble_eq_true rfl) ?_
  refine AW.iload_n dL_asks_0 rfl ?_
  refine AW.if_neT (tgt := 15) dL_asks_1 rfl (by decide) ?_
  refine AW.iload_n dL_asks_15 rfl ?_
  refine AW.iconst dL_asks_16 (by decide) ?_
  refine AW.icmp_neT (tgt := 31) dL_asks_17 rfl (by decide) ?_
  refine AW.iload_n dL_asks_31 rfl ?_
  refine AW.iconst dL_asks_32 (by decide) ?_
  refine AW.icmp_neT (tgt := 47) dL_asks_33 rfl (by decide) ?_
  refine AW.iload_n dL_asks_47 rfl ?_
  refine AW.iconst dL_asks_48 (by decide) ?_
  refine AW.icmp_neF (tgt := 61) dL_asks_49 rfl (by decide) ?_
  refine AW.aload_n dL_asks_52 rfl ?_
  refine AW.iload_n dL_asks_53 rfl ?_
  refine AW.iload_n dL_asks_54 rfl ?_
  refine AW.callVH (as := [vi _, vi _]) dL_asks_55 rfl rfl okX7_replayed lkL_68 hF rfl rfl rfl rfl (Nat.le_refl _) (Nat.le_refl _) rfl (hC.mono fun g o hq => ?_)
  rcases o with (_ | v | v) | E
  · exact hq.elim
  · have hq : Q g (.inl (some (vi v))) := hq
    refine AW.goto (tgt := 79) dL_asks_58 rfl ?_
    exact AW.iret dL_asks_79 rfl hq
  · exact hq.elim
  · obtain ⟨n, hm, hq⟩ := hq
    simp only [List.mem_cons, List.not_mem_nil, or_false, Prod.mk.injEq] at hm
    rcases hm with ⟨rfl, rfl⟩ | ⟨rfl, rfl⟩
    · exact ⟨_, hd_asks_x (by decide), hq⟩
    · exact ⟨_, hd_asks_a (by decide), hq⟩
set_option maxHeartbeats 1000000 in
theorem kL_asks_standing {x1 x2 x3 : Int} (hF : hT h mF = some (8, 0)) (hC : AC mX7_standing fX7_standing loX7_standing bc bs h [vr mF, vi x1] (AQ Q)) : AC mL_asks fL_asks loL_asks bc bs h [vr mF, vi 4, vi x1, vi x2, vi x3] Q := by
  refine AC.mkH (by decide +kernel) (Nat.le_of_ble_eq_true rfl) ?_
  refine AW.iload_n dL_asks_0 rfl ?_
  refine AW.if_neT (tgt := 15) dL_asks_1 rfl (by decide) ?_
  refine AW.iload_n dL_asks_15 rfl ?_
  refine AW.iconst dL_asks_16 (by decide) ?_
  refine AW.icmp_neT (tgt := 31) dL_asks_17 rfl (by decide) ?_
  refine AW.iload_n dL_asks_31 rfl ?_
  refine AW.iconst dL_asks_32 (by decide) ?_
  refine AW.icmp_neT (tgt := 47) dL_asks_33 rfl (by decide) ?_
  refine AW.iload_n dL_asks_47 rfl ?_
  refine AW.iconst dL_asks_48 (by decide) ?_
  refine AW.icmp_neT (tgt := 61) dL_asks_49 rfl (by decide) ?_
  refine AW.iload_n dL_asks_61 rfl ?_
  refine AW.iconst dL_asks_62 (by decide) ?_
  refine AW.icmp_neF (tgt := 74) dL_asks_63 rfl (by decide) ?_
  refine AW.aload_n dL_asks_66 rfl ?_
  refine AW.iload_n dL_asks_67 rfl ?_
  refine AW.callVH (as := [vi _]) dL_asks_68 rfl rfl okX7_standing lkL_71 hF rfl rfl rfl rfl (Nat.le_refl _) (Nat.le_refl _) rfl (hC.mono fun g o hq => ?_)
  rcases o with (_ | v | v) | E
  · exact hq.elim
  · have hq : Q g (.inl (some (vi v))) := hq
    refine AW.goto (tgt := 79) dL_asks_71 rfl ?_
    exact AW.iret dL_asks_79 rfl hq
  · exact hq.elim
  · obtain ⟨n, hm, hq⟩ := hq
    simp only [List.mem_cons, List.not_mem_nil, or_false, Prod.mk.injEq] at hm
    rcases hm with ⟨rfl, rfl⟩ | ⟨rfl, rfl⟩
    · exact ⟨_, hd_asks_x (by decide), hq⟩
    · exact ⟨_, hd_asks_a (by decide), hq⟩
set_option maxHeartbeats 1000000 in
theorem kL_asks_head {x1 x2 x3 : Int} (hF : hT h mF = some (8, 0)) (hC : AC mX7_head fX7_head loX7_head bc bs h [vr mF, vi x1] (AQ Q)) : AC mL_asks fL_asks loL_asks bc bs h [vr mF, vi 5, vi x1, vi x2, vi x3] Q := by
  refine AC.mkH (by decide +kernel) (Nat.le_of_ble_eq_true rfl) ?_
  refine AW.iload_n dL_asks_0 rfl ?_
  refine AW.if_neT (tgt := 15) dL_asks_1 rfl (by decide) ?_
  refine AW.iload_n dL_asks_15 rfl ?_
  refine AW.iconst dL_asks_16 (by decide) ?_
  refine AW.icmp_neT (tgt := 31) dL_asks_17 rfl (by decide) ?_
  refine AW.iload_n dL_asks_31 rfl ?_
  refine AW.iconst dL_asks_32 (by decide) ?_
  refine AW.icmp_neT (tgt := 47) dL_asks_33 rfl (by decide) ?_
  refine AW.iload_n dL_asks_47 rfl ?_
  refine AW.iconst dL_asks_48 (by decide) ?_
  refine AW.icmp_neT (tgt := 61) dL_asks_49 rfl (by decide) ?_
  refine AW.iload_n dL_asks_61 rfl ?_
  refine AW.iconst dL_asks_62 (by decide) ?_
  refine AW.icmp_neT (tgt := 74) dL_asks_63 rfl (by decide) ?_
  refine AW.aload_n dL_asks_74 rfl ?_
  refine AW.iload_n dL_asks_75 rfl ?_
  refine AW.callVH (as := [vi _]) dL_asks_76 rfl rfl okX7_head lkL_74 hF rfl rfl rfl rfl (Nat.le_refl _) (Nat.le_refl _) rfl (hC.mono fun g o hq => ?_)
  rcases o with (_ | v | v) | E
  · exact hq.elim
  · have hq : Q g (.inl (some (vi v))) := hq
    exact AW.iret dL_asks_79 rfl hq
  · exact hq.elim
  · obtain ⟨n, hm, hq⟩ := hq
    simp only [List.mem_cons, List.not_mem_nil, or_false, Prod.mk.injEq] at hm
    rcases hm with ⟨rfl, rfl⟩ | ⟨rfl, rfl⟩
    · exact ⟨_, hd_asks_x (by decide), hq⟩
    · exact ⟨_, hd_asks_a (by decide), hq⟩
end C0
