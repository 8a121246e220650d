/-! ===== the helpers of the law ===== -/
section WRP
variable {h : AH} {Q : AH → AO → Prop} {bc bs : Nat}
theorem AC.mono {M : MI} {fr lo nc ns : Nat} {vs : List AV} {Q' : AH → AO → Prop} (hC : AC M fr lo nc ns h vs Q) (k : ∀ h' o, Q h' o → Q' h' o) : AC M fr lo nc ns h vs Q' := by
  intro l D dA B0 H0 al p e ha hc hcl s m args below hf happ hP hK
  obtain ⟨n, o, a, b, c, d⟩ := hC l D dA B0 H0 al p e ha hc hcl s m args below hf happ hP hK
  refine ⟨n, o, a, b, c, ?_⟩
  rcases d with ⟨⟨v, h', al', q1, q2, q3, q4⟩, d2⟩ | ⟨q, d1, E, ce, L, ⟨h', al', q1, q2⟩, d3⟩
  · exact Or.inl ⟨⟨v, h', al', q1, k _ _ q2, q3, q4⟩, d2⟩
  · exact Or.inr ⟨q, d1, E, ce, L, ⟨h', al', k _ _ q1, q2⟩, d3⟩
theorem hdL_schema_1 : HD mL_schema 3 eIs 1 := ⟨rfl, rfl, [], (0, 8, 11, 13), [], rfl, by decide, by decide, by decide, lkL_13, trivial, Or.inl ⟨2, by decide, dL_schema_11, dL_schema_12, dL_schema_13⟩⟩
abbrev rsL_schema : List (String × Int) := [(eIs, 1)]
set_option maxHeartbeats 1000000 in
theorem kL_schema (hF : hT h mF = some (8, 0)) (hC : AC mX7_schema fX7_schema loX7_schema bc bs h [vr mF] (WQ rsL_schema Q)) : AC mL_schema (fX7_schema + 1) (loX7_schema + 21) bc bs h [vr mF, vr nO] Q := by
  refine AC.mkH (by decide +kernel) (Nat.le_of_ble_eq_true rfl) ?_
  refine AW.aload_n dL_schema_0 rfl ?_
  refine AW.iconst dL_schema_1 rfl ?_
  refine AW.aload_n dL_schema_2 rfl ?_
  refine AW.callVH (as := []) dL_schema_3 rfl rfl okX7_schema lkL_7 hF rfl rfl rfl rfl (Nat.le_refl _) (Nat.le_refl _) rfl (hC.mono fun g o hq => ?_)
  rcases o with (_ | v | v) | E
  · exact hq.elim
  · have hq : _ ∧ _ := hq
    refine AW.i2l dL_schema_6 ?_
    refine AW.astL dL_schema_7 hq.1 (by decide) (by decide) ?_
    refine AW.goto dL_schema_8 (tgt := 14) rfl ?_
    refine AW.iconst dL_schema_14 rfl ?_
    exact AW.iret dL_schema_15 rfl hq.2
  · exact hq.elim
  · obtain ⟨n, hm, hq⟩ := hq
    simp only [List.mem_cons, List.not_mem_nil, or_false, Prod.mk.injEq] at hm
    obtain ⟨rfl, rfl⟩ := hm
    exact ⟨_, hdL_schema_1, hq⟩
theorem hdL_add_1 : HD mL_add 11 eIx 1 := ⟨rfl, rfl, [], (0, 16, 19, 19), [(0, 16, 23, 21), (0, 16, 27, 13)], rfl, by decide, by decide, by decide, lkL_19, trivial, Or.inr ⟨7, by decide, dL_add_19, dL_add_21, dL_add_22⟩⟩
theorem hdL_add_2 : HD mL_add 11 eIa 2 := ⟨rfl, rfl, [(0, 16, 19, 19)], (0, 16, 23, 21), [(0, 16, 27, 13)], rfl, by decide, by decide, by decide, lkL_21, ⟨⟨by decide, eIx, lkL_19, by decide +kernel⟩, trivial⟩, Or.inr ⟨7, by decide, dL_add_23, dL_add_25, dL_add_26⟩⟩
theorem hdL_add_3 : HD mL_add 11 eIs 3 := ⟨rfl, rfl, [(0, 16, 19, 19), (0, 16, 23, 21)], (0, 16, 27, 13), [], rfl, by decide, by decide, by decide, lkL_13, ⟨⟨by decide, eIx, lkL_19, by decide +kernel⟩, ⟨⟨by decide, eIa, lkL_21, by decide +kernel⟩, trivial⟩⟩, Or.inr ⟨7, by decide, dL_add_27, dL_add_29, dL_add_30⟩⟩
abbrev rsL_add : List (String × Int) := [(eIx, 1), (eIa, 2), (eIs, 3)]
set_option maxHeartbeats 1000000 in
theorem kL_add {x1 x2 x3 x4 x5 : Int} (hF : hT h mF = some (8, 0)) (hC : AC mX7_add fX7_add loX7_add bc bs h [vr mF, vi x1, vi x2, vi x3, vi x4, vi x5] (WQ rsL_add Q)) : AC mL_add (fX7_add + 1) (loX7_add + 27) bc bs h [vr mF, vi x1, vi x2, vi x3, vi x4, vi x5, vr nO] Q := by
  refine AC.mkH (by decide +kernel) (Nat.le_of_ble_eq_true rfl) ?_
  refine AW.aload dL_add_0 rfl ?_
  refine AW.iconst dL_add_2 rfl ?_
  refine AW.aload_n dL_add_3 rfl ?_
  refine AW.iload_n dL_add_4 rfl ?_
  refine AW.iload_n dL_add_5 rfl ?_
  refine AW.iload_n dL_add_6 rfl ?_
  refine AW.iload dL_add_7 rfl ?_
  refine AW.iload dL_add_9 rfl ?_
  refine AW.callVH (as := [vi x1, vi x2, vi x3, vi x4, vi x5]) dL_add_11 rfl rfl okX7_add lkL_15 hF rfl rfl rfl rfl (Nat.le_refl _) (Nat.le_refl _) rfl (hC.mono fun g o hq => ?_)
  rcases o with (_ | v | v) | E
  · exact hq.elim
  · have hq : _ ∧ _ := hq
    refine AW.i2l dL_add_14 ?_
    refine AW.astL dL_add_15 hq.1 (by decide) (by decide) ?_
    refine AW.goto dL_add_16 (tgt := 31) rfl ?_
    refine AW.iconst dL_add_31 rfl ?_
    exact AW.iret dL_add_32 rfl hq.2
  · exact hq.elim
  · obtain ⟨n, hm, hq⟩ := hq
    simp only [List.mem_cons, List.not_mem_nil, or_false, Prod.mk.injEq] at hm
    rcases hm with ⟨rfl, rfl⟩ | ⟨rfl, rfl⟩ | ⟨rfl, rfl⟩
    · exact ⟨_, hdL_add_1, hq⟩
    · exact ⟨_, hdL_add_2, hq⟩
    · exact ⟨_, hdL_add_3, hq⟩
theorem hdL_rename_1 : HD mL_rename 7 eIx 1 := ⟨rfl, rfl, [], (0, 12, 15, 19), [(0, 12, 19, 21), (0, 12, 23, 13)], rfl, by decide, by decide, by decide, lkL_19, trivial, Or.inr ⟨5, by decide, dL_rename_15, dL_rename_17, dL_rename_18⟩⟩
theorem hdL_rename_2 : HD mL_rename 7 eIa 2 := ⟨rfl, rfl, [(0, 12, 15, 19)], (0, 12, 19, 21), [(0, 12, 23, 13)], rfl, by decide, by decide, by decide, lkL_21, ⟨⟨by decide, eIx, lkL_19, by decide +kernel⟩, trivial⟩, Or.inr ⟨5, by decide, dL_rename_19, dL_rename_21, dL_rename_22⟩⟩
theorem hdL_rename_3 : HD mL_rename 7 eIs 3 := ⟨rfl, rfl, [(0, 12, 15, 19), (0, 12, 19, 21)], (0, 12, 23, 13), [], rfl, by decide, by decide, by decide, lkL_13, ⟨⟨by decide, eIx, lkL_19, by decide +kernel⟩, ⟨⟨by decide, eIa, lkL_21, by decide +kernel⟩, trivial⟩⟩, Or.inr ⟨5, by decide, dL_rename_23, dL_rename_25, dL_rename_26⟩⟩
abbrev rsL_rename : List (String × Int) := [(eIx, 1), (eIa, 2), (eIs, 3)]
set_option maxHeartbeats 1000000 in
theorem kL_rename {x1 x2 x3 : Int} (hF : hT h mF = some (8, 0)) (hC : AC mX7_rename fX7_rename loX7_rename bc bs h [vr mF, vi x1, vi x2, vi x3] (WQ rsL_rename Q)) : AC mL_rename (fX7_rename + 1) (loX7_rename + 26) bc bs h [vr mF, vi x1, vi x2, vi x3, vr nO] Q := by
  refine AC.mkH (by decide +kernel) (Nat.le_of_ble_eq_true rfl) ?_
  refine AW.aload dL_rename_0 rfl ?_
  refine AW.iconst dL_rename_2 rfl ?_
  refine AW.aload_n dL_rename_3 rfl ?_
  refine AW.iload_n dL_rename_4 rfl ?_
  refine AW.iload_n dL_rename_5 rfl ?_
  refine AW.iload_n dL_rename_6 rfl ?_
  refine AW.callVH (as := [vi x1, vi x2, vi x3]) dL_rename_7 rfl rfl okX7_rename lkL_23 hF rfl rfl rfl rfl (Nat.le_refl _) (Nat.le_refl _) rfl (hC.mono fun g o hq => ?_)
  rcases o with (_ | v | v) | E
  · exact hq.elim
  · have hq : _ ∧ _ := hq
    refine AW.i2l dL_rename_10 ?_
    refine AW.astL dL_rename_11 hq.1 (by decide) (by decide) ?_
    refine AW.goto dL_rename_12 (tgt := 27) rfl ?_
    refine AW.iconst dL_rename_27 rfl ?_
    exact AW.iret dL_rename_28 rfl hq.2
  · exact hq.elim
  · obtain ⟨n, hm, hq⟩ := hq
    simp only [List.mem_cons, List.not_mem_nil, or_false, Prod.mk.injEq] at hm
    rcases hm with ⟨rfl, rfl⟩ | ⟨rfl, rfl⟩ | ⟨rfl, rfl⟩
    · exact ⟨_, hdL_rename_1, hq⟩
    · exact ⟨_, hdL_rename_2, hq⟩
    · exact ⟨_, hdL_rename_3, hq⟩
theorem hdL_turn_1 : HD mL_turn 7 eIx 1 := ⟨rfl, rfl, [], (0, 12, 15, 19), [(0, 12, 19, 21), (0, 12, 23, 13)], rfl, by decide, by decide, by decide, lkL_19, trivial, Or.inr ⟨5, by decide, dL_turn_15, dL_turn_17, dL_turn_18⟩⟩
theorem hdL_turn_2 : HD mL_turn 7 eIa 2 := ⟨rfl, rfl, [(0, 12, 15, 19)], (0, 12, 19, 21), [(0, 12, 23, 13)], rfl, by decide, by decide, by decide, lkL_21, ⟨⟨by decide, eIx, lkL_19, by decide +kernel⟩, trivial⟩, Or.inr ⟨5, by decide, dL_turn_19, dL_turn_21, dL_turn_22⟩⟩
theorem hdL_turn_3 : HD mL_turn 7 eIs 3 := ⟨rfl, rfl, [(0, 12, 15, 19), (0, 12, 19, 21)], (0, 12, 23, 13), [], rfl, by decide, by decide, by decide, lkL_13, ⟨⟨by decide, eIx, lkL_19, by decide +kernel⟩, ⟨⟨by decide, eIa, lkL_21, by decide +kernel⟩, trivial⟩⟩, Or.inr ⟨5, by decide, dL_turn_23, dL_turn_25, dL_turn_26⟩⟩
abbrev rsL_turn : List (String × Int) := [(eIx, 1), (eIa, 2), (eIs, 3)]
set_option maxHeartbeats 1000000 in
theorem kL_turn {x1 x2 x3 : Int} (hF : hT h mF = some (8, 0)) (hC : AC mX7_turn fX7_turn loX7_turn bc bs h [vr mF, vi x1, vi x2, vi x3] (WQ rsL_turn Q)) : AC mL_turn (fX7_turn + 1) (loX7_turn + 28) bc bs h [vr mF, vi x1, vi x2, vi x3, vr nO] Q := by
  refine AC.mkH (by decide +kernel) (Nat.le_of_ble_eq_true rfl) ?_
  refine AW.aload dL_turn_0 rfl ?_
  refine AW.iconst dL_turn_2 rfl ?_
  refine AW.aload_n dL_turn_3 rfl ?_
  refine AW.iload_n dL_turn_4 rfl ?_
  refine AW.iload_n dL_turn_5 rfl ?_
  refine AW.iload_n dL_turn_6 rfl ?_
  refine AW.callVH (as := [vi x1, vi x2, vi x3]) dL_turn_7 rfl rfl okX7_turn lkL_27 hF rfl rfl rfl rfl (Nat.le_refl _) (Nat.le_refl _) rfl (hC.mono fun g o hq => ?_)
  rcases o with (_ | v | v) | E
  · exact hq.elim
  · have hq : _ ∧ _ := hq
    refine AW.i2l dL_turn_10 ?_
    refine AW.astL dL_turn_11 hq.1 (by decide) (by decide) ?_
    refine AW.goto dL_turn_12 (tgt := 27) rfl ?_
    refine AW.iconst dL_turn_27 rfl ?_
    exact AW.iret dL_turn_28 rfl hq.2
  · exact hq.elim
  · obtain ⟨n, hm, hq⟩ := hq
    simp only [List.mem_cons, List.not_mem_nil, or_false, Prod.mk.injEq] at hm
    rcases hm with ⟨rfl, rfl⟩ | ⟨rfl, rfl⟩ | ⟨rfl, rfl⟩
    · exact ⟨_, hdL_turn_1, hq⟩
    · exact ⟨_, hdL_turn_2, hq⟩
    · exact ⟨_, hdL_turn_3, hq⟩
theorem hdL_split_1 : HD mL_split 11 eIx 1 := ⟨rfl, rfl, [], (0, 16, 19, 19), [(0, 16, 23, 21), (0, 16, 27, 13)], rfl, by decide, by decide, by decide, lkL_19, trivial, Or.inr ⟨7, by decide, dL_split_19, dL_split_21, dL_split_22⟩⟩
theorem hdL_split_2 : HD mL_split 11 eIa 2 := ⟨rfl, rfl, [(0, 16, 19, 19)], (0, 16, 23, 21), [(0, 16, 27, 13)], rfl, by decide, by decide, by decide, lkL_21, ⟨⟨by decide, eIx, lkL_19, by decide +kernel⟩, trivial⟩, Or.inr ⟨7, by decide, dL_split_23, dL_split_25, dL_split_26⟩⟩
theorem hdL_split_3 : HD mL_split 11 eIs 3 := ⟨rfl, rfl, [(0, 16, 19, 19), (0, 16, 23, 21)], (0, 16, 27, 13), [], rfl, by decide, by decide, by decide, lkL_13, ⟨⟨by decide, eIx, lkL_19, by decide +kernel⟩, ⟨⟨by decide, eIa, lkL_21, by decide +kernel⟩, trivial⟩⟩, Or.inr ⟨7, by decide, dL_split_27, dL_split_29, dL_split_30⟩⟩
abbrev rsL_split : List (String × Int) := [(eIx, 1), (eIa, 2), (eIs, 3)]
set_option maxHeartbeats 1000000 in
theorem kL_split {x1 x2 x3 x4 x5 : Int} (hF : hT h mF = some (8, 0)) (hC : AC mX7_split fX7_split loX7_split bc bs h [vr mF, vi x1, vi x2, vi x3, vi x4, vi x5] (WQ rsL_split Q)) : AC mL_split (fX7_split + 1) (loX7_split + 32) bc bs h [vr mF, vi x1, vi x2, vi x3, vi x4, vi x5, vr nO] Q := by
  refine AC.mkH (by decide +kernel) (Nat.le_of_ble_eq_true rfl) ?_
  refine AW.aload dL_split_0 rfl ?_
  refine AW.iconst dL_split_2 rfl ?_
  refine AW.aload_n dL_split_3 rfl ?_
  refine AW.iload_n dL_split_4 rfl ?_
  refine AW.iload_n dL_split_5 rfl ?_
  refine AW.iload_n dL_split_6 rfl ?_
  refine AW.iload dL_split_7 rfl ?_
  refine AW.iload dL_split_9 rfl ?_
  refine AW.callVH (as := [vi x1, vi x2, vi x3, vi x4, vi x5]) dL_split_11 rfl rfl okX7_split lkL_30 hF rfl rfl rfl rfl (Nat.le_refl _) (Nat.le_refl _) rfl (hC.mono fun g o hq => ?_)
  rcases o with (_ | v | v) | E
  · exact hq.elim
  · have hq : _ ∧ _ := hq
    refine AW.i2l dL_split_14 ?_
    refine AW.astL dL_split_15 hq.1 (by decide) (by decide) ?_
    refine AW.goto dL_split_16 (tgt := 31) rfl ?_
    refine AW.iconst dL_split_31 rfl ?_
    exact AW.iret dL_split_32 rfl hq.2
  · exact hq.elim
  · obtain ⟨n, hm, hq⟩ := hq
    simp only [List.mem_cons, List.not_mem_nil, or_false, Prod.mk.injEq] at hm
    rcases hm with ⟨rfl, rfl⟩ | ⟨rfl, rfl⟩ | ⟨rfl, rfl⟩
    · exact ⟨_, hdL_split_1, hq⟩
    · exact ⟨_, hdL_split_2, hq⟩
    · exact ⟨_, hdL_split_3, hq⟩
theorem hdL_join_1 : HD mL_join 11 eIx 1 := ⟨rfl, rfl, [], (0, 16, 19, 19), [(0, 16, 23, 21), (0, 16, 27, 13)], rfl, by decide, by decide, by decide, lkL_19, trivial, Or.inr ⟨7, by decide, dL_join_19, dL_join_21, dL_join_22⟩⟩
theorem hdL_join_2 : HD mL_join 11 eIa 2 := ⟨rfl, rfl, [(0, 16, 19, 19)], (0, 16, 23, 21), [(0, 16, 27, 13)], rfl, by decide, by decide, by decide, lkL_21, ⟨⟨by decide, eIx, lkL_19, by decide +kernel⟩, trivial⟩, Or.inr ⟨7, by decide, dL_join_23, dL_join_25, dL_join_26⟩⟩
theorem hdL_join_3 : HD mL_join 11 eIs 3 := ⟨rfl, rfl, [(0, 16, 19, 19), (0, 16, 23, 21)], (0, 16, 27, 13), [], rfl, by decide, by decide, by decide, lkL_13, ⟨⟨by decide, eIx, lkL_19, by decide +kernel⟩, ⟨⟨by decide, eIa, lkL_21, by decide +kernel⟩, trivial⟩⟩, Or.inr ⟨7, by decide, dL_join_27, dL_join_29, dL_join_30⟩⟩
abbrev rsL_join : List (String × Int) := [(eIx, 1), (eIa, 2), (eIs, 3)]
set_option maxHeartbeats 1000000 in
theorem kL_join {x1 x2 x3 x4 x5 : Int} (hF : hT h mF = some (8, 0)) (hC : AC mX7_join fX7_join loX7_join bc bs h [vr mF, vi x1, vi x2, vi x3, vi x4, vi x5] (WQ rsL_join Q)) : AC mL_join (fX7_join + 1) (loX7_join + 32) bc bs h [vr mF, vi x1, vi x2, vi x3, vi x4, vi x5, vr nO] Q := by
  refine AC.mkH (by decide +kernel) (Nat.le_of_ble_eq_true rfl) ?_
  refine AW.aload dL_join_0 rfl ?_
  refine AW.iconst dL_join_2 rfl ?_
  refine AW.aload_n dL_join_3 rfl ?_
  refine AW.iload_n dL_join_4 rfl ?_
  refine AW.iload_n dL_join_5 rfl ?_
  refine AW.iload_n dL_join_6 rfl ?_
  refine AW.iload dL_join_7 rfl ?_
  refine AW.iload dL_join_9 rfl ?_
  refine AW.callVH (as := [vi x1, vi x2, vi x3, vi x4, vi x5]) dL_join_11 rfl rfl okX7_join lkL_34 hF rfl rfl rfl rfl (Nat.le_refl _) (Nat.le_refl _) rfl (hC.mono fun g o hq => ?_)
  rcases o with (_ | v | v) | E
  · exact hq.elim
  · have hq : _ ∧ _ := hq
    refine AW.i2l dL_join_14 ?_
    refine AW.astL dL_join_15 hq.1 (by decide) (by decide) ?_
    refine AW.goto dL_join_16 (tgt := 31) rfl ?_
    refine AW.iconst dL_join_31 rfl ?_
    exact AW.iret dL_join_32 rfl hq.2
  · exact hq.elim
  · obtain ⟨n, hm, hq⟩ := hq
    simp only [List.mem_cons, List.not_mem_nil, or_false, Prod.mk.injEq] at hm
    rcases hm with ⟨rfl, rfl⟩ | ⟨rfl, rfl⟩ | ⟨rfl, rfl⟩
    · exact ⟨_, hdL_join_1, hq⟩
    · exact ⟨_, hdL_join_2, hq⟩
    · exact ⟨_, hdL_join_3, hq⟩
theorem hdL_toggleNeed_1 : HD mL_toggleNeed 5 eIx 1 := ⟨rfl, rfl, [], (0, 17, 20, 19), [(0, 17, 24, 13)], rfl, by decide, by decide, by decide, lkL_19, trivial, Or.inr ⟨4, by decide, dL_toggleNeed_20, dL_toggleNeed_22, dL_toggleNeed_23⟩⟩
theorem hdL_toggleNeed_2 : HD mL_toggleNeed 5 eIs 2 := ⟨rfl, rfl, [(0, 17, 20, 19)], (0, 17, 24, 13), [], rfl, by decide, by decide, by decide, lkL_13, ⟨⟨by decide, eIx, lkL_19, by decide +kernel⟩, trivial⟩, Or.inr ⟨4, by decide, dL_toggleNeed_24, dL_toggleNeed_26, dL_toggleNeed_27⟩⟩
abbrev rsL_toggleNeed : List (String × Int) := [(eIx, 1), (eIs, 2)]
set_option maxHeartbeats 1000000 in
theorem kL_toggleNeed {x1 x2 : Int} (hF : hT h mF = some (8, 0)) (hC : AC mX7_toggleNeed fX7_toggleNeed loX7_toggleNeed bc bs h [vr mF, vi x1, vi x2] (fun g o => WQ rsL_toggleNeed Q g o ∧ (∀ v, o = .inl (some (vi v)) → v = 0 ∨ v = 1))) : AC mL_toggleNeed (fX7_toggleNeed + 1) (loX7_toggleNeed + 25) bc bs h [vr mF, vi x1, vi x2, vr nO] Q := by
  refine AC.mkH (by decide +kernel) (Nat.le_of_ble_eq_true rfl) ?_
  refine AW.aload_n dL_toggleNeed_0 rfl ?_
  refine AW.iconst dL_toggleNeed_1 rfl ?_
  refine AW.aload_n dL_toggleNeed_2 rfl ?_
  refine AW.iload_n dL_toggleNeed_3 rfl ?_
  refine AW.iload_n dL_toggleNeed_4 rfl ?_
  refine AW.callVH (as := [vi x1, vi x2]) dL_toggleNeed_5 rfl rfl okX7_toggleNeed lkL_37 hF rfl rfl rfl rfl (Nat.le_refl _) (Nat.le_refl _) rfl (hC.mono fun g o hq => ?_)
  obtain ⟨hq, hz⟩ := hq
  rcases o with (_ | v | v) | E
  · exact hq.elim
  · have hz := hz v rfl
    have hq : _ ∧ _ := hq
    refine AW.if_eq dL_toggleNeed_8 (tgt := 15) rfl (fun e => ?_) (fun e => ?_)
    · subst e
      refine AW.lconst dL_toggleNeed_15 ?_
      refine AW.topl (y := Int64.ofInt 0) (by decide) ?_
      refine AW.astL dL_toggleNeed_16 hq.1 (by decide) (by decide) ?_
      refine AW.goto dL_toggleNeed_17 (tgt := 28) rfl ?_
      refine AW.iconst dL_toggleNeed_28 rfl ?_
      exact AW.iret dL_toggleNeed_29 rfl hq.2
    · rcases hz with rfl | rfl
      · exact absurd rfl e
      · refine AW.lconst dL_toggleNeed_11 ?_
        refine AW.topl (y := Int64.ofInt 1) (by decide) ?_
        refine AW.goto dL_toggleNeed_12 (tgt := 16) rfl ?_
        refine AW.astL dL_toggleNeed_16 hq.1 (by decide) (by decide) ?_
        refine AW.goto dL_toggleNeed_17 (tgt := 28) rfl ?_
        refine AW.iconst dL_toggleNeed_28 rfl ?_
        exact AW.iret dL_toggleNeed_29 rfl hq.2
  · exact hq.elim
  · obtain ⟨n, hm, hq⟩ := hq
    simp only [List.mem_cons, List.not_mem_nil, or_false, Prod.mk.injEq] at hm
    rcases hm with ⟨rfl, rfl⟩ | ⟨rfl, rfl⟩
    · exact ⟨_, hdL_toggleNeed_1, hq⟩
    · exact ⟨_, hdL_toggleNeed_2, hq⟩
theorem hdL_drop_1 : HD mL_drop 5 eIx 1 := ⟨rfl, rfl, [], (0, 17, 20, 19), [(0, 17, 24, 13)], rfl, by decide, by decide, by decide, lkL_19, trivial, Or.inr ⟨4, by decide, dL_drop_20, dL_drop_22, dL_drop_23⟩⟩
theorem hdL_drop_2 : HD mL_drop 5 eIs 2 := ⟨rfl, rfl, [(0, 17, 20, 19)], (0, 17, 24, 13), [], rfl, by decide, by decide, by decide, lkL_13, ⟨⟨by decide, eIx, lkL_19, by decide +kernel⟩, trivial⟩, Or.inr ⟨4, by decide, dL_drop_24, dL_drop_26, dL_drop_27⟩⟩
abbrev rsL_drop : List (String × Int) := [(eIx, 1), (eIs, 2)]
set_option maxHeartbeats 1000000 in
theorem kL_drop {x1 x2 : Int} (hF : hT h mF = some (8, 0)) (hC : AC mX7_drop fX7_drop loX7_drop bc bs h [vr mF, vi x1, vi x2] (fun g o => WQ rsL_drop Q g o ∧ (∀ v, o = .inl (some (vi v)) → v = 0 ∨ v = 1))) : AC mL_drop (fX7_drop + 1) (loX7_drop + 24) bc bs h [vr mF, vi x1, vi x2, vr nO] Q := by
  refine AC.mkH (by decide +kernel) (Nat.le_of_ble_eq_true rfl) ?_
  refine AW.aload_n dL_drop_0 rfl ?_
  refine AW.iconst dL_drop_1 rfl ?_
  refine AW.aload_n dL_drop_2 rfl ?_
  refine AW.iload_n dL_drop_3 rfl ?_
  refine AW.iload_n dL_drop_4 rfl ?_
  refine AW.callVH (as := [vi x1, vi x2]) dL_drop_5 rfl rfl okX7_drop lkL_41 hF rfl rfl rfl rfl (Nat.le_refl _) (Nat.le_refl _) rfl (hC.mono fun g o hq => ?_)
  obtain ⟨hq, hz⟩ := hq
  rcases o with (_ | v | v) | E
  · exact hq.elim
  · have hz := hz v rfl
    have hq : _ ∧ _ := hq
    refine AW.if_eq dL_drop_8 (tgt := 15) rfl (fun e => ?_) (fun e => ?_)
    · subst e
      refine AW.lconst dL_drop_15 ?_
      refine AW.topl (y := Int64.ofInt 0) (by decide) ?_
      refine AW.astL dL_drop_16 hq.1 (by decide) (by decide) ?_
      refine AW.goto dL_drop_17 (tgt := 28) rfl ?_
      refine AW.iconst dL_drop_28 rfl ?_
      exact AW.iret dL_drop_29 rfl hq.2
    · rcases hz with rfl | rfl
      · exact absurd rfl e
      · refine AW.lconst dL_drop_11 ?_
        refine AW.topl (y := Int64.ofInt 1) (by decide) ?_
        refine AW.goto dL_drop_12 (tgt := 16) rfl ?_
        refine AW.astL dL_drop_16 hq.1 (by decide) (by decide) ?_
        refine AW.goto dL_drop_17 (tgt := 28) rfl ?_
        refine AW.iconst dL_drop_28 rfl ?_
        exact AW.iret dL_drop_29 rfl hq.2
  · exact hq.elim
  · obtain ⟨n, hm, hq⟩ := hq
    simp only [List.mem_cons, List.not_mem_nil, or_false, Prod.mk.injEq] at hm
    rcases hm with ⟨rfl, rfl⟩ | ⟨rfl, rfl⟩
    · exact ⟨_, hdL_drop_1, hq⟩
    · exact ⟨_, hdL_drop_2, hq⟩
theorem hdL_head_1 : HD mL_head 4 eIx 1 := ⟨rfl, rfl, [], (0, 9, 12, 19), [], rfl, by decide, by decide, by decide, lkL_19, trivial, Or.inl ⟨3, by decide, dL_head_12, dL_head_13, dL_head_14⟩⟩
abbrev rsL_head : List (String × Int) := [(eIx, 1)]
set_option maxHeartbeats 1000000 in
theorem kL_head {x1 : Int} (hF : hT h mF = some (8, 0)) (hC : AC mX7_head fX7_head loX7_head bc bs h [vr mF, vi x1] (WQ rsL_head Q)) : AC mL_head (fX7_head + 1) (loX7_head + 22) bc bs h [vr mF, vi x1, vr nO] Q := by
  refine AC.mkH (by decide +kernel) (Nat.le_of_ble_eq_true rfl) ?_
  refine AW.aload_n dL_head_0 rfl ?_
  refine AW.iconst dL_head_1 rfl ?_
  refine AW.aload_n dL_head_2 rfl ?_
  refine AW.iload_n dL_head_3 rfl ?_
  refine AW.callVH (as := [vi x1]) dL_head_4 rfl rfl okX7_head lkL_44 hF rfl rfl rfl rfl (Nat.le_refl _) (Nat.le_refl _) rfl (hC.mono fun g o hq => ?_)
  rcases o with (_ | v | v) | E
  · exact hq.elim
  · have hq : _ ∧ _ := hq
    refine AW.i2l dL_head_7 ?_
    refine AW.astL dL_head_8 hq.1 (by decide) (by decide) ?_
    refine AW.goto dL_head_9 (tgt := 15) rfl ?_
    refine AW.iconst dL_head_15 rfl ?_
    exact AW.iret dL_head_16 rfl hq.2
  · exact hq.elim
  · obtain ⟨n, hm, hq⟩ := hq
    simp only [List.mem_cons, List.not_mem_nil, or_false, Prod.mk.injEq] at hm
    obtain ⟨rfl, rfl⟩ := hm
    exact ⟨_, hdL_head_1, hq⟩
theorem hdL_field_1 : HD mL_field 7 eIx 1 := ⟨rfl, rfl, [], (0, 12, 15, 19), [(0, 12, 19, 21)], rfl, by decide, by decide, by decide, lkL_19, trivial, Or.inr ⟨5, by decide, dL_field_15, dL_field_17, dL_field_18⟩⟩
theorem hdL_field_2 : HD mL_field 7 eIa 2 := ⟨rfl, rfl, [(0, 12, 15, 19)], (0, 12, 19, 21), [], rfl, by decide, by decide, by decide, lkL_21, ⟨⟨by decide, eIx, lkL_19, by decide +kernel⟩, trivial⟩, Or.inr ⟨5, by decide, dL_field_19, dL_field_21, dL_field_22⟩⟩
abbrev rsL_field : List (String × Int) := [(eIx, 1), (eIa, 2)]
set_option maxHeartbeats 1000000 in
theorem kL_field {x1 x2 x3 : Int} (hF : hT h mF = some (8, 0)) (hC : AC mX7_field fX7_field loX7_field bc bs h [vr mF, vi x1, vi x2, vi x3] (WQ rsL_field Q)) : AC mL_field (fX7_field + 1) (loX7_field + 25) bc bs h [vr mF, vi x1, vi x2, vi x3, vr nO] Q := by
  refine AC.mkH (by decide +kernel) (Nat.le_of_ble_eq_true rfl) ?_
  refine AW.aload dL_field_0 rfl ?_
  refine AW.iconst dL_field_2 rfl ?_
  refine AW.aload_n dL_field_3 rfl ?_
  refine AW.iload_n dL_field_4 rfl ?_
  refine AW.iload_n dL_field_5 rfl ?_
  refine AW.iload_n dL_field_6 rfl ?_
  refine AW.callVH (as := [vi x1, vi x2, vi x3]) dL_field_7 rfl rfl okX7_field lkL_48 hF rfl rfl rfl rfl (Nat.le_refl _) (Nat.le_refl _) rfl (hC.mono fun g o hq => ?_)
  rcases o with (_ | v | v) | E
  · exact hq.elim
  · have hq : _ ∧ _ := hq
    refine AW.i2l dL_field_10 ?_
    refine AW.astL dL_field_11 hq.1 (by decide) (by decide) ?_
    refine AW.goto dL_field_12 (tgt := 23) rfl ?_
    refine AW.iconst dL_field_23 rfl ?_
    exact AW.iret dL_field_24 rfl hq.2
  · exact hq.elim
  · obtain ⟨n, hm, hq⟩ := hq
    simp only [List.mem_cons, List.not_mem_nil, or_false, Prod.mk.injEq] at hm
    rcases hm with ⟨rfl, rfl⟩ | ⟨rfl, rfl⟩
    · exact ⟨_, hdL_field_1, hq⟩
    · exact ⟨_, hdL_field_2, hq⟩
theorem hdL_text_1 : HD mL_text 7 eIx 1 := ⟨rfl, rfl, [], (0, 12, 15, 19), [], rfl, by decide, by decide, by decide, lkL_19, trivial, Or.inr ⟨5, by decide, dL_text_15, dL_text_17, dL_text_18⟩⟩
abbrev rsL_text : List (String × Int) := [(eIx, 1)]
set_option maxHeartbeats 1000000 in
theorem kL_text {x1 x2 x3 : Int} (hF : hT h mF = some (8, 0)) (hC : AC mX7_text fX7_text loX7_text bc bs h [vr mF, vi x1, vi x2, vi x3] (WQ rsL_text Q)) : AC mL_text (fX7_text + 1) (loX7_text + 26) bc bs h [vr mF, vi x1, vi x2, vi x3, vr nO] Q := by
  refine AC.mkH (by decide +kernel) (Nat.le_of_ble_eq_true rfl) ?_
  refine AW.aload dL_text_0 rfl ?_
  refine AW.iconst dL_text_2 rfl ?_
  refine AW.aload_n dL_text_3 rfl ?_
  refine AW.iload_n dL_text_4 rfl ?_
  refine AW.iload_n dL_text_5 rfl ?_
  refine AW.iload_n dL_text_6 rfl ?_
  refine AW.callVH (as := [vi x1, vi x2, vi x3]) dL_text_7 rfl rfl okX7_text lkL_51 hF rfl rfl rfl rfl (Nat.le_refl _) (Nat.le_refl _) rfl (hC.mono fun g o hq => ?_)
  rcases o with (_ | v | v) | E
  · exact hq.elim
  · have hq : _ ∧ _ := hq
    refine AW.i2l dL_text_10 ?_
    refine AW.astL dL_text_11 hq.1 (by decide) (by decide) ?_
    refine AW.goto dL_text_12 (tgt := 19) rfl ?_
    refine AW.iconst dL_text_19 rfl ?_
    exact AW.iret dL_text_20 rfl hq.2
  · exact hq.elim
  · obtain ⟨n, hm, hq⟩ := hq
    simp only [List.mem_cons, List.not_mem_nil, or_false, Prod.mk.injEq] at hm
    obtain ⟨rfl, rfl⟩ := hm
    exact ⟨_, hdL_text_1, hq⟩
theorem hdL_form_1 : HD mL_form 4 eIx 1 := ⟨rfl, rfl, [], (0, 9, 12, 19), [(0, 9, 15, 13)], rfl, by decide, by decide, by decide, lkL_19, trivial, Or.inl ⟨3, by decide, dL_form_12, dL_form_13, dL_form_14⟩⟩
theorem hdL_form_2 : HD mL_form 4 eIs 2 := ⟨rfl, rfl, [(0, 9, 12, 19)], (0, 9, 15, 13), [], rfl, by decide, by decide, by decide, lkL_13, ⟨⟨by decide, eIx, lkL_19, by decide +kernel⟩, trivial⟩, Or.inl ⟨3, by decide, dL_form_15, dL_form_16, dL_form_17⟩⟩
abbrev rsL_form : List (String × Int) := [(eIx, 1), (eIs, 2)]
set_option maxHeartbeats 1000000 in
theorem kL_form {x1 : Int} (hF : hT h mF = some (8, 0)) (hC : AC mX7_form fX7_form loX7_form bc bs h [vr mF, vi x1] (WQ rsL_form Q)) : AC mL_form (fX7_form + 1) (loX7_form + 23) bc bs h [vr mF, vi x1, vr nO] Q := by
  refine AC.mkH (by decide +kernel) (Nat.le_of_ble_eq_true rfl) ?_
  refine AW.aload_n dL_form_0 rfl ?_
  refine AW.iconst dL_form_1 rfl ?_
  refine AW.aload_n dL_form_2 rfl ?_
  refine AW.iload_n dL_form_3 rfl ?_
  refine AW.callVH (as := [vi x1]) dL_form_4 rfl rfl okX7_form lkL_55 hF rfl rfl rfl rfl (Nat.le_refl _) (Nat.le_refl _) rfl (hC.mono fun g o hq => ?_)
  rcases o with (_ | v | v) | E
  · exact hq.elim
  · have hq : _ ∧ _ := hq
    refine AW.i2l dL_form_7 ?_
    refine AW.astL dL_form_8 hq.1 (by decide) (by decide) ?_
    refine AW.goto dL_form_9 (tgt := 18) rfl ?_
    refine AW.iconst dL_form_18 rfl ?_
    exact AW.iret dL_form_19 rfl hq.2
  · exact hq.elim
  · obtain ⟨n, hm, hq⟩ := hq
    simp only [List.mem_cons, List.not_mem_nil, or_false, Prod.mk.injEq] at hm
    rcases hm with ⟨rfl, rfl⟩ | ⟨rfl, rfl⟩
    · exact ⟨_, hdL_form_1, hq⟩
    · exact ⟨_, hdL_form_2, hq⟩
theorem hdL_take_1 : HD mL_take 7 eIx 1 := ⟨rfl, rfl, [], (0, 12, 15, 19), [(0, 12, 19, 13)], rfl, by decide, by decide, by decide, lkL_19, trivial, Or.inr ⟨5, by decide, dL_take_15, dL_take_17, dL_take_18⟩⟩
theorem hdL_take_2 : HD mL_take 7 eIs 2 := ⟨rfl, rfl, [(0, 12, 15, 19)], (0, 12, 19, 13), [], rfl, by decide, by decide, by decide, lkL_13, ⟨⟨by decide, eIx, lkL_19, by decide +kernel⟩, trivial⟩, Or.inr ⟨5, by decide, dL_take_19, dL_take_21, dL_take_22⟩⟩
abbrev rsL_take : List (String × Int) := [(eIx, 1), (eIs, 2)]
set_option maxHeartbeats 1000000 in
theorem kL_take {x1 x2 x3 : Int} (hF : hT h mF = some (8, 0)) (hC : AC mX7_take fX7_take loX7_take bc bs h [vr mF, vi x1, vi x2, vi x3] (WQ rsL_take Q)) : AC mL_take (fX7_take + 1) (loX7_take + 27) bc bs h [vr mF, vi x1, vi x2, vi x3, vr nO] Q := by
  refine AC.mkH (by decide +kernel) (Nat.le_of_ble_eq_true rfl) ?_
  refine AW.aload dL_take_0 rfl ?_
  refine AW.iconst dL_take_2 rfl ?_
  refine AW.aload_n dL_take_3 rfl ?_
  refine AW.iload_n dL_take_4 rfl ?_
  refine AW.iload_n dL_take_5 rfl ?_
  refine AW.iload_n dL_take_6 rfl ?_
  refine AW.callVH (as := [vi x1, vi x2, vi x3]) dL_take_7 rfl rfl okX7_take lkL_58 hF rfl rfl rfl rfl (Nat.le_refl _) (Nat.le_refl _) rfl (hC.mono fun g o hq => ?_)
  rcases o with (_ | v | v) | E
  · exact hq.elim
  · have hq : _ ∧ _ := hq
    refine AW.i2l dL_take_10 ?_
    refine AW.astL dL_take_11 hq.1 (by decide) (by decide) ?_
    refine AW.goto dL_take_12 (tgt := 23) rfl ?_
    refine AW.iconst dL_take_23 rfl ?_
    exact AW.iret dL_take_24 rfl hq.2
  · exact hq.elim
  · obtain ⟨n, hm, hq⟩ := hq
    simp only [List.mem_cons, List.not_mem_nil, or_false, Prod.mk.injEq] at hm
    rcases hm with ⟨rfl, rfl⟩ | ⟨rfl, rfl⟩
    · exact ⟨_, hdL_take_1, hq⟩
    · exact ⟨_, hdL_take_2, hq⟩
theorem hdL_letGo_1 : HD mL_letGo 5 eIx 1 := ⟨rfl, rfl, [], (0, 10, 13, 19), [], rfl, by decide, by decide, by decide, lkL_19, trivial, Or.inr ⟨4, by decide, dL_letGo_13, dL_letGo_15, dL_letGo_16⟩⟩
abbrev rsL_letGo : List (String × Int) := [(eIx, 1)]
set_option maxHeartbeats 1000000 in
theorem kL_letGo {x1 x2 : Int} (hF : hT h mF = some (8, 0)) (hC : AC mX7_letGo fX7_letGo loX7_letGo bc bs h [vr mF, vi x1, vi x2] (WQ rsL_letGo Q)) : AC mL_letGo (fX7_letGo + 1) (loX7_letGo + 24) bc bs h [vr mF, vi x1, vi x2, vr nO] Q := by
  refine AC.mkH (by decide +kernel) (Nat.le_of_ble_eq_true rfl) ?_
  refine AW.aload_n dL_letGo_0 rfl ?_
  refine AW.iconst dL_letGo_1 rfl ?_
  refine AW.aload_n dL_letGo_2 rfl ?_
  refine AW.iload_n dL_letGo_3 rfl ?_
  refine AW.iload_n dL_letGo_4 rfl ?_
  refine AW.callVH (as := [vi x1, vi x2]) dL_letGo_5 rfl rfl okX7_letGo lkL_62 hF rfl rfl rfl rfl (Nat.le_refl _) (Nat.le_refl _) rfl (hC.mono fun g o hq => ?_)
  rcases o with (_ | v | v) | E
  · exact hq.elim
  · have hq : _ ∧ _ := hq
    refine AW.i2l dL_letGo_8 ?_
    refine AW.astL dL_letGo_9 hq.1 (by decide) (by decide) ?_
    refine AW.goto dL_letGo_10 (tgt := 17) rfl ?_
    refine AW.iconst dL_letGo_17 rfl ?_
    exact AW.iret dL_letGo_18 rfl hq.2
  · exact hq.elim
  · obtain ⟨n, hm, hq⟩ := hq
    simp only [List.mem_cons, List.not_mem_nil, or_false, Prod.mk.injEq] at hm
    obtain ⟨rfl, rfl⟩ := hm
    exact ⟨_, hdL_letGo_1, hq⟩
theorem hdL_retire_1 : HD mL_retire 4 eIx 1 := ⟨rfl, rfl, [], (0, 9, 12, 19), [(0, 9, 15, 13)], rfl, by decide, by decide, by decide, lkL_19, trivial, Or.inl ⟨3, by decide, dL_retire_12, dL_retire_13, dL_retire_14⟩⟩
theorem hdL_retire_2 : HD mL_retire 4 eIs 2 := ⟨rfl, rfl, [(0, 9, 12, 19)], (0, 9, 15, 13), [], rfl, by decide, by decide, by decide, lkL_13, ⟨⟨by decide, eIx, lkL_19, by decide +kernel⟩, trivial⟩, Or.inl ⟨3, by decide, dL_retire_15, dL_retire_16, dL_retire_17⟩⟩
abbrev rsL_retire : List (String × Int) := [(eIx, 1), (eIs, 2)]
set_option maxHeartbeats 1000000 in
theorem kL_retire {x1 : Int} (hF : hT h mF = some (8, 0)) (hC : AC mX7_retire fX7_retire loX7_retire bc bs h [vr mF, vi x1] (WQ rsL_retire Q)) : AC mL_retire (fX7_retire + 1) (loX7_retire + 22) bc bs h [vr mF, vi x1, vr nO] Q := by
  refine AC.mkH (by decide +kernel) (Nat.le_of_ble_eq_true rfl) ?_
  refine AW.aload_n dL_retire_0 rfl ?_
  refine AW.iconst dL_retire_1 rfl ?_
  refine AW.aload_n dL_retire_2 rfl ?_
  refine AW.iload_n dL_retire_3 rfl ?_
  refine AW.callVH (as := [vi x1]) dL_retire_4 rfl rfl okX7_retire lkL_66 hF rfl rfl rfl rfl (Nat.le_refl _) (Nat.le_refl _) rfl (hC.mono fun g o hq => ?_)
  rcases o with (_ | v | v) | E
  · exact hq.elim
  · have hq : _ ∧ _ := hq
    refine AW.i2l dL_retire_7 ?_
    refine AW.astL dL_retire_8 hq.1 (by decide) (by decide) ?_
    refine AW.goto dL_retire_9 (tgt := 18) rfl ?_
    refine AW.iconst dL_retire_18 rfl ?_
    exact AW.iret dL_retire_19 rfl hq.2
  · exact hq.elim
  · obtain ⟨n, hm, hq⟩ := hq
    simp only [List.mem_cons, List.not_mem_nil, or_false, Prod.mk.injEq] at hm
    rcases hm with ⟨rfl, rfl⟩ | ⟨rfl, rfl⟩
    · exact ⟨_, hdL_retire_1, hq⟩
    · exact ⟨_, hdL_retire_2, hq⟩
theorem hdL_renew_1 : HD mL_renew 4 eIx 1 := ⟨rfl, rfl, [], (0, 9, 12, 19), [(0, 9, 15, 13)], rfl, by decide, by decide, by decide, lkL_19, trivial, Or.inl ⟨3, by decide, dL_renew_12, dL_renew_13, dL_renew_14⟩⟩
theorem hdL_renew_2 : HD mL_renew 4 eIs 2 := ⟨rfl, rfl, [(0, 9, 12, 19)], (0, 9, 15, 13), [], rfl, by decide, by decide, by decide, lkL_13, ⟨⟨by decide, eIx, lkL_19, by decide +kernel⟩, trivial⟩, Or.inl ⟨3, by decide, dL_renew_15, dL_renew_16, dL_renew_17⟩⟩
abbrev rsL_renew : List (String × Int) := [(eIx, 1), (eIs, 2)]
set_option maxHeartbeats 1000000 in
theorem kL_renew {x1 : Int} (hF : hT h mF = some (8, 0)) (hC : AC mX7_renew fX7_renew loX7_renew bc bs h [vr mF, vi x1] (WQ rsL_renew Q)) : AC mL_renew (fX7_renew + 1) (loX7_renew + 22) bc bs h [vr mF, vi x1, vr nO] Q := by
  refine AC.mkH (by decide +kernel) (Nat.le_of_ble_eq_true rfl) ?_
  refine AW.aload_n dL_renew_0 rfl ?_
  refine AW.iconst dL_renew_1 rfl ?_
  refine AW.aload_n dL_renew_2 rfl ?_
  refine AW.iload_n dL_renew_3 rfl ?_
  refine AW.callVH (as := [vi x1]) dL_renew_4 rfl rfl okX7_renew lkL_69 hF rfl rfl rfl rfl (Nat.le_refl _) (Nat.le_refl _) rfl (hC.mono fun g o hq => ?_)
  rcases o with (_ | v | v) | E
  · exact hq.elim
  · have hq : _ ∧ _ := hq
    refine AW.i2l dL_renew_7 ?_
    refine AW.astL dL_renew_8 hq.1 (by decide) (by decide) ?_
    refine AW.goto dL_renew_9 (tgt := 18) rfl ?_
    refine AW.iconst dL_renew_18 rfl ?_
    exact AW.iret dL_renew_19 rfl hq.2
  · exact hq.elim
  · obtain ⟨n, hm, hq⟩ := hq
    simp only [List.mem_cons, List.not_mem_nil, or_false, Prod.mk.injEq] at hm
    rcases hm with ⟨rfl, rfl⟩ | ⟨rfl, rfl⟩
    · exact ⟨_, hdL_renew_1, hq⟩
    · exact ⟨_, hdL_renew_2, hq⟩
theorem hdL_read_1 : HD mL_read 7 eIx 1 := ⟨rfl, rfl, [], (0, 12, 15, 19), [(0, 12, 19, 21)], rfl, by decide, by decide, by decide, lkL_19, trivial, Or.inr ⟨5, by decide, dL_read_15, dL_read_17, dL_read_18⟩⟩
theorem hdL_read_2 : HD mL_read 7 eIa 2 := ⟨rfl, rfl, [(0, 12, 15, 19)], (0, 12, 19, 21), [], rfl, by decide, by decide, by decide, lkL_21, ⟨⟨by decide, eIx, lkL_19, by decide +kernel⟩, trivial⟩, Or.inr ⟨5, by decide, dL_read_19, dL_read_21, dL_read_22⟩⟩
abbrev rsL_read : List (String × Int) := [(eIx, 1), (eIa, 2)]
set_option maxHeartbeats 1000000 in
theorem kL_read {x1 x2 x3 : Int} (hF : hT h mF = some (8, 0)) (hC : AC mX7_read fX7_read loX7_read bc bs h [vr mF, vi x1, vi x2, vi x3] (WQ rsL_read Q)) : AC mL_read (fX7_read + 1) (loX7_read + 26) bc bs h [vr mF, vi x1, vi x2, vi x3, vr nO] Q := by
  refine AC.mkH (by decide +kernel) (Nat.le_of_ble_eq_true rfl) ?_
  refine AW.aload dL_read_0 rfl ?_
  refine AW.iconst dL_read_2 rfl ?_
  refine AW.aload_n dL_read_3 rfl ?_
  refine AW.iload_n dL_read_4 rfl ?_
  refine AW.iload_n dL_read_5 rfl ?_
  refine AW.iload_n dL_read_6 rfl ?_
  refine AW.callVH (as := [vi x1, vi x2, vi x3]) dL_read_7 rfl rfl okX7_read lkL_72 hF rfl rfl rfl rfl (Nat.le_refl _) (Nat.le_refl _) rfl (hC.mono fun g o hq => ?_)
  rcases o with (_ | v | v) | E
  · exact hq.elim
  · have hq : _ ∧ _ := hq
    refine AW.i2l dL_read_10 ?_
    refine AW.astL dL_read_11 hq.1 (by decide) (by decide) ?_
    refine AW.goto dL_read_12 (tgt := 23) rfl ?_
    refine AW.iconst dL_read_23 rfl ?_
    exact AW.iret dL_read_24 rfl hq.2
  · exact hq.elim
  · obtain ⟨n, hm, hq⟩ := hq
    simp only [List.mem_cons, List.not_mem_nil, or_false, Prod.mk.injEq] at hm
    rcases hm with ⟨rfl, rfl⟩ | ⟨rfl, rfl⟩
    · exact ⟨_, hdL_read_1, hq⟩
    · exact ⟨_, hdL_read_2, hq⟩
theorem hdL_write_1 : HD mL_write 9 eIx 1 := ⟨rfl, rfl, [], (0, 14, 17, 19), [(0, 14, 21, 21), (0, 14, 25, 13)], rfl, by decide, by decide, by decide, lkL_19, trivial, Or.inr ⟨6, by decide, dL_write_17, dL_write_19, dL_write_20⟩⟩
theorem hdL_write_2 : HD mL_write 9 eIa 2 := ⟨rfl, rfl, [(0, 14, 17, 19)], (0, 14, 21, 21), [(0, 14, 25, 13)], rfl, by decide, by decide, by decide, lkL_21, ⟨⟨by decide, eIx, lkL_19, by decide +kernel⟩, trivial⟩, Or.inr ⟨6, by decide, dL_write_21, dL_write_23, dL_write_24⟩⟩
theorem hdL_write_3 : HD mL_write 9 eIs 3 := ⟨rfl, rfl, [(0, 14, 17, 19), (0, 14, 21, 21)], (0, 14, 25, 13), [], rfl, by decide, by decide, by decide, lkL_13, ⟨⟨by decide, eIx, lkL_19, by decide +kernel⟩, ⟨⟨by decide, eIa, lkL_21, by decide +kernel⟩, trivial⟩⟩, Or.inr ⟨6, by decide, dL_write_25, dL_write_27, dL_write_28⟩⟩
abbrev rsL_write : List (String × Int) := [(eIx, 1), (eIa, 2), (eIs, 3)]
set_option maxHeartbeats 1000000 in
theorem kL_write {x1 x2 x3 x4 : Int} (hF : hT h mF = some (8, 0)) (hC : AC mX7_write fX7_write loX7_write bc bs h [vr mF, vi x1, vi x2, vi x3, vi x4] (WQ rsL_write Q)) : AC mL_write (fX7_write + 1) (loX7_write + 28) bc bs h [vr mF, vi x1, vi x2, vi x3, vi x4, vr nO] Q := by
  refine AC.mkH (by decide +kernel) (Nat.le_of_ble_eq_true rfl) ?_
  refine AW.aload dL_write_0 rfl ?_
  refine AW.iconst dL_write_2 rfl ?_
  refine AW.aload_n dL_write_3 rfl ?_
  refine AW.iload_n dL_write_4 rfl ?_
  refine AW.iload_n dL_write_5 rfl ?_
  refine AW.iload_n dL_write_6 rfl ?_
  refine AW.iload dL_write_7 rfl ?_
  refine AW.callVH (as := [vi x1, vi x2, vi x3, vi x4]) dL_write_9 rfl rfl okX7_write lkL_75 hF rfl rfl rfl rfl (Nat.le_refl _) (Nat.le_refl _) rfl (hC.mono fun g o hq => ?_)
  rcases o with (_ | v | v) | E
  · exact hq.elim
  · have hq : _ ∧ _ := hq
    refine AW.i2l dL_write_12 ?_
    refine AW.astL dL_write_13 hq.1 (by decide) (by decide) ?_
    refine AW.goto dL_write_14 (tgt := 29) rfl ?_
    refine AW.iconst dL_write_29 rfl ?_
    exact AW.iret dL_write_30 rfl hq.2
  · exact hq.elim
  · obtain ⟨n, hm, hq⟩ := hq
    simp only [List.mem_cons, List.not_mem_nil, or_false, Prod.mk.injEq] at hm
    rcases hm with ⟨rfl, rfl⟩ | ⟨rfl, rfl⟩ | ⟨rfl, rfl⟩
    · exact ⟨_, hdL_write_1, hq⟩
    · exact ⟨_, hdL_write_2, hq⟩
    · exact ⟨_, hdL_write_3, hq⟩
theorem hdL_row_1 : HD mL_row 5 eIx 1 := ⟨rfl, rfl, [], (0, 10, 13, 19), [(0, 10, 17, 13)], rfl, by decide, by decide, by decide, lkL_19, trivial, Or.inr ⟨4, by decide, dL_row_13, dL_row_15, dL_row_16⟩⟩
theorem hdL_row_2 : HD mL_row 5 eIs 2 := ⟨rfl, rfl, [(0, 10, 13, 19)], (0, 10, 17, 13), [], rfl, by decide, by decide, by decide, lkL_13, ⟨⟨by decide, eIx, lkL_19, by decide +kernel⟩, trivial⟩, Or.inr ⟨4, by decide, dL_row_17, dL_row_19, dL_row_20⟩⟩
abbrev rsL_row : List (String × Int) := [(eIx, 1), (eIs, 2)]
set_option maxHeartbeats 1000000 in
theorem kL_row {x1 x2 : Int} (hF : hT h mF = some (8, 0)) (hC : AC mX7_row fX7_row loX7_row bc bs h [vr mF, vi x1, vi x2] (WQ rsL_row Q)) : AC mL_row (fX7_row + 1) (loX7_row + 27) bc bs h [vr mF, vi x1, vi x2, vr nO] Q := by
  refine AC.mkH (by decide +kernel) (Nat.le_of_ble_eq_true rfl) ?_
  refine AW.aload_n dL_row_0 rfl ?_
  refine AW.iconst dL_row_1 rfl ?_
  refine AW.aload_n dL_row_2 rfl ?_
  refine AW.iload_n dL_row_3 rfl ?_
  refine AW.iload_n dL_row_4 rfl ?_
  refine AW.callVH (as := [vi x1, vi x2]) dL_row_5 rfl rfl okX7_row lkL_79 hF rfl rfl rfl rfl (Nat.le_refl _) (Nat.le_refl _) rfl (hC.mono fun g o hq => ?_)
  rcases o with (_ | v | v) | E
  · exact hq.elim
  · have hq : _ ∧ _ := hq
    refine AW.i2l dL_row_8 ?_
    refine AW.astL dL_row_9 hq.1 (by decide) (by decide) ?_
    refine AW.goto dL_row_10 (tgt := 21) rfl ?_
    refine AW.iconst dL_row_21 rfl ?_
    exact AW.iret dL_row_22 rfl hq.2
  · exact hq.elim
  · obtain ⟨n, hm, hq⟩ := hq
    simp only [List.mem_cons, List.not_mem_nil, or_false, Prod.mk.injEq] at hm
    rcases hm with ⟨rfl, rfl⟩ | ⟨rfl, rfl⟩
    · exact ⟨_, hdL_row_1, hq⟩
    · exact ⟨_, hdL_row_2, hq⟩
theorem hdL_set_1 : HD mL_set 7 eIx 1 := ⟨rfl, rfl, [], (0, 12, 15, 19), [(0, 12, 19, 21)], rfl, by decide, by decide, by decide, lkL_19, trivial, Or.inr ⟨5, by decide, dL_set_15, dL_set_17, dL_set_18⟩⟩
theorem hdL_set_2 : HD mL_set 7 eIa 2 := ⟨rfl, rfl, [(0, 12, 15, 19)], (0, 12, 19, 21), [], rfl, by decide, by decide, by decide, lkL_21, ⟨⟨by decide, eIx, lkL_19, by decide +kernel⟩, trivial⟩, Or.inr ⟨5, by decide, dL_set_19, dL_set_21, dL_set_22⟩⟩
abbrev rsL_set : List (String × Int) := [(eIx, 1), (eIa, 2)]
set_option maxHeartbeats 1000000 in
theorem kL_set {x1 x2 x3 : Int} (hF : hT h mF = some (8, 0)) (hC : AC mX7_set fX7_set loX7_set bc bs h [vr mF, vi x1, vi x2, vi x3] (WQ rsL_set Q)) : AC mL_set (fX7_set + 1) (loX7_set + 27) bc bs h [vr mF, vi x1, vi x2, vi x3, vr nO] Q := by
  refine AC.mkH (by decide +kernel) (Nat.le_of_ble_eq_true rfl) ?_
  refine AW.aload dL_set_0 rfl ?_
  refine AW.iconst dL_set_2 rfl ?_
  refine AW.aload_n dL_set_3 rfl ?_
  refine AW.iload_n dL_set_4 rfl ?_
  refine AW.iload_n dL_set_5 rfl ?_
  refine AW.iload_n dL_set_6 rfl ?_
  refine AW.callVH (as := [vi x1, vi x2, vi x3]) dL_set_7 rfl rfl okX7_set lkL_82 hF rfl rfl rfl rfl (Nat.le_refl _) (Nat.le_refl _) rfl (hC.mono fun g o hq => ?_)
  rcases o with (_ | v | v) | E
  · exact hq.elim
  · have hq : _ ∧ _ := hq
    refine AW.i2l dL_set_10 ?_
    refine AW.astL dL_set_11 hq.1 (by decide) (by decide) ?_
    refine AW.goto dL_set_12 (tgt := 23) rfl ?_
    refine AW.iconst dL_set_23 rfl ?_
    exact AW.iret dL_set_24 rfl hq.2
  · exact hq.elim
  · obtain ⟨n, hm, hq⟩ := hq
    simp only [List.mem_cons, List.not_mem_nil, or_false, Prod.mk.injEq] at hm
    rcases hm with ⟨rfl, rfl⟩ | ⟨rfl, rfl⟩
    · exact ⟨_, hdL_set_1, hq⟩
    · exact ⟨_, hdL_set_2, hq⟩
theorem hdL_value_1 : HD mL_value 7 eIx 1 := ⟨rfl, rfl, [], (0, 12, 15, 19), [], rfl, by decide, by decide, by decide, lkL_19, trivial, Or.inr ⟨5, by decide, dL_value_15, dL_value_17, dL_value_18⟩⟩
abbrev rsL_value : List (String × Int) := [(eIx, 1)]
set_option maxHeartbeats 1000000 in
theorem kL_value {x1 x2 x3 : Int} (hF : hT h mF = some (8, 0)) (hC : AC mX7_value fX7_value loX7_value bc bs h [vr mF, vi x1, vi x2, vi x3] (WQ rsL_value Q)) : AC mL_value (fX7_value + 1) (loX7_value + 25) bc bs h [vr mF, vi x1, vi x2, vi x3, vr nO] Q := by
  refine AC.mkH (by decide +kernel) (Nat.le_of_ble_eq_true rfl) ?_
  refine AW.aload dL_value_0 rfl ?_
  refine AW.iconst dL_value_2 rfl ?_
  refine AW.aload_n dL_value_3 rfl ?_
  refine AW.iload_n dL_value_4 rfl ?_
  refine AW.iload_n dL_value_5 rfl ?_
  refine AW.iload_n dL_value_6 rfl ?_
  refine AW.callVH (as := [vi x1, vi x2, vi x3]) dL_value_7 rfl rfl okX7_value lkL_85 hF rfl rfl rfl rfl (Nat.le_refl _) (Nat.le_refl _) rfl (hC.mono fun g o hq => ?_)
  rcases o with (_ | v | v) | E
  · exact hq.elim
  · have hq : _ ∧ _ := hq
    refine AW.i2l dL_value_10 ?_
    refine AW.astL dL_value_11 hq.1 (by decide) (by decide) ?_
    refine AW.goto dL_value_12 (tgt := 19) rfl ?_
    refine AW.iconst dL_value_19 rfl ?_
    exact AW.iret dL_value_20 rfl hq.2
  · exact hq.elim
  · obtain ⟨n, hm, hq⟩ := hq
    simp only [List.mem_cons, List.not_mem_nil, or_false, Prod.mk.injEq] at hm
    obtain ⟨rfl, rfl⟩ := hm
    exact ⟨_, hdL_value_1, hq⟩
theorem hdL_replayed_1 : HD mL_replayed 5 eIx 1 := ⟨rfl, rfl, [], (0, 10, 13, 19), [], rfl, by decide, by decide, by decide, lkL_19, trivial, Or.inr ⟨4, by decide, dL_replayed_13, dL_replayed_15, dL_replayed_16⟩⟩
abbrev rsL_replayed : List (String × Int) := [(eIx, 1)]
set_option maxHeartbeats 1000000 in
theorem kL_replayed {x1 x2 : Int} (hF : hT h mF = some (8, 0)) (hC : AC mX7_replayed fX7_replayed loX7_replayed bc bs h [vr mF, vi x1, vi x2] (WQ rsL_replayed Q)) : AC mL_replayed (fX7_replayed + 1) (loX7_replayed + 24) bc bs h [vr mF, vi x1, vi x2, vr nO] Q := by
  refine AC.mkH (by decide +kernel) (Nat.le_of_ble_eq_true rfl) ?_
  refine AW.aload_n dL_replayed_0 rfl ?_
  refine AW.iconst dL_replayed_1 rfl ?_
  refine AW.aload_n dL_replayed_2 rfl ?_
  refine AW.iload_n dL_replayed_3 rfl ?_
  refine AW.iload_n dL_replayed_4 rfl ?_
  refine AW.callVH (as := [vi x1, vi x2]) dL_replayed_5 rfl rfl okX7_replayed lkL_88 hF rfl rfl rfl rfl (Nat.le_refl _) (Nat.le_refl _) rfl (hC.mono fun g o hq => ?_)
  rcases o with (_ | v | v) | E
  · exact hq.elim
  · have hq : _ ∧ _ := hq
    refine AW.i2l dL_replayed_8 ?_
    refine AW.astL dL_replayed_9 hq.1 (by decide) (by decide) ?_
    refine AW.goto dL_replayed_10 (tgt := 17) rfl ?_
    refine AW.iconst dL_replayed_17 rfl ?_
    exact AW.iret dL_replayed_18 rfl hq.2
  · exact hq.elim
  · obtain ⟨n, hm, hq⟩ := hq
    simp only [List.mem_cons, List.not_mem_nil, or_false, Prod.mk.injEq] at hm
    obtain ⟨rfl, rfl⟩ := hm
    exact ⟨_, hdL_replayed_1, hq⟩
theorem hdL_standing_1 : HD mL_standing 4 eIx 1 := ⟨rfl, rfl, [], (0, 9, 12, 19), [], rfl, by decide, by decide, by decide, lkL_19, trivial, Or.inl ⟨3, by decide, dL_standing_12, dL_standing_13, dL_standing_14⟩⟩
abbrev rsL_standing : List (String × Int) := [(eIx, 1)]
set_option maxHeartbeats 1000000 in
theorem kL_standing {x1 : Int} (hF : hT h mF = some (8, 0)) (hC : AC mX7_standing fX7_standing loX7_standing bc bs h [vr mF, vi x1] (WQ rsL_standing Q)) : AC mL_standing (fX7_standing + 1) (loX7_standing + 22) bc bs h [vr mF, vi x1, vr nO] Q := by
  refine AC.mkH (by decide +kernel) (Nat.le_of_ble_eq_true rfl) ?_
  refine AW.aload_n dL_standing_0 rfl ?_
  refine AW.iconst dL_standing_1 rfl ?_
  refine AW.aload_n dL_standing_2 rfl ?_
  refine AW.iload_n dL_standing_3 rfl ?_
  refine AW.callVH (as := [vi x1]) dL_standing_4 rfl rfl okX7_standing lkL_91 hF rfl rfl rfl rfl (Nat.le_refl _) (Nat.le_refl _) rfl (hC.mono fun g o hq => ?_)
  rcases o with (_ | v | v) | E
  · exact hq.elim
  · have hq : _ ∧ _ := hq
    refine AW.i2l dL_standing_7 ?_
    refine AW.astL dL_standing_8 hq.1 (by decide) (by decide) ?_
    refine AW.goto dL_standing_9 (tgt := 15) rfl ?_
    refine AW.iconst dL_standing_15 rfl ?_
    exact AW.iret dL_standing_16 rfl hq.2
  · exact hq.elim
  · obtain ⟨n, hm, hq⟩ := hq
    simp only [List.mem_cons, List.not_mem_nil, or_false, Prod.mk.injEq] at hm
    obtain ⟨rfl, rfl⟩ := hm
    exact ⟨_, hdL_standing_1, hq⟩
theorem hdL_mover_1 : HD mL_mover 5 eIx 1 := ⟨rfl, rfl, [], (0, 10, 13, 19), [(0, 10, 17, 13)], rfl, by decide, by decide, by decide, lkL_19, trivial, Or.inr ⟨4, by decide, dL_mover_13, dL_mover_15, dL_mover_16⟩⟩
theorem hdL_mover_2 : HD mL_mover 5 eIs 2 := ⟨rfl, rfl, [(0, 10, 13, 19)], (0, 10, 17, 13), [], rfl, by decide, by decide, by decide, lkL_13, ⟨⟨by decide, eIx, lkL_19, by decide +kernel⟩, trivial⟩, Or.inr ⟨4, by decide, dL_mover_17, dL_mover_19, dL_mover_20⟩⟩
abbrev rsL_mover : List (String × Int) := [(eIx, 1), (eIs, 2)]
set_option maxHeartbeats 1000000 in
theorem kL_mover {x1 x2 : Int} (hF : hT h mF = some (8, 0)) (hC : AC mX7_mover fX7_mover loX7_mover bc bs h [vr mF, vi x1, vi x2] (WQ rsL_mover Q)) : AC mL_mover (fX7_mover + 1) (loX7_mover + 24) bc bs h [vr mF, vi x1, vi x2, vr nO] Q := by
  refine AC.mkH (by decide +kernel) (Nat.le_of_ble_eq_true rfl) ?_
  refine AW.aload_n dL_mover_0 rfl ?_
  refine AW.iconst dL_mover_1 rfl ?_
  refine AW.aload_n dL_mover_2 rfl ?_
  refine AW.iload_n dL_mover_3 rfl ?_
  refine AW.iload_n dL_mover_4 rfl ?_
  refine AW.callVH (as := [vi x1, vi x2]) dL_mover_5 rfl rfl okX7_mover lkL_94 hF rfl rfl rfl rfl (Nat.le_refl _) (Nat.le_refl _) rfl (hC.mono fun g o hq => ?_)
  rcases o with (_ | v | v) | E
  · exact hq.elim
  · have hq : _ ∧ _ := hq
    refine AW.i2l dL_mover_8 ?_
    refine AW.astL dL_mover_9 hq.1 (by decide) (by decide) ?_
    refine AW.goto dL_mover_10 (tgt := 21) rfl ?_
    refine AW.iconst dL_mover_21 rfl ?_
    exact AW.iret dL_mover_22 rfl hq.2
  · exact hq.elim
  · obtain ⟨n, hm, hq⟩ := hq
    simp only [List.mem_cons, List.not_mem_nil, or_false, Prod.mk.injEq] at hm
    rcases hm with ⟨rfl, rfl⟩ | ⟨rfl, rfl⟩
    · exact ⟨_, hdL_mover_1, hq⟩
    · exact ⟨_, hdL_mover_2, hq⟩
theorem hdL_step_1 : HD mL_step 4 eIx 1 := ⟨rfl, rfl, [], (0, 9, 12, 19), [(0, 9, 15, 13)], rfl, by decide, by decide, by decide, lkL_19, trivial, Or.inl ⟨3, by decide, dL_step_12, dL_step_13, dL_step_14⟩⟩
theorem hdL_step_2 : HD mL_step 4 eIs 2 := ⟨rfl, rfl, [(0, 9, 12, 19)], (0, 9, 15, 13), [], rfl, by decide, by decide, by decide, lkL_13, ⟨⟨by decide, eIx, lkL_19, by decide +kernel⟩, trivial⟩, Or.inl ⟨3, by decide, dL_step_15, dL_step_16, dL_step_17⟩⟩
abbrev rsL_step : List (String × Int) := [(eIx, 1), (eIs, 2)]
set_option maxHeartbeats 1000000 in
theorem kL_step {x1 : Int} (hF : hT h mF = some (8, 0)) (hC : AC mX7_step fX7_step loX7_step bc bs h [vr mF, vi x1] (WQ rsL_step Q)) : AC mL_step (fX7_step + 1) (loX7_step + 25) bc bs h [vr mF, vi x1, vr nO] Q := by
  refine AC.mkH (by decide +kernel) (Nat.le_of_ble_eq_true rfl) ?_
  refine AW.aload_n dL_step_0 rfl ?_
  refine AW.iconst dL_step_1 rfl ?_
  refine AW.aload_n dL_step_2 rfl ?_
  refine AW.iload_n dL_step_3 rfl ?_
  refine AW.callVH (as := [vi x1]) dL_step_4 rfl rfl okX7_step lkL_97 hF rfl rfl rfl rfl (Nat.le_refl _) (Nat.le_refl _) rfl (hC.mono fun g o hq => ?_)
  rcases o with (_ | v | v) | E
  · exact hq.elim
  · have hq : _ ∧ _ := hq
    refine AW.i2l dL_step_7 ?_
    refine AW.astL dL_step_8 hq.1 (by decide) (by decide) ?_
    refine AW.goto dL_step_9 (tgt := 18) rfl ?_
    refine AW.iconst dL_step_18 rfl ?_
    exact AW.iret dL_step_19 rfl hq.2
  · exact hq.elim
  · obtain ⟨n, hm, hq⟩ := hq
    simp only [List.mem_cons, List.not_mem_nil, or_false, Prod.mk.injEq] at hm
    rcases hm with ⟨rfl, rfl⟩ | ⟨rfl, rfl⟩
    · exact ⟨_, hdL_step_1, hq⟩
    · exact ⟨_, hdL_step_2, hq⟩
theorem hdL_undo_1 : HD mL_undo 4 eIx 1 := ⟨rfl, rfl, [], (0, 9, 12, 19), [(0, 9, 15, 13)], rfl, by decide, by decide, by decide, lkL_19, trivial, Or.inl ⟨3, by decide, dL_undo_12, dL_undo_13, dL_undo_14⟩⟩
theorem hdL_undo_2 : HD mL_undo 4 eIs 2 := ⟨rfl, rfl, [(0, 9, 12, 19)], (0, 9, 15, 13), [], rfl, by decide, by decide, by decide, lkL_13, ⟨⟨by decide, eIx, lkL_19, by decide +kernel⟩, trivial⟩, Or.inl ⟨3, by decide, dL_undo_15, dL_undo_16, dL_undo_17⟩⟩
abbrev rsL_undo : List (String × Int) := [(eIx, 1), (eIs, 2)]
set_option maxHeartbeats 1000000 in
theorem kL_undo {x1 : Int} (hF : hT h mF = some (8, 0)) (hC : AC mX7_undo fX7_undo loX7_undo bc bs h [vr mF, vi x1] (WQ rsL_undo Q)) : AC mL_undo (fX7_undo + 1) (loX7_undo + 24) bc bs h [vr mF, vi x1, vr nO] Q := by
  refine AC.mkH (by decide +kernel) (Nat.le_of_ble_eq_true rfl) ?_
  refine AW.aload_n dL_undo_0 rfl ?_
  refine AW.iconst dL_undo_1 rfl ?_
  refine AW.aload_n dL_undo_2 rfl ?_
  refine AW.iload_n dL_undo_3 rfl ?_
  refine AW.callVH (as := [vi x1]) dL_undo_4 rfl rfl okX7_undo lkL_100 hF rfl rfl rfl rfl (Nat.le_refl _) (Nat.le_refl _) rfl (hC.mono fun g o hq => ?_)
  rcases o with (_ | v | v) | E
  · exact hq.elim
  · have hq : _ ∧ _ := hq
    refine AW.i2l dL_undo_7 ?_
    refine AW.astL dL_undo_8 hq.1 (by decide) (by decide) ?_
    refine AW.goto dL_undo_9 (tgt := 18) rfl ?_
    refine AW.iconst dL_undo_18 rfl ?_
    exact AW.iret dL_undo_19 rfl hq.2
  · exact hq.elim
  · obtain ⟨n, hm, hq⟩ := hq
    simp only [List.mem_cons, List.not_mem_nil, or_false, Prod.mk.injEq] at hm
    rcases hm with ⟨rfl, rfl⟩ | ⟨rfl, rfl⟩
    · exact ⟨_, hdL_undo_1, hq⟩
    · exact ⟨_, hdL_undo_2, hq⟩
theorem okL_schema : okSH mL_schema 2 := ⟨rfl, gt_at (.static yL_schema) 108 (by decide +kernel) (by decide +kernel), iniL, gt_at (.codeWith yL_schema cL_schema 3 (some .int) mL_schema.2.2.2.2) 109 (by decide +kernel) (by decide +kernel), by decide +kernel, by decide +kernel, by decide +kernel⟩
theorem okL_add : okSH mL_add 7 := ⟨rfl, gt_at (.static yL_add) 237 (by decide +kernel) (by decide +kernel), iniL, gt_at (.codeWith yL_add cL_add 8 (some .int) mL_add.2.2.2.2) 238 (by decide +kernel) (by decide +kernel), by decide +kernel, by decide +kernel, by decide +kernel⟩
theorem okL_rename : okSH mL_rename 5 := ⟨rfl, gt_at (.static yL_rename) 367 (by decide +kernel) (by decide +kernel), iniL, gt_at (.codeWith yL_rename cL_rename 6 (some .int) mL_rename.2.2.2.2) 368 (by decide +kernel) (by decide +kernel), by decide +kernel, by decide +kernel, by decide +kernel⟩
theorem okL_turn : okSH mL_turn 5 := ⟨rfl, gt_at (.static yL_turn) 391 (by decide +kernel) (by decide +kernel), iniL, gt_at (.codeWith yL_turn cL_turn 6 (some .int) mL_turn.2.2.2.2) 392 (by decide +kernel) (by decide +kernel), by decide +kernel, by decide +kernel, by decide +kernel⟩
theorem okL_split : okSH mL_split 7 := ⟨rfl, gt_at (.static yL_split) 419 (by decide +kernel) (by decide +kernel), iniL, gt_at (.codeWith yL_split cL_split 8 (some .int) mL_split.2.2.2.2) 420 (by decide +kernel) (by decide +kernel), by decide +kernel, by decide +kernel, by decide +kernel⟩
theorem okL_join : okSH mL_join 7 := ⟨rfl, gt_at (.static yL_join) 448 (by decide +kernel) (by decide +kernel), iniL, gt_at (.codeWith yL_join cL_join 8 (some .int) mL_join.2.2.2.2) 449 (by decide +kernel) (by decide +kernel), by decide +kernel, by decide +kernel, by decide +kernel⟩
theorem okL_toggleNeed : okSH mL_toggleNeed 4 := ⟨rfl, gt_at (.static yL_toggleNeed) 462 (by decide +kernel) (by decide +kernel), iniL, gt_at (.codeWith yL_toggleNeed cL_toggleNeed 5 (some .int) mL_toggleNeed.2.2.2.2) 463 (by decide +kernel) (by decide +kernel), by decide +kernel, by decide +kernel, by decide +kernel⟩
theorem okL_drop : okSH mL_drop 4 := ⟨rfl, gt_at (.static yL_drop) 470 (by decide +kernel) (by decide +kernel), iniL, gt_at (.codeWith yL_drop cL_drop 5 (some .int) mL_drop.2.2.2.2) 471 (by decide +kernel) (by decide +kernel), by decide +kernel, by decide +kernel, by decide +kernel⟩
theorem okL_head : okSH mL_head 3 := ⟨rfl, gt_at (.static yL_head) 505 (by decide +kernel) (by decide +kernel), iniL, gt_at (.codeWith yL_head cL_head 4 (some .int) mL_head.2.2.2.2) 506 (by decide +kernel) (by decide +kernel), by decide +kernel, by decide +kernel, by decide +kernel⟩
theorem okL_field : okSH mL_field 5 := ⟨rfl, gt_at (.static yL_field) 512 (by decide +kernel) (by decide +kernel), iniL, gt_at (.codeWith yL_field cL_field 6 (some .int) mL_field.2.2.2.2) 513 (by decide +kernel) (by decide +kernel), by decide +kernel, by decide +kernel, by decide +kernel⟩
theorem okL_text : okSH mL_text 5 := ⟨rfl, gt_at (.static yL_text) 522 (by decide +kernel) (by decide +kernel), iniL, gt_at (.codeWith yL_text cL_text 6 (some .int) mL_text.2.2.2.2) 523 (by decide +kernel) (by decide +kernel), by decide +kernel, by decide +kernel, by decide +kernel⟩
theorem okL_form : okSH mL_form 3 := ⟨rfl, gt_at (.static yL_form) 737 (by decide +kernel) (by decide +kernel), iniL, gt_at (.codeWith yL_form cL_form 4 (some .int) mL_form.2.2.2.2) 738 (by decide +kernel) (by decide +kernel), by decide +kernel, by decide +kernel, by decide +kernel⟩
theorem okL_take : okSH mL_take 5 := ⟨rfl, gt_at (.static yL_take) 769 (by decide +kernel) (by decide +kernel), iniL, gt_at (.codeWith yL_take cL_take 6 (some .int) mL_take.2.2.2.2) 770 (by decide +kernel) (by decide +kernel), by decide +kernel, by decide +kernel, by decide +kernel⟩
theorem okL_letGo : okSH mL_letGo 4 := ⟨rfl, gt_at (.static yL_letGo) 791 (by decide +kernel) (by decide +kernel), iniL, gt_at (.codeWith yL_letGo cL_letGo 5 (some .int) mL_letGo.2.2.2.2) 792 (by decide +kernel) (by decide +kernel), by decide +kernel, by decide +kernel, by decide +kernel⟩
theorem okL_retire : okSH mL_retire 3 := ⟨rfl, gt_at (.static yL_retire) 808 (by decide +kernel) (by decide +kernel), iniL, gt_at (.codeWith yL_retire cL_retire 4 (some .int) mL_retire.2.2.2.2) 809 (by decide +kernel) (by decide +kernel), by decide +kernel, by decide +kernel, by decide +kernel⟩
theorem okL_renew : okSH mL_renew 3 := ⟨rfl, gt_at (.static yL_renew) 816 (by decide +kernel) (by decide +kernel), iniL, gt_at (.codeWith yL_renew cL_renew 4 (some .int) mL_renew.2.2.2.2) 817 (by decide +kernel) (by decide +kernel), by decide +kernel, by decide +kernel, by decide +kernel⟩
theorem okL_read : okSH mL_read 5 := ⟨rfl, gt_at (.static yL_read) 823 (by decide +kernel) (by decide +kernel), iniL, gt_at (.codeWith yL_read cL_read 6 (some .int) mL_read.2.2.2.2) 824 (by decide +kernel) (by decide +kernel), by decide +kernel, by decide +kernel, by decide +kernel⟩
theorem okL_write : okSH mL_write 6 := ⟨rfl, gt_at (.static yL_write) 887 (by decide +kernel) (by decide +kernel), iniL, gt_at (.codeWith yL_write cL_write 7 (some .int) mL_write.2.2.2.2) 888 (by decide +kernel) (by decide +kernel), by decide +kernel, by decide +kernel, by decide +kernel⟩
theorem okL_row : okSH mL_row 4 := ⟨rfl, gt_at (.static yL_row) 897 (by decide +kernel) (by decide +kernel), iniL, gt_at (.codeWith yL_row cL_row 5 (some .int) mL_row.2.2.2.2) 898 (by decide +kernel) (by decide +kernel), by decide +kernel, by decide +kernel, by decide +kernel⟩
theorem okL_set : okSH mL_set 5 := ⟨rfl, gt_at (.static yL_set) 925 (by decide +kernel) (by decide +kernel), iniL, gt_at (.codeWith yL_set cL_set 6 (some .int) mL_set.2.2.2.2) 926 (by decide +kernel) (by decide +kernel), by decide +kernel, by decide +kernel, by decide +kernel⟩
theorem okL_value : okSH mL_value 5 := ⟨rfl, gt_at (.static yL_value) 933 (by decide +kernel) (by decide +kernel), iniL, gt_at (.codeWith yL_value cL_value 6 (some .int) mL_value.2.2.2.2) 934 (by decide +kernel) (by decide +kernel), by decide +kernel, by decide +kernel, by decide +kernel⟩
theorem okL_replayed : okSH mL_replayed 4 := ⟨rfl, gt_at (.static yL_replayed) 940 (by decide +kernel) (by decide +kernel), iniL, gt_at (.codeWith yL_replayed cL_replayed 5 (some .int) mL_replayed.2.2.2.2) 941 (by decide +kernel) (by decide +kernel), by decide +kernel, by decide +kernel, by decide +kernel⟩
theorem okL_standing : okSH mL_standing 3 := ⟨rfl, gt_at (.static yL_standing) 947 (by decide +kernel) (by decide +kernel), iniL, gt_at (.codeWith yL_standing cL_standing 4 (some .int) mL_standing.2.2.2.2) 948 (by decide +kernel) (by decide +kernel), by decide +kernel, by decide +kernel, by decide +kernel⟩
theorem okL_mover : okSH mL_mover 4 := ⟨rfl, gt_at (.static yL_mover) 958 (by decide +kernel) (by decide +kernel), iniL, gt_at (.codeWith yL_mover cL_mover 5 (some .int) mL_mover.2.2.2.2) 959 (by decide +kernel) (by decide +kernel), by decide +kernel, by decide +kernel, by decide +kernel⟩
theorem okL_step : okSH mL_step 3 := ⟨rfl, gt_at (.static yL_step) 984 (by decide +kernel) (by decide +kernel), iniL, gt_at (.codeWith yL_step cL_step 4 (some .int) mL_step.2.2.2.2) 985 (by decide +kernel) (by decide +kernel), by decide +kernel, by decide +kernel, by decide +kernel⟩
theorem okL_undo : okSH mL_undo 3 := ⟨rfl, gt_at (.static yL_undo) 1029 (by decide +kernel) (by decide +kernel), iniL, gt_at (.codeWith yL_undo cL_undo 4 (some .int) mL_undo.2.2.2.2) 1030 (by decide +kernel) (by decide +kernel), by decide +kernel, by decide +kernel, by decide +kernel⟩
end WRP
