/-! ===== the class: a schema's constructor ===== -/
section L3
variable {Q : AH → AO → Prop} {h g : AH} {s : Nat}
theorem IS.z (n4 : ∀ i, hT h (4, s, i) = none) : IS s h (aN h (4, s, 0) 5 0) 1 := by
  have ne : ∀ j : Nat, ¬ j = 0 → ¬ ((4, s, j) : Nm) = (4, s, 0) := fun j hj z => hj (congrArg (fun n : Nm => n.2.2) z)
  refine ⟨Fr.rf.nw (fun z => z ⟨rfl, rfl⟩), ?_, fun j h1 h2 => absurd h1 (by omega), fun j h0 _ _ => ?_, fun h3 => absurd h3 (by omega), fun _ v _ => ?_, fun j hj i => ?_, fun h5 => absurd h5 (by omega)⟩
  · rw [hT_aN, if_pos rfl]
  · rw [hT_aN, if_neg (ne j (by omega))]; exact n4 j
  · rw [hT_aN, if_neg (ne _ (by omega))]; exact n4 _
  · rw [show j = 0 by omega, hI_aN, hL_aN, if_pos rfl, if_pos rfl]; exact ⟨rfl, rfl⟩
set_option maxHeartbeats 1000000 in
theorem kX4_n (n4 : ∀ i, hT h (4, s, i) = none) (k : ∀ g, IS s h g 11 → Q (hfl g (4, s, 100) (fun _ => -1) 26) (.inl none)) : AC mX4_init fX4_init loX4_init 34 842 (aN h (4, s, 0) 5 0) [vr (4, s, 0)] Q := by
  refine AC.mk (by decide) (Nat.le_of_ble_eq_true rfl) ?_
  have lp : ∀ {bc bs : Nat}, ∀ (g : AH), IS s h g 11 → ∀ (m i : Nat), i ≤ 26 → 26 ≤ i + m → AW mX4_init fX4_init loX4_init 34 842 Q bc bs 87 (hfl g (4, s, 100) (fun _ => -1) i) [(1, vi (i : Int)), (0, vr (4, s, 0))] [] := by
    intro bc bs g I m
    have W := I.W
    induction m with
    | zero =>
      intro i h1 h2
      have e : i = 26 := by omega
      subst e
      refine AW.iload_n dX4_init_87 rfl ?_
      refine AW.bipush dX4_init_88 bp_26 (by decide) ?_
      refine AW.icmp_ge (tgt := 108) dX4_init_90 rfl (fun c_90 => ?_) (fun c_90 => ?_)
      · refine AW.vret dX4_init_108 rfl ?_
        exact k g I
      · exact absurd c_90 (by omega)
    | succ m ih =>
      intro i h1 h2
      by_cases e : i = 26
      · exact ih i h1 (by omega)
      refine AW.iload_n dX4_init_87 rfl ?_
      refine AW.bipush dX4_init_88 bp_26 (by decide) ?_
      refine AW.icmp_ge (tgt := 108) dX4_init_90 rfl (fun c_90 => ?_) (fun c_90 => ?_)
      · exact absurd c_90 (by omega)
      · refine AW.aload_n dX4_init_93 rfl ?_
        refine AW.getRE (j := 5) W.o dX4_init_94 lkX4_20 rfl rfl inC5 rfl W.r5 ?_
        refine AW.iconst dX4_init_97 (by decide) ?_
        refine AW.aldR (t := 9) dX4_init_98 W.t5 (by decide) rfl (by omega) (by omega) (W.v (v := 0) (by omega)) ?_
        refine AW.iload_n dX4_init_99 rfl ?_
        refine AW.iconst dX4_init_100 (by decide) ?_
        refine AW.astI dX4_init_101 (W.tv (v := 0) (by omega)) (by omega) (by omega) ?_
        refine AW.iincB dX4_init_102 rfl rfl (by omega) ?_
        refine AW.goto (tgt := 87) dX4_init_105 rfl ?_
        exact AW.locs [(1, vi ((i + 1 : Nat) : Int)), (0, vr (4, s, 0))] ⟨rfl, rfl, trivial⟩ (AW.heq (hfl_step rfl rfl) (ih (i + 1) (by omega) (by omega)))
  have I1 := IS.z (s := s) n4
  refine AW.gen (P := fun g => IS s h g 1) I1 (fun g I => ?_)
  refine AW.aload_n dX4_init_0 rfl ?_
  refine AW.objInit dX4_init_1 lkX4_3 oi1 oi2 rfl rfl rfl ?_
  refine AW.aload_n dX4_init_4 rfl ?_
  refine AW.bipush dX4_init_5 bp_46 (by decide) ?_
  refine AW.newa (t := 0) (N := 46) (4, s, 1) (I.2.2.2.1 1 (by decide) (by decide) (by decide)) dX4_init_7 (by decide) rfl arc_int rfl (by decide) (by decide) (by intro C e; cases e) rfl rfl ?_
  refine AW.putR (j := 3) dX4_init_9 (hT_old (by simp) I.2.1) rfl rfl inC5 lkX4_9 rfl (Or.inr ⟨rfl, rfl, rfl⟩) ?_
  refine AW.gen (P := fun g => IS s h g 2) (I.nw (k := 1) (K := 20) (L := 46) (by decide) (by decide) (by decide) rfl) (fun g I => ?_)
  refine AW.aload_n dX4_init_12 rfl ?_
  refine AW.bipush dX4_init_13 bp_46 (by decide) ?_
  refine AW.newa (t := 0) (N := 46) (4, s, 2) (I.2.2.2.1 2 (by decide) (by decide) (by decide)) dX4_init_15 (by decide) rfl arc_int rfl (by decide) (by decide) (by intro C e; cases e) rfl rfl ?_
  refine AW.putR (j := 4) dX4_init_17 (hT_old (by simp) I.2.1) rfl rfl inC5 lkX4_15 rfl (Or.inr ⟨rfl, rfl, rfl⟩) ?_
  refine AW.gen (P := fun g => IS s h g 3) (I.nw (k := 2) (K := 20) (L := 46) (by decide) (by decide) (by decide) rfl) (fun g I => ?_)
  refine AW.aload_n dX4_init_20 rfl ?_
  refine AW.bipush dX4_init_21 bp_24 (by decide) ?_
  refine AW.bipush dX4_init_23 bp_26 (by decide) ?_
  refine AW.mnew (N := 24) (K := 26) (4, s, 3) (fun v => (4, s, 100 + v)) (I.2.2.2.1 3 (by decide) (by decide) (by decide)) (fun j hj => I.2.2.2.2.2.1 (by decide) j hj) (fun j z => by have := congrArg (fun n : Nm => n.2.2) z; (try dsimp only at this); omega) (fun i j z => by have := congrArg (fun n : Nm => n.2.2) z; (try dsimp only at this); omega) dX4_init_25 lkX4_18 rfl rfl (by decide) (by decide) rfl rfl ?_
  refine AW.putR (j := 5) dX4_init_29 ((mN_o (m := (4, s, 0)) (by simp) 24 (fun j _ => by simp; omega)).trans I.2.1) rfl rfl inC5 lkX4_20 rfl (Or.inr ⟨rfl, rfl, rfl⟩) ?_
  refine AW.gen (P := fun g => IS s h g 4) (IS.mn I) (fun g I => ?_)
  refine AW.aload_n dX4_init_32 rfl ?_
  refine AW.bipush dX4_init_33 bp_24 (by decide) ?_
  refine AW.newa (t := 2) (N := 24) (4, s, 4) (I.2.2.2.1 4 (by decide) (by decide) (by decide)) dX4_init_35 (by decide) rfl arc_long rfl (by decide) (by decide) (by intro C e; cases e) rfl rfl ?_
  refine AW.putR (j := 6) dX4_init_37 (hT_old (by simp) I.2.1) rfl rfl inC5 lkX4_23 rfl (Or.inr ⟨rfl, rfl, rfl⟩) ?_
  refine AW.gen (P := fun g => IS s h g 5) (I.nw (k := 4) (K := 22) (L := 24) (by decide) (by decide) (by decide) rfl) (fun g I => ?_)
  refine AW.aload_n dX4_init_40 rfl ?_
  refine AW.bipush dX4_init_41 bp_24 (by decide) ?_
  refine AW.anew (t := 8) (N := 24) (kc := 7) (4, s, 5) (I.2.2.2.1 5 (by decide) (by decide) (by decide)) dX4_init_43 (by decide) rfl lkX4_27 aov_Step rfl (by decide) rfl rfl ?_
  refine AW.putR (j := 7) dX4_init_46 (hT_old (by simp) I.2.1) rfl rfl inC5 lkX4_29 rfl (Or.inr ⟨rfl, rfl, rfl⟩) ?_
  refine AW.gen (P := fun g => IS s h g 6) (I.nw (k := 5) (K := 28) (L := 24) (by decide) (by decide) (by decide) rfl) (fun g I => ?_)
  refine AW.aload_n dX4_init_49 rfl ?_
  refine AW.bipush dX4_init_50 bp_46 (by decide) ?_
  refine AW.newa (t := 0) (N := 46) (4, s, 6) (I.2.2.2.1 6 (by decide) (by decide) (by decide)) dX4_init_52 (by decide) rfl arc_int rfl (by decide) (by decide) (by intro C e; cases e) rfl rfl ?_
  refine AW.putR (j := 8) dX4_init_54 (hT_old (by simp) I.2.1) rfl rfl inC5 lkX4_33 rfl (Or.inr ⟨rfl, rfl, rfl⟩) ?_
  refine AW.gen (P := fun g => IS s h g 7) (I.nw (k := 6) (K := 20) (L := 46) (by decide) (by decide) (by decide) rfl) (fun g I => ?_)
  refine AW.aload_n dX4_init_57 rfl ?_
  refine AW.iconst dX4_init_58 (by decide) ?_
  refine AW.newa (t := 0) (N := 2) (4, s, 7) (I.2.2.2.1 7 (by decide) (by decide) (by decide)) dX4_init_59 (by decide) rfl arc_int rfl (by decide) (by decide) (by intro C e; cases e) rfl rfl ?_
  refine AW.putR (j := 9) dX4_init_61 (hT_old (by simp) I.2.1) rfl rfl inC5 lkX4_36 rfl (Or.inr ⟨rfl, rfl, rfl⟩) ?_
  refine AW.gen (P := fun g => IS s h g 8) (I.nw (k := 7) (K := 20) (L := 2) (by decide) (by decide) (by decide) rfl) (fun g I => ?_)
  refine AW.aload_n dX4_init_64 rfl ?_
  refine AW.iconst dX4_init_65 (by decide) ?_
  refine AW.newa (t := 0) (N := 2) (4, s, 8) (I.2.2.2.1 8 (by decide) (by decide) (by decide)) dX4_init_66 (by decide) rfl arc_int rfl (by decide) (by decide) (by intro C e; cases e) rfl rfl ?_
  refine AW.putR (j := 10) dX4_init_68 (hT_old (by simp) I.2.1) rfl rfl inC5 lkX4_39 rfl (Or.inr ⟨rfl, rfl, rfl⟩) ?_
  refine AW.gen (P := fun g => IS s h g 9) (I.nw (k := 8) (K := 20) (L := 2) (by decide) (by decide) (by decide) rfl) (fun g I => ?_)
  refine AW.aload_n dX4_init_71 rfl ?_
  refine AW.iconst dX4_init_72 (by decide) ?_
  refine AW.newa (t := 0) (N := 2) (4, s, 9) (I.2.2.2.1 9 (by decide) (by decide) (by decide)) dX4_init_73 (by decide) rfl arc_int rfl (by decide) (by decide) (by intro C e; cases e) rfl rfl ?_
  refine AW.putR (j := 11) dX4_init_75 (hT_old (by simp) I.2.1) rfl rfl inC5 lkX4_42 rfl (Or.inr ⟨rfl, rfl, rfl⟩) ?_
  refine AW.gen (P := fun g => IS s h g 10) (I.nw (k := 9) (K := 20) (L := 2) (by decide) (by decide) (by decide) rfl) (fun g I => ?_)
  refine AW.aload_n dX4_init_78 rfl ?_
  refine AW.iconst dX4_init_79 (by decide) ?_
  refine AW.newa (t := 0) (N := 2) (4, s, 10) (I.2.2.2.1 10 (by decide) (by decide) (by decide)) dX4_init_80 (by decide) rfl arc_int rfl (by decide) (by decide) (by intro C e; cases e) rfl rfl ?_
  refine AW.putR (j := 12) dX4_init_82 (hT_old (by simp) I.2.1) rfl rfl inC5 lkX4_45 rfl (Or.inr ⟨rfl, rfl, rfl⟩) ?_
  refine AW.gen (P := fun g => IS s h g 11) (I.nw (k := 10) (K := 20) (L := 2) (by decide) (by decide) (by decide) rfl) (fun g I => ?_)
  refine AW.heq (h2 := hfl g (4, s, 100) (fun _ => -1) 0) hfl_0.symm ?_
  refine AW.iconst dX4_init_85 (by decide) ?_
  refine AW.istore_n dX4_init_86 rfl ?_
  exact lp g I 26 0 (by omega) (by omega)
end L3
