/-! ===== the law's steps: split, join ===== -/
section D6
variable {Q : AH → AO → Prop} {h g h1 : AH} {Z : ZT} {c b L a m f0 f1 mc ms bc bs : Nat} {D K : Nat → Int} {W : Int}
abbrev lsp (w nd dv lt one two three nm ot th fi se : Int) : AL := [(16, vi lt), (15, vi dv), (14, vi nd), (13, vi se), (12, vi fi), (11, vi th), (10, vi ot), (9, vi nm), (0, vr mF), (1, vr (la 1)), (2, vr (la 2)), (3, vr (la 3)), (4, vr (la 4)), (5, vi w), (6, vi one), (7, vi two), (8, vi three)]
abbrev rgt (ot th dv : Int) : Prop := ot < 26 ∧ th < 26 ∧ ¬ ot = th ∧ dv < 101
theorem td_b {x y : Int} (hx : 0 ≤ x ∧ x ≤ 9999) (hy : 2 ≤ y) : 0 ≤ x.tdiv y ∧ x.tdiv y ≤ 9999 := by
  rw [tdv hx.1]
  have q1 := Int.ediv_nonneg hx.1 (show 0 ≤ y by omega)
  have q2 := Int.ediv_le_self y hx.1
  omega
set_option maxHeartbeats 2000000 in
theorem is_splR {nd dv lt one two three nm ot th fi se : Int} (kR : rgt ot th dv → AW mL_isStep fL_isStep loL_isStep mc ms Q bc bs 727 h ((17, vi 1) :: lsp 3 nd dv lt one two three nm ot th fi se) []) (kN : ¬ rgt ot th dv → AW mL_isStep fL_isStep loL_isStep mc ms Q bc bs 727 h ((17, vi 0) :: lsp 3 nd dv lt one two three nm ot th fi se) []) : AW mL_isStep fL_isStep loL_isStep mc ms Q bc bs 692 h (lsp 3 nd dv lt one two three nm ot th fi se) [] := by
  by_cases r1 : ot < 26
  · by_cases r2 : th < 26
    · by_cases r3 : ot = th
      · refine AW.iload dL_isStep_692 rfl ?_
        refine AW.bipush dL_isStep_694 bp_26 (by decide) ?_
        refine AW.icmp_geF (tgt := 724) dL_isStep_696 rfl (by omega) ?_
        refine AW.iload dL_isStep_699 rfl ?_
        refine AW.bipush dL_isStep_701 bp_26 (by decide) ?_
        refine AW.icmp_geF (tgt := 724) dL_isStep_703 rfl (by omega) ?_
        refine AW.iload dL_isStep_706 rfl ?_
        refine AW.iload dL_isStep_708 rfl ?_
        refine AW.icmp_eqT (tgt := 724) dL_isStep_710 rfl (by omega) ?_
        refine AW.iconst dL_isStep_724 (by decide) ?_
        refine AW.istore dL_isStep_725 rfl ?_
        exact AW.locs ((17, vi 0) :: lsp 3 nd dv lt one two three nm ot th fi se) ⟨rfl, rfl, rfl, rfl, rfl, rfl, rfl, rfl, rfl, rfl, rfl, rfl, rfl, rfl, rfl, rfl, rfl, rfl, trivial⟩ (kN (fun z => z.2.2.1 r3))
      · by_cases r4 : dv < 101
        · refine AW.iload dL_isStep_692 rfl ?_
          refine AW.bipush dL_isStep_694 bp_26 (by decide) ?_
          refine AW.icmp_geF (tgt := 724) dL_isStep_696 rfl (by omega) ?_
          refine AW.iload dL_isStep_699 rfl ?_
          refine AW.bipush dL_isStep_701 bp_26 (by decide) ?_
          refine AW.icmp_geF (tgt := 724) dL_isStep_703 rfl (by omega) ?_
          refine AW.iload dL_isStep_706 rfl ?_
          refine AW.iload dL_isStep_708 rfl ?_
          refine AW.icmp_eqF (tgt := 724) dL_isStep_710 rfl (by omega) ?_
          refine AW.iload dL_isStep_713 rfl ?_
          refine AW.bipush dL_isStep_715 bp_101 (by decide) ?_
          refine AW.icmp_geF (tgt := 724) dL_isStep_717 rfl (by omega) ?_
          refine AW.iconst dL_isStep_720 (by decide) ?_
          refine AW.goto (tgt := 725) dL_isStep_721 rfl ?_
          refine AW.istore dL_isStep_725 rfl ?_
          exact AW.locs ((17, vi 1) :: lsp 3 nd dv lt one two three nm ot th fi se) ⟨rfl, rfl, rfl, rfl, rfl, rfl, rfl, rfl, rfl, rfl, rfl, rfl, rfl, rfl, rfl, rfl, rfl, rfl, trivial⟩ (kR ⟨r1, r2, r3, r4⟩)
        · refine AW.iload dL_isStep_692 rfl ?_
          refine AW.bipush dL_isStep_694 bp_26 (by decide) ?_
          refine AW.icmp_geF (tgt := 724) dL_isStep_696 rfl (by omega) ?_
          refine AW.iload dL_isStep_699 rfl ?_
          refine AW.bipush dL_isStep_701 bp_26 (by decide) ?_
          refine AW.icmp_geF (tgt := 724) dL_isStep_703 rfl (by omega) ?_
          refine AW.iload dL_isStep_706 rfl ?_
          refine AW.iload dL_isStep_708 rfl ?_
          refine AW.icmp_eqF (tgt := 724) dL_isStep_710 rfl (by omega) ?_
          refine AW.iload dL_isStep_713 rfl ?_
          refine AW.bipush dL_isStep_715 bp_101 (by decide) ?_
          refine AW.icmp_geT (tgt := 724) dL_isStep_717 rfl (by omega) ?_
          refine AW.iconst dL_isStep_724 (by decide) ?_
          refine AW.istore dL_isStep_725 rfl ?_
          exact AW.locs ((17, vi 0) :: lsp 3 nd dv lt one two three nm ot th fi se) ⟨rfl, rfl, rfl, rfl, rfl, rfl, rfl, rfl, rfl, rfl, rfl, rfl, rfl, rfl, rfl, rfl, rfl, rfl, trivial⟩ (kN (fun z => r4 z.2.2.2))
    · refine AW.iload dL_isStep_692 rfl ?_
      refine AW.bipush dL_isStep_694 bp_26 (by decide) ?_
      refine AW.icmp_geF (tgt := 724) dL_isStep_696 rfl (by omega) ?_
      refine AW.iload dL_isStep_699 rfl ?_
      refine AW.bipush dL_isStep_701 bp_26 (by decide) ?_
      refine AW.icmp_geT (tgt := 724) dL_isStep_703 rfl (by omega) ?_
      refine AW.iconst dL_isStep_724 (by decide) ?_
      refine AW.istore dL_isStep_725 rfl ?_
      exact AW.locs ((17, vi 0) :: lsp 3 nd dv lt one two three nm ot th fi se) ⟨rfl, rfl, rfl, rfl, rfl, rfl, rfl, rfl, rfl, rfl, rfl, rfl, rfl, rfl, rfl, rfl, rfl, rfl, trivial⟩ (kN (fun z => r2 z.2.1))
  · refine AW.iload dL_isStep_692 rfl ?_
    refine AW.bipush dL_isStep_694 bp_26 (by decide) ?_
    refine AW.icmp_geT (tgt := 724) dL_isStep_696 rfl (by omega) ?_
    refine AW.iconst dL_isStep_724 (by decide) ?_
    refine AW.istore dL_isStep_725 rfl ?_
    exact AW.locs ((17, vi 0) :: lsp 3 nd dv lt one two three nm ot th fi se) ⟨rfl, rfl, rfl, rfl, rfl, rfl, rfl, rfl, rfl, rfl, rfl, rfl, rfl, rfl, rfl, rfl, rfl, rfl, trivial⟩ (kN (fun z => r1 z.1))
set_option maxHeartbeats 2000000 in
theorem is_splC {nd dv lt one two three nm ot th se : Int} (T : LT h) (S : LSc h Z) (K : QS Z) (hf : (f0 : Int) < Z 2 0) (kC : Z 3 f0 = 0 ∧ (se < 0 ∨ se = (f0 : Int)) ∧ (lt < 0 ∨ lt = (f0 : Int)) → AW mL_isStep fL_isStep loL_isStep mc ms Q bc bs 777 h ((18, vi 1) :: (17, vi 1) :: lsp 3 nd dv lt one two three nm ot th (f0 : Int) se) [])
    (kN : ¬ (Z 3 f0 = 0 ∧ (se < 0 ∨ se = (f0 : Int)) ∧ (lt < 0 ∨ lt = (f0 : Int))) → AW mL_isStep fL_isStep loL_isStep mc ms Q bc bs 777 h ((18, vi 0) :: (17, vi 1) :: lsp 3 nd dv lt one two three nm ot th (f0 : Int) se) []) : AW mL_isStep fL_isStep loL_isStep mc ms Q bc bs 727 h ((17, vi 1) :: lsp 3 nd dv lt one two three nm ot th (f0 : Int) se) [] := by
  have b2 := K.b2
  have kd0 := K.kd (f := f0) hf
  obtain ⟨fd1, fd2⟩ := f_div K (f := f0) hf
  by_cases c1 : Z 3 f0 = 0
  · by_cases s1 : se < 0
    · by_cases l1 : lt < 0
      · refine AW.iload dL_isStep_727 rfl ?_
        refine AW.if_ltF (tgt := 774) dL_isStep_729 rfl (by omega) ?_
        refine AW.iload dL_isStep_732 rfl ?_
        refine AW.if_eqF (tgt := 774) dL_isStep_734 rfl (by omega) ?_
        refine AW.aload_n dL_isStep_737 rfl ?_
        refine AW.iload dL_isStep_738 rfl ?_
        refine AW.aldIE dL_isStep_740 T.a3 (by omega) (by omega) (by exact S.f (f := f0) hf) ?_
        refine AW.iconst dL_isStep_741 (by decide) ?_
        refine AW.irem dL_isStep_742 (by omega) ?_
        refine AW.top fd2 ?_
        refine AW.if_neF (tgt := 774) dL_isStep_743 rfl (by omega) ?_
        refine AW.iload dL_isStep_746 rfl ?_
        refine AW.if_ltT (tgt := 758) dL_isStep_748 rfl (by omega) ?_
        refine AW.iload dL_isStep_758 rfl ?_
        refine AW.if_ltT (tgt := 770) dL_isStep_760 rfl (by omega) ?_
        refine AW.iconst dL_isStep_770 (by decide) ?_
        refine AW.goto (tgt := 775) dL_isStep_771 rfl ?_
        refine AW.istore dL_isStep_775 rfl ?_
        exact AW.locs ((18, vi 1) :: (17, vi 1) :: lsp 3 nd dv lt one two three nm ot th (f0 : Int) se) ⟨rfl, rfl, rfl, rfl, rfl, rfl, rfl, rfl, rfl, rfl, rfl, rfl, rfl, rfl, rfl, rfl, rfl, rfl, rfl, trivial⟩ (kC ⟨c1, Or.inl s1, Or.inl l1⟩)
      · by_cases l2 : lt = (f0 : Int)
        · refine AW.iload dL_isStep_727 rfl ?_
          refine AW.if_ltF (tgt := 774) dL_isStep_729 rfl (by omega) ?_
          refine AW.iload dL_isStep_732 rfl ?_
          refine AW.if_eqF (tgt := 774) dL_isStep_734 rfl (by omega) ?_
          refine AW.aload_n dL_isStep_737 rfl ?_
          refine AW.iload dL_isStep_738 rfl ?_
          refine AW.aldIE dL_isStep_740 T.a3 (by omega) (by omega) (by exact S.f (f := f0) hf) ?_
          refine AW.iconst dL_isStep_741 (by decide) ?_
          refine AW.irem dL_isStep_742 (by omega) ?_
          refine AW.top fd2 ?_
          refine AW.if_neF (tgt := 774) dL_isStep_743 rfl (by omega) ?_
          refine AW.iload dL_isStep_746 rfl ?_
          refine AW.if_ltT (tgt := 758) dL_isStep_748 rfl (by omega) ?_
          refine AW.iload dL_isStep_758 rfl ?_
          refine AW.if_ltF (tgt := 770) dL_isStep_760 rfl (by omega) ?_
          refine AW.iload dL_isStep_763 rfl ?_
          refine AW.iload dL_isStep_765 rfl ?_
          refine AW.icmp_neF (tgt := 774) dL_isStep_767 rfl (by omega) ?_
          refine AW.iconst dL_isStep_770 (by decide) ?_
          refine AW.goto (tgt := 775) dL_isStep_771 rfl ?_
          refine AW.istore dL_isStep_775 rfl ?_
          exact AW.locs ((18, vi 1) :: (17, vi 1) :: lsp 3 nd dv lt one two three nm ot th (f0 : Int) se) ⟨rfl, rfl, rfl, rfl, rfl, rfl, rfl, rfl, rfl, rfl, rfl, rfl, rfl, rfl, rfl, rfl, rfl, rfl, rfl, trivial⟩ (kC ⟨c1, Or.inl s1, Or.inr l2⟩)
        · refine AW.iload dL_isStep_727 rfl ?_
          refine AW.if_ltF (tgt := 774) dL_isStep_729 rfl (by omega) ?_
          refine AW.iload dL_isStep_732 rfl ?_
          refine AW.if_eqF (tgt := 774) dL_isStep_734 rfl (by omega) ?_
          refine AW.aload_n dL_isStep_737 rfl ?_
          refine AW.iload dL_isStep_738 rfl ?_
          refine AW.aldIE dL_isStep_740 T.a3 (by omega) (by omega) (by exact S.f (f := f0) hf) ?_
          refine AW.iconst dL_isStep_741 (by decide) ?_
          refine AW.irem dL_isStep_742 (by omega) ?_
          refine AW.top fd2 ?_
          refine AW.if_neF (tgt := 774) dL_isStep_743 rfl (by omega) ?_
          refine AW.iload dL_isStep_746 rfl ?_
          refine AW.if_ltT (tgt := 758) dL_isStep_748 rfl (by omega) ?_
          refine AW.iload dL_isStep_758 rfl ?_
          refine AW.if_ltF (tgt := 770) dL_isStep_760 rfl (by omega) ?_
          refine AW.iload dL_isStep_763 rfl ?_
          refine AW.iload dL_isStep_765 rfl ?_
          refine AW.icmp_neT (tgt := 774) dL_isStep_767 rfl (by omega) ?_
          refine AW.iconst dL_isStep_774 (by decide) ?_
          refine AW.istore dL_isStep_775 rfl ?_
          exact AW.locs ((18, vi 0) :: (17, vi 1) :: lsp 3 nd dv lt one two three nm ot th (f0 : Int) se) ⟨rfl, rfl, rfl, rfl, rfl, rfl, rfl, rfl, rfl, rfl, rfl, rfl, rfl, rfl, rfl, rfl, rfl, rfl, rfl, trivial⟩ (kN (fun z => z.2.2.elim l1 l2))
    · by_cases s2 : se = (f0 : Int)
      · by_cases l1 : lt < 0
        · refine AW.iload dL_isStep_727 rfl ?_
          refine AW.if_ltF (tgt := 774) dL_isStep_729 rfl (by omega) ?_
          refine AW.iload dL_isStep_732 rfl ?_
          refine AW.if_eqF (tgt := 774) dL_isStep_734 rfl (by omega) ?_
          refine AW.aload_n dL_isStep_737 rfl ?_
          refine AW.iload dL_isStep_738 rfl ?_
          refine AW.aldIE dL_isStep_740 T.a3 (by omega) (by omega) (by exact S.f (f := f0) hf) ?_
          refine AW.iconst dL_isStep_741 (by decide) ?_
          refine AW.irem dL_isStep_742 (by omega) ?_
          refine AW.top fd2 ?_
          refine AW.if_neF (tgt := 774) dL_isStep_743 rfl (by omega) ?_
          refine AW.iload dL_isStep_746 rfl ?_
          refine AW.if_ltF (tgt := 758) dL_isStep_748 rfl (by omega) ?_
          refine AW.iload dL_isStep_751 rfl ?_
          refine AW.iload dL_isStep_753 rfl ?_
          refine AW.icmp_neF (tgt := 774) dL_isStep_755 rfl (by omega) ?_
          refine AW.iload dL_isStep_758 rfl ?_
          refine AW.if_ltT (tgt := 770) dL_isStep_760 rfl (by omega) ?_
          refine AW.iconst dL_isStep_770 (by decide) ?_
          refine AW.goto (tgt := 775) dL_isStep_771 rfl ?_
          refine AW.istore dL_isStep_775 rfl ?_
          exact AW.locs ((18, vi 1) :: (17, vi 1) :: lsp 3 nd dv lt one two three nm ot th (f0 : Int) se) ⟨rfl, rfl, rfl, rfl, rfl, rfl, rfl, rfl, rfl, rfl, rfl, rfl, rfl, rfl, rfl, rfl, rfl, rfl, rfl, trivial⟩ (kC ⟨c1, Or.inr s2, Or.inl l1⟩)
        · by_cases l2 : lt = (f0 : Int)
          · refine AW.iload dL_isStep_727 rfl ?_
            refine AW.if_ltF (tgt := 774) dL_isStep_729 rfl (by omega) ?_
            refine AW.iload dL_isStep_732 rfl ?_
            refine AW.if_eqF (tgt := 774) dL_isStep_734 rfl (by omega) ?_
            refine AW.aload_n dL_isStep_737 rfl ?_
            refine AW.iload dL_isStep_738 rfl ?_
            refine AW.aldIE dL_isStep_740 T.a3 (by omega) (by omega) (by exact S.f (f := f0) hf) ?_
            refine AW.iconst dL_isStep_741 (by decide) ?_
            refine AW.irem dL_isStep_742 (by omega) ?_
            refine AW.top fd2 ?_
            refine AW.if_neF (tgt := 774) dL_isStep_743 rfl (by omega) ?_
            refine AW.iload dL_isStep_746 rfl ?_
            refine AW.if_ltF (tgt := 758) dL_isStep_748 rfl (by omega) ?_
            refine AW.iload dL_isStep_751 rfl ?_
            refine AW.iload dL_isStep_753 rfl ?_
            refine AW.icmp_neF (tgt := 774) dL_isStep_755 rfl (by omega) ?_
            refine AW.iload dL_isStep_758 rfl ?_
            refine AW.if_ltF (tgt := 770) dL_isStep_760 rfl (by omega) ?_
            refine AW.iload dL_isStep_763 rfl ?_
            refine AW.iload dL_isStep_765 rfl ?_
            refine AW.icmp_neF (tgt := 774) dL_isStep_767 rfl (by omega) ?_
            refine AW.iconst dL_isStep_770 (by decide) ?_
            refine AW.goto (tgt := 775) dL_isStep_771 rfl ?_
            refine AW.istore dL_isStep_775 rfl ?_
            exact AW.locs ((18, vi 1) :: (17, vi 1) :: lsp 3 nd dv lt one two three nm ot th (f0 : Int) se) ⟨rfl, rfl, rfl, rfl, rfl, rfl, rfl, rfl, rfl, rfl, rfl, rfl, rfl, rfl, rfl, rfl, rfl, rfl, rfl, trivial⟩ (kC ⟨c1, Or.inr s2, Or.inr l2⟩)
          · refine AW.iload dL_isStep_727 rfl ?_
            refine AW.if_ltF (tgt := 774) dL_isStep_729 rfl (by omega) ?_
            refine AW.iload dL_isStep_732 rfl ?_
            refine AW.if_eqF (tgt := 774) dL_isStep_734 rfl (by omega) ?_
            refine AW.aload_n dL_isStep_737 rfl ?_
            refine AW.iload dL_isStep_738 rfl ?_
            refine AW.aldIE dL_isStep_740 T.a3 (by omega) (by omega) (by exact S.f (f := f0) hf) ?_
            refine AW.iconst dL_isStep_741 (by decide) ?_
            refine AW.irem dL_isStep_742 (by omega) ?_
            refine AW.top fd2 ?_
            refine AW.if_neF (tgt := 774) dL_isStep_743 rfl (by omega) ?_
            refine AW.iload dL_isStep_746 rfl ?_
            refine AW.if_ltF (tgt := 758) dL_isStep_748 rfl (by omega) ?_
            refine AW.iload dL_isStep_751 rfl ?_
            refine AW.iload dL_isStep_753 rfl ?_
            refine AW.icmp_neF (tgt := 774) dL_isStep_755 rfl (by omega) ?_
            refine AW.iload dL_isStep_758 rfl ?_
            refine AW.if_ltF (tgt := 770) dL_isStep_760 rfl (by omega) ?_
            refine AW.iload dL_isStep_763 rfl ?_
            refine AW.iload dL_isStep_765 rfl ?_
            refine AW.icmp_neT (tgt := 774) dL_isStep_767 rfl (by omega) ?_
            refine AW.iconst dL_isStep_774 (by decide) ?_
            refine AW.istore dL_isStep_775 rfl ?_
            exact AW.locs ((18, vi 0) :: (17, vi 1) :: lsp 3 nd dv lt one two three nm ot th (f0 : Int) se) ⟨rfl, rfl, rfl, rfl, rfl, rfl, rfl, rfl, rfl, rfl, rfl, rfl, rfl, rfl, rfl, rfl, rfl, rfl, rfl, trivial⟩ (kN (fun z => z.2.2.elim l1 l2))
      · refine AW.iload dL_isStep_727 rfl ?_
        refine AW.if_ltF (tgt := 774) dL_isStep_729 rfl (by omega) ?_
        refine AW.iload dL_isStep_732 rfl ?_
        refine AW.if_eqF (tgt := 774) dL_isStep_734 rfl (by omega) ?_
        refine AW.aload_n dL_isStep_737 rfl ?_
        refine AW.iload dL_isStep_738 rfl ?_
        refine AW.aldIE dL_isStep_740 T.a3 (by omega) (by omega) (by exact S.f (f := f0) hf) ?_
        refine AW.iconst dL_isStep_741 (by decide) ?_
        refine AW.irem dL_isStep_742 (by omega) ?_
        refine AW.top fd2 ?_
        refine AW.if_neF (tgt := 774) dL_isStep_743 rfl (by omega) ?_
        refine AW.iload dL_isStep_746 rfl ?_
        refine AW.if_ltF (tgt := 758) dL_isStep_748 rfl (by omega) ?_
        refine AW.iload dL_isStep_751 rfl ?_
        refine AW.iload dL_isStep_753 rfl ?_
        refine AW.icmp_neT (tgt := 774) dL_isStep_755 rfl (by omega) ?_
        refine AW.iconst dL_isStep_774 (by decide) ?_
        refine AW.istore dL_isStep_775 rfl ?_
        exact AW.locs ((18, vi 0) :: (17, vi 1) :: lsp 3 nd dv lt one two three nm ot th (f0 : Int) se) ⟨rfl, rfl, rfl, rfl, rfl, rfl, rfl, rfl, rfl, rfl, rfl, rfl, rfl, rfl, rfl, rfl, rfl, rfl, rfl, trivial⟩ (kN (fun z => z.2.1.elim s1 s2))
  · refine AW.iload dL_isStep_727 rfl ?_
    refine AW.if_ltF (tgt := 774) dL_isStep_729 rfl (by omega) ?_
    refine AW.iload dL_isStep_732 rfl ?_
    refine AW.if_eqF (tgt := 774) dL_isStep_734 rfl (by omega) ?_
    refine AW.aload_n dL_isStep_737 rfl ?_
    refine AW.iload dL_isStep_738 rfl ?_
    refine AW.aldIE dL_isStep_740 T.a3 (by omega) (by omega) (by exact S.f (f := f0) hf) ?_
    refine AW.iconst dL_isStep_741 (by decide) ?_
    refine AW.irem dL_isStep_742 (by omega) ?_
    refine AW.top fd2 ?_
    refine AW.if_neT (tgt := 774) dL_isStep_743 rfl (by omega) ?_
    refine AW.iconst dL_isStep_774 (by decide) ?_
    refine AW.istore dL_isStep_775 rfl ?_
    exact AW.locs ((18, vi 0) :: (17, vi 1) :: lsp 3 nd dv lt one two three nm ot th (f0 : Int) se) ⟨rfl, rfl, rfl, rfl, rfl, rfl, rfl, rfl, rfl, rfl, rfl, rfl, rfl, rfl, rfl, rfl, rfl, rfl, rfl, trivial⟩ (kN (fun z => c1 z.1))
set_option maxHeartbeats 4000000 in
theorem is_spl1 {nd dv lt one two three nm ot th fi se : Int} (J : IV L h Z c b) (V : JV h Z) (hv : Z 1 0 = (a : Int)) (ha : a ≤ 9) (h8 : Z 2 0 ≤ 8) (hnm : 0 ≤ nm ∧ nm ≤ 5 ∨ nm = 26) (hot : 0 ≤ ot ∧ ot ≤ 6 ∨ ot = 26) (hth : 0 ≤ th ∧ th ≤ 6 ∨ th = 26) (hdv : 2 ≤ dv ∧ dv ≤ 101) (efi : zfind Z 0 (Z 1 0) nm = fi) (ese : zfind Z 0 (Z 1 0) ot = se) (elt : zfind Z 0 (Z 1 0) th = lt) (hN : ¬ fi = -1 → nd = if Z 6 (48 * a + fi.toNat) = 0 then 0 else 1) (k : ∀ g Y, IV L g Y c b → JV g Y → Q g (.inl (some (vi 1)))) : AW mL_isStep fL_isStep loL_isStep 10 60 Q 10 60 692 h (lsp 3 nd dv lt one two three nm ot th fi se) [] := by
  have K := J.K
  have b1 := K.b1
  have b2 := K.b2
  have zfi := zf_r K (a := Z 1 0) (n := nm)
  have zse := zf_r K (a := Z 1 0) (n := ot)
  have zlt := zf_r K (a := Z 1 0) (n := th)
  rw [efi] at zfi
  rw [ese] at zse
  rw [elt] at zlt
  obtain ⟨m, hm⟩ := Int.eq_ofNat_of_zero_le b2.1
  have hO : rgt ot th dv ↔ ((0 ≤ ot ∧ ot ≤ 25) ∧ (0 ≤ th ∧ th ≤ 25) ∧ ¬ ot = th ∧ 2 ≤ dv ∧ dv ≤ 100) := by unfold rgt; omega
  by_cases hf : fi = -1
  · refine is_splR (fun hR => ?_) (fun hR => ?_)
    · refine AW.iload dL_isStep_727 rfl ?_
      refine AW.if_ltT (tgt := 774) dL_isStep_729 rfl (by omega) ?_
      refine AW.iconst dL_isStep_774 (by decide) ?_
      refine AW.istore dL_isStep_775 rfl ?_
      refine AW.iload dL_isStep_777 rfl ?_
      refine AW.if_geF (tgt := 788) dL_isStep_779 rfl (by omega) ?_
      refine AW.sipush dL_isStep_782 sp_m300 (by decide) ?_
      refine AW.goto (tgt := 813) dL_isStep_785 rfl ?_
      refine AW.istore dL_isStep_813 rfl ?_
      refine AW.iload dL_isStep_815 rfl ?_
      refine AW.if_ltT (tgt := 887) dL_isStep_817 rfl (by omega) ?_
      refine AW.aload_n dL_isStep_887 rfl ?_
      refine AW.iconst dL_isStep_888 (by decide) ?_
      refine AW.iconst dL_isStep_889 (by decide) ?_
      refine AW.iload dL_isStep_890 rfl ?_
      refine AW.iload dL_isStep_892 rfl ?_
      refine AW.iload dL_isStep_894 rfl ?_
      refine AW.iload dL_isStep_896 rfl ?_
      refine AW.callSH (as := [vq _, vi _, vi _, vi _, vi _, vi _, vi _]) dL_isStep_898 rfl rfl rfl okL_does lkL_149 rfl rfl rfl (by omega) (by omega) rfl (q_spl J (fun _ => (AW.k1 ?_)) (fun z => absurd (efi.trans hf) z) (fun z => absurd (efi.trans hf) z) (fun z => absurd (efi.trans hf) z))
      refine AW.iload dL_isStep_901 rfl ?_
      refine AW.icmp_neF (tgt := 910) dL_isStep_903 rfl (by rfl) ?_
      refine AW.iconst dL_isStep_906 (by decide) ?_
      refine AW.goto (tgt := 911) dL_isStep_907 rfl ?_
      refine AW.pcs (pc2 := 911) rfl ?_
      refine AW.zret dL_isStep_911 rfl ?_ ?_
      · omega
      exact k _ _ J V
    · refine AW.iload dL_isStep_727 rfl ?_
      refine AW.if_ltT (tgt := 774) dL_isStep_729 rfl (by omega) ?_
      refine AW.iconst dL_isStep_774 (by decide) ?_
      refine AW.istore dL_isStep_775 rfl ?_
      refine AW.iload dL_isStep_777 rfl ?_
      refine AW.if_geF (tgt := 788) dL_isStep_779 rfl (by omega) ?_
      refine AW.sipush dL_isStep_782 sp_m300 (by decide) ?_
      refine AW.goto (tgt := 813) dL_isStep_785 rfl ?_
      refine AW.istore dL_isStep_813 rfl ?_
      refine AW.iload dL_isStep_815 rfl ?_
      refine AW.if_ltT (tgt := 887) dL_isStep_817 rfl (by omega) ?_
      refine AW.aload_n dL_isStep_887 rfl ?_
      refine AW.iconst dL_isStep_888 (by decide) ?_
      refine AW.iconst dL_isStep_889 (by decide) ?_
      refine AW.iload dL_isStep_890 rfl ?_
      refine AW.iload dL_isStep_892 rfl ?_
      refine AW.iload dL_isStep_894 rfl ?_
      refine AW.iload dL_isStep_896 rfl ?_
      refine AW.callSH (as := [vq _, vi _, vi _, vi _, vi _, vi _, vi _]) dL_isStep_898 rfl rfl rfl okL_does lkL_149 rfl rfl rfl (by omega) (by omega) rfl (q_spl J (fun _ => (AW.k1 ?_)) (fun z => absurd (efi.trans hf) z) (fun z => absurd (efi.trans hf) z) (fun z => absurd (efi.trans hf) z))
      refine AW.iload dL_isStep_901 rfl ?_
      refine AW.icmp_neF (tgt := 910) dL_isStep_903 rfl (by rfl) ?_
      refine AW.iconst dL_isStep_906 (by decide) ?_
      refine AW.goto (tgt := 911) dL_isStep_907 rfl ?_
      refine AW.pcs (pc2 := 911) rfl ?_
      refine AW.zret dL_isStep_911 rfl ?_ ?_
      · omega
      exact k _ _ J V
  have hf' : ¬ zfind Z 0 (Z 1 0) nm = -1 := by rw [efi]; exact hf
  obtain ⟨f0, e0⟩ := Int.eq_ofNat_of_zero_le (show 0 ≤ fi by omega)
  subst e0
  have hp : ¬ Z 5 (48 * a + f0) = -1 := by
    have q := zf_x (Z := Z) (a := a) (n := nm) (by rw [← hv]; exact hf')
    rw [← hv, efi, Int.toNat_natCast] at q
    omega
  have hn25 : nm ≤ 25 := (zf_x (Z := Z) (a := a) (n := nm) (by rw [← hv]; exact hf')).2.2
  have kd0 := K.kd (f := f0) (by omega)
  obtain ⟨fd1, fd2⟩ := f_div K (f := f0) (by omega)
  have hN := hN hf
  rw [Int.toNat_natCast] at hN
  have hC : (Z 3 (zfind Z 0 (Z 1 0) nm).toNat = 0 ∧ (zfind Z 0 (Z 1 0) ot = -1 ∨ zfind Z 0 (Z 1 0) ot = zfind Z 0 (Z 1 0) nm) ∧ (zfind Z 0 (Z 1 0) th = -1 ∨ zfind Z 0 (Z 1 0) th = zfind Z 0 (Z 1 0) nm)) ↔ (Z 3 f0 = 0 ∧ (se < 0 ∨ se = (f0 : Int)) ∧ (lt < 0 ∨ lt = (f0 : Int))) := by
    rw [efi, ese, elt, Int.toNat_natCast]
    omega
  refine is_splR (fun hR => ?_) (fun hR => ?_)
  · refine is_splC J.T V.s K (by omega) (fun hc => ?_) (fun hc => ?_)
    · have tb := td_b (x := Z 4 f0) (y := dv) (by omega) hdv.1
      have tm := tmr (x := Z 4 f0) (n := dv) (by omega) (by omega)
      have hR' := hO.mp hR
      by_cases e6 : Z 6 (48 * a + f0) = 0
      · have eS : (0 : Int) = if Z 6 (48 * a + f0) = 0 then 0 else 32 := by rw [if_pos e6]
        have hN : nd = 0 := by rw [hN]; rw [if_pos e6]
        subst hN
        refine AW.iload dL_isStep_777 rfl ?_
        refine AW.if_geT (tgt := 788) dL_isStep_779 rfl (by omega) ?_
        refine AW.iload dL_isStep_788 rfl ?_
        refine AW.if_neT (tgt := 799) dL_isStep_790 rfl (by omega) ?_
        refine AW.iload dL_isStep_799 rfl ?_
        refine AW.if_eqF (tgt := 811) dL_isStep_801 rfl (by omega) ?_
        refine AW.aload dL_isStep_804 rfl ?_
        refine AW.iconst dL_isStep_806 (by decide) ?_
        refine AW.aldIE dL_isStep_807 J.T.a4 (by omega) (by omega) (by exact V.s.g1) ?_
        refine AW.goto (tgt := 813) dL_isStep_808 rfl ?_
        refine AW.istore dL_isStep_813 rfl ?_
        refine AW.iload dL_isStep_815 rfl ?_
        refine AW.if_ltF (tgt := 887) dL_isStep_817 rfl (by omega) ?_
        refine AW.aload_n dL_isStep_820 rfl ?_
        refine AW.iload dL_isStep_821 rfl ?_
        refine AW.aldIE dL_isStep_823 J.T.a3 (by omega) (by omega) (by exact V.s.f (f := f0) (by omega)) ?_
        refine AW.iconst dL_isStep_824 (by decide) ?_
        refine AW.idiv dL_isStep_825 (by omega) ?_
        refine AW.top fd1 ?_
        refine AW.istore dL_isStep_826 rfl ?_
        refine AW.aload_n dL_isStep_828 rfl ?_
        refine AW.aload_n dL_isStep_829 rfl ?_
        refine AW.aload dL_isStep_830 rfl ?_
        refine AW.iconst dL_isStep_832 (by decide) ?_
        refine AW.pcs (pc2 := 833) rfl ?_
        refine AW.iload dL_isStep_833 rfl ?_
        refine AW.iconst dL_isStep_835 (by decide) ?_
        refine AW.iload dL_isStep_836 rfl ?_
        refine AW.callS (as := [vq _, vq _, vq _, vi _, vi _, vi _, vi _]) dL_isStep_838 rfl rfl rfl okL_begins lkL_141 rfl rfl rfl (leb (by omega)) (leb (by omega)) rfl (kL_begins (K := fun _ => 0) (d := a + 1) J.T V.s (by omega) (by omega) (by omega) (by omega) (by omega) (by omega) (by omega) (fun g1 F1 C1 => (AW.k0 ?_)))
        have C1 := C1.n hm
        have T1 := F1.1.T J.T
        refine AW.aload_n dL_isStep_841 rfl ?_
        refine AW.aload dL_isStep_842 rfl ?_
        refine AW.iload dL_isStep_844 rfl ?_
        refine AW.callS (as := [vq _, vq _, vi _]) dL_isStep_846 rfl rfl rfl okL_goes lkL_155 rfl rfl rfl (leb (by omega)) (leb (by omega)) rfl (kL_goes T1 C1 (by omega) (by omega) (fun g2 F2 C2 => (AW.k0 ?_)))
        have T2 := F2.1.T T1
        refine AW.aload_n dL_isStep_849 rfl ?_
        refine AW.aload_n dL_isStep_850 rfl ?_
        refine AW.aload_n dL_isStep_851 rfl ?_
        refine AW.aload dL_isStep_852 rfl ?_
        refine AW.iload dL_isStep_854 rfl ?_
        refine AW.iconst dL_isStep_856 (by decide) ?_
        refine AW.iload dL_isStep_857 rfl ?_
        refine AW.iload dL_isStep_859 rfl ?_
        refine AW.idiv dL_isStep_861 (by omega) ?_
        refine AW.iload dL_isStep_862 rfl ?_
        refine AW.iconst dL_isStep_864 (by decide) ?_
        refine AW.callS (as := [vq _, vq _, vq _, vq _, vi _, vi _, vi _, vi _, vi _]) dL_isStep_865 rfl rfl rfl okL_makes lkL_145 rfl rfl rfl (leb (by omega)) (leb (by omega)) rfl (kL_makes00 (m := m) T2 C2 (by omega) (by omega) (by omega) (by omega) ((if_neg (by omega)).trans (zdg_0 K (by omega) (by omega) (by omega))) (by omega) (by omega) (by omega) (fun g3 F3 C3 => (AW.k0 ?_)))
        have T3 := F3.1.T T2
        have C3 := C3.n (n' := ((m + 1 : Nat) : Int)) (by omega)
        refine AW.aload_n dL_isStep_868 rfl ?_
        refine AW.aload_n dL_isStep_869 rfl ?_
        refine AW.aload_n dL_isStep_870 rfl ?_
        refine AW.aload dL_isStep_871 rfl ?_
        refine AW.pcs (pc2 := 873) rfl ?_
        refine AW.iload dL_isStep_873 rfl ?_
        refine AW.iconst dL_isStep_875 (by decide) ?_
        refine AW.iload dL_isStep_876 rfl ?_
        refine AW.iload dL_isStep_878 rfl ?_
        refine AW.irem dL_isStep_880 (by omega) ?_
        refine AW.iload dL_isStep_881 rfl ?_
        refine AW.iconst dL_isStep_883 (by decide) ?_
        refine AW.callS (as := [vq _, vq _, vq _, vq _, vi _, vi _, vi _, vi _, vi _]) dL_isStep_884 rfl rfl rfl okL_makes lkL_145 rfl rfl rfl (leb (by omega)) (leb (by omega)) rfl (kL_makes01 (m := m + 1) T3 C3 (by omega) (by omega) (by omega) (by omega) ((if_neg (by omega)).trans ((if_neg (by omega)).trans (zdg_0 K (by omega) (by omega) (by omega)))) (by omega) (by omega) (by omega) (fun g4 F4 C4 => (AW.k0 ?_)))
        have FF := ((F1.tr F2).tr F3).tr F4
        have C4 := C4.n (n' := (m : Int) + 1 + 1) (by omega)
        refine AW.aload_n dL_isStep_887 rfl ?_
        refine AW.iconst dL_isStep_888 (by decide) ?_
        refine AW.iconst dL_isStep_889 (by decide) ?_
        refine AW.iload dL_isStep_890 rfl ?_
        refine AW.iload dL_isStep_892 rfl ?_
        refine AW.iload dL_isStep_894 rfl ?_
        refine AW.iload dL_isStep_896 rfl ?_
        refine AW.callSH (as := [vq _, vi _, vi _, vi _, vi _, vi _, vi _]) dL_isStep_898 rfl rfl rfl okL_does lkL_149 rfl rfl rfl (by omega) (by omega) rfl (q_spl (J.fl FF.1) (fun z => absurd z hf') (fun _ z => absurd hR' z) (fun _ _ z => absurd (hC.mpr hc) z) (fun _ _ _ g5 S5 I5 Fr5 => (AW.k1 ?_)))
        refine AW.iload dL_isStep_901 rfl ?_
        refine AW.icmp_neF (tgt := 910) dL_isStep_903 rfl (by rfl) ?_
        refine AW.iconst dL_isStep_906 (by decide) ?_
        refine AW.goto (tgt := 911) dL_isStep_907 rfl ?_
        refine AW.zret dL_isStep_911 rfl ?_ ?_
        · omega
        have q := g_spl J V FF hv ha hm (by omega) (by omega) (by omega) (by omega) efi (by omega) hc.1 C4 (fun i hi => by rw [← eS]; rfl) (by omega) ((if_neg (by omega)).trans ((if_pos rfl).trans (Int.zero_add _))) ((if_pos rfl).trans (Int.zero_add _)) S5 I5 Fr5
        exact k _ _ q.1 q.2
      · have eS : (32 : Int) = if Z 6 (48 * a + f0) = 0 then 0 else 32 := by rw [if_neg e6]
        have hN : nd = 1 := by rw [hN]; rw [if_neg e6]
        subst hN
        refine AW.iload dL_isStep_777 rfl ?_
        refine AW.if_geT (tgt := 788) dL_isStep_779 rfl (by omega) ?_
        refine AW.iload dL_isStep_788 rfl ?_
        refine AW.if_neT (tgt := 799) dL_isStep_790 rfl (by omega) ?_
        refine AW.iload dL_isStep_799 rfl ?_
        refine AW.if_eqF (tgt := 811) dL_isStep_801 rfl (by omega) ?_
        refine AW.aload dL_isStep_804 rfl ?_
        refine AW.iconst dL_isStep_806 (by decide) ?_
        refine AW.aldIE dL_isStep_807 J.T.a4 (by omega) (by omega) (by exact V.s.g1) ?_
        refine AW.goto (tgt := 813) dL_isStep_808 rfl ?_
        refine AW.istore dL_isStep_813 rfl ?_
        refine AW.iload dL_isStep_815 rfl ?_
        refine AW.if_ltF (tgt := 887) dL_isStep_817 rfl (by omega) ?_
        refine AW.aload_n dL_isStep_820 rfl ?_
        refine AW.iload dL_isStep_821 rfl ?_
        refine AW.aldIE dL_isStep_823 J.T.a3 (by omega) (by omega) (by exact V.s.f (f := f0) (by omega)) ?_
        refine AW.iconst dL_isStep_824 (by decide) ?_
        refine AW.idiv dL_isStep_825 (by omega) ?_
        refine AW.top fd1 ?_
        refine AW.istore dL_isStep_826 rfl ?_
        refine AW.aload_n dL_isStep_828 rfl ?_
        refine AW.aload_n dL_isStep_829 rfl ?_
        refine AW.aload dL_isStep_830 rfl ?_
        refine AW.iconst dL_isStep_832 (by decide) ?_
        refine AW.pcs (pc2 := 833) rfl ?_
        refine AW.iload dL_isStep_833 rfl ?_
        refine AW.iconst dL_isStep_835 (by decide) ?_
        refine AW.iload dL_isStep_836 rfl ?_
        refine AW.callS (as := [vq _, vq _, vq _, vi _, vi _, vi _, vi _]) dL_isStep_838 rfl rfl rfl okL_begins lkL_141 rfl rfl rfl (leb (by omega)) (leb (by omega)) rfl (kL_begins (K := fun _ => 0) (d := a + 1) J.T V.s (by omega) (by omega) (by omega) (by omega) (by omega) (by omega) (by omega) (fun g1 F1 C1 => (AW.k0 ?_)))
        have C1 := C1.n hm
        have T1 := F1.1.T J.T
        refine AW.aload_n dL_isStep_841 rfl ?_
        refine AW.aload dL_isStep_842 rfl ?_
        refine AW.iload dL_isStep_844 rfl ?_
        refine AW.callS (as := [vq _, vq _, vi _]) dL_isStep_846 rfl rfl rfl okL_goes lkL_155 rfl rfl rfl (leb (by omega)) (leb (by omega)) rfl (kL_goes T1 C1 (by omega) (by omega) (fun g2 F2 C2 => (AW.k0 ?_)))
        have T2 := F2.1.T T1
        refine AW.aload_n dL_isStep_849 rfl ?_
        refine AW.aload_n dL_isStep_850 rfl ?_
        refine AW.aload_n dL_isStep_851 rfl ?_
        refine AW.aload dL_isStep_852 rfl ?_
        refine AW.iload dL_isStep_854 rfl ?_
        refine AW.iconst dL_isStep_856 (by decide) ?_
        refine AW.iload dL_isStep_857 rfl ?_
        refine AW.iload dL_isStep_859 rfl ?_
        refine AW.idiv dL_isStep_861 (by omega) ?_
        refine AW.iload dL_isStep_862 rfl ?_
        refine AW.iconst dL_isStep_864 (by decide) ?_
        refine AW.callS (as := [vq _, vq _, vq _, vq _, vi _, vi _, vi _, vi _, vi _]) dL_isStep_865 rfl rfl rfl okL_makes lkL_145 rfl rfl rfl (leb (by omega)) (leb (by omega)) rfl (kL_makes10 (m := m) T2 C2 (by omega) (by omega) (by omega) (by omega) ((if_neg (by omega)).trans (zdg_0 K (by omega) (by omega) (by omega))) (by omega) (by omega) (by omega) (fun g3 F3 C3 => (AW.k0 ?_)))
        have T3 := F3.1.T T2
        have C3 := C3.n (n' := ((m + 1 : Nat) : Int)) (by omega)
        refine AW.aload_n dL_isStep_868 rfl ?_
        refine AW.aload_n dL_isStep_869 rfl ?_
        refine AW.aload_n dL_isStep_870 rfl ?_
        refine AW.aload dL_isStep_871 rfl ?_
        refine AW.pcs (pc2 := 873) rfl ?_
        refine AW.iload dL_isStep_873 rfl ?_
        refine AW.iconst dL_isStep_875 (by decide) ?_
        refine AW.iload dL_isStep_876 rfl ?_
        refine AW.iload dL_isStep_878 rfl ?_
        refine AW.irem dL_isStep_880 (by omega) ?_
        refine AW.iload dL_isStep_881 rfl ?_
        refine AW.iconst dL_isStep_883 (by decide) ?_
        refine AW.callS (as := [vq _, vq _, vq _, vq _, vi _, vi _, vi _, vi _, vi _]) dL_isStep_884 rfl rfl rfl okL_makes lkL_145 rfl rfl rfl (leb (by omega)) (leb (by omega)) rfl (kL_makes11 (m := m + 1) T3 C3 (by omega) (by omega) (by omega) (by omega) ((if_neg (by omega)).trans ((if_neg (by omega)).trans (zdg_0 K (by omega) (by omega) (by omega)))) (by omega) (by omega) (by omega) (fun g4 F4 C4 => (AW.k0 ?_)))
        have FF := ((F1.tr F2).tr F3).tr F4
        have C4 := C4.n (n' := (m : Int) + 1 + 1) (by omega)
        refine AW.aload_n dL_isStep_887 rfl ?_
        refine AW.iconst dL_isStep_888 (by decide) ?_
        refine AW.iconst dL_isStep_889 (by decide) ?_
        refine AW.iload dL_isStep_890 rfl ?_
        refine AW.iload dL_isStep_892 rfl ?_
        refine AW.iload dL_isStep_894 rfl ?_
        refine AW.iload dL_isStep_896 rfl ?_
        refine AW.callSH (as := [vq _, vi _, vi _, vi _, vi _, vi _, vi _]) dL_isStep_898 rfl rfl rfl okL_does lkL_149 rfl rfl rfl (by omega) (by omega) rfl (q_spl (J.fl FF.1) (fun z => absurd z hf') (fun _ z => absurd hR' z) (fun _ _ z => absurd (hC.mpr hc) z) (fun _ _ _ g5 S5 I5 Fr5 => (AW.k1 ?_)))
        refine AW.iload dL_isStep_901 rfl ?_
        refine AW.icmp_neF (tgt := 910) dL_isStep_903 rfl (by rfl) ?_
        refine AW.iconst dL_isStep_906 (by decide) ?_
        refine AW.goto (tgt := 911) dL_isStep_907 rfl ?_
        refine AW.zret dL_isStep_911 rfl ?_ ?_
        · omega
        have q := g_spl J V FF hv ha hm (by omega) (by omega) (by omega) (by omega) efi (by omega) hc.1 C4 (fun i hi => by rw [← eS]; rfl) (by omega) ((if_neg (by omega)).trans ((if_pos rfl).trans (Int.zero_add _))) ((if_pos rfl).trans (Int.zero_add _)) S5 I5 Fr5
        exact k _ _ q.1 q.2
    · refine AW.iload dL_isStep_777 rfl ?_
      refine AW.if_geT (tgt := 788) dL_isStep_779 rfl (by omega) ?_
      refine AW.iload dL_isStep_788 rfl ?_
      refine AW.if_neT (tgt := 799) dL_isStep_790 rfl (by omega) ?_
      refine AW.iload dL_isStep_799 rfl ?_
      refine AW.if_eqT (tgt := 811) dL_isStep_801 rfl (by omega) ?_
      refine AW.bipush dL_isStep_811 bp_m100 (by decide) ?_
      refine AW.istore dL_isStep_813 rfl ?_
      refine AW.iload dL_isStep_815 rfl ?_
      refine AW.if_ltT (tgt := 887) dL_isStep_817 rfl (by omega) ?_
      refine AW.aload_n dL_isStep_887 rfl ?_
      refine AW.iconst dL_isStep_888 (by decide) ?_
      refine AW.iconst dL_isStep_889 (by decide) ?_
      refine AW.iload dL_isStep_890 rfl ?_
      refine AW.iload dL_isStep_892 rfl ?_
      refine AW.iload dL_isStep_894 rfl ?_
      refine AW.iload dL_isStep_896 rfl ?_
      refine AW.callSH (as := [vq _, vi _, vi _, vi _, vi _, vi _, vi _]) dL_isStep_898 rfl rfl rfl okL_does lkL_149 rfl rfl rfl (by omega) (by omega) rfl (q_spl J (fun z => absurd z hf') (fun _ z => absurd (hO.mp hR) z) (fun _ _ _ => (AW.k1 ?_)) (fun _ _ z => absurd (hC.mp z) hc))
      refine AW.iload dL_isStep_901 rfl ?_
      refine AW.icmp_neF (tgt := 910) dL_isStep_903 rfl (by rfl) ?_
      refine AW.iconst dL_isStep_906 (by decide) ?_
      refine AW.goto (tgt := 911) dL_isStep_907 rfl ?_
      refine AW.zret dL_isStep_911 rfl ?_ ?_
      · omega
      exact k _ _ J V
  · refine AW.iload dL_isStep_727 rfl ?_
    refine AW.if_ltF (tgt := 774) dL_isStep_729 rfl (by omega) ?_
    refine AW.iload dL_isStep_732 rfl ?_
    refine AW.if_eqT (tgt := 774) dL_isStep_734 rfl (by omega) ?_
    refine AW.iconst dL_isStep_774 (by decide) ?_
    refine AW.istore dL_isStep_775 rfl ?_
    refine AW.iload dL_isStep_777 rfl ?_
    refine AW.if_geT (tgt := 788) dL_isStep_779 rfl (by omega) ?_
    refine AW.iload dL_isStep_788 rfl ?_
    refine AW.if_neF (tgt := 799) dL_isStep_790 rfl (by omega) ?_
    refine AW.sipush dL_isStep_793 sp_m200 (by decide) ?_
    refine AW.goto (tgt := 813) dL_isStep_796 rfl ?_
    refine AW.istore dL_isStep_813 rfl ?_
    refine AW.iload dL_isStep_815 rfl ?_
    refine AW.if_ltT (tgt := 887) dL_isStep_817 rfl (by omega) ?_
    refine AW.aload_n dL_isStep_887 rfl ?_
    refine AW.iconst dL_isStep_888 (by decide) ?_
    refine AW.iconst dL_isStep_889 (by decide) ?_
    refine AW.iload dL_isStep_890 rfl ?_
    refine AW.iload dL_isStep_892 rfl ?_
    refine AW.iload dL_isStep_894 rfl ?_
    refine AW.iload dL_isStep_896 rfl ?_
    refine AW.callSH (as := [vq _, vi _, vi _, vi _, vi _, vi _, vi _]) dL_isStep_898 rfl rfl rfl okL_does lkL_149 rfl rfl rfl (by omega) (by omega) rfl (q_spl J (fun z => absurd z hf') (fun _ _ => (AW.k1 ?_)) (fun _ z => absurd (hO.mpr z) hR) (fun _ z => absurd (hO.mpr z) hR))
    refine AW.pcs (pc2 := 901) rfl ?_
    refine AW.iload dL_isStep_901 rfl ?_
    refine AW.icmp_neF (tgt := 910) dL_isStep_903 rfl (by rfl) ?_
    refine AW.iconst dL_isStep_906 (by decide) ?_
    refine AW.goto (tgt := 911) dL_isStep_907 rfl ?_
    refine AW.zret dL_isStep_911 rfl ?_ ?_
    · omega
    exact k _ _ J V
set_option maxHeartbeats 4000000 in
theorem is_spl {one two three nm ot th fi se : Int} (J : IV L h Z c b) (V : JV h Z) (hv : Z 1 0 = (a : Int)) (ha : a ≤ 9) (h8 : Z 2 0 ≤ 8) (h1 : 0 ≤ one ∧ one < 10000) (h2 : 0 ≤ two ∧ two < 10000) (h3 : 0 ≤ three ∧ three < 10000) (hnm : 0 ≤ nm ∧ nm ≤ 5 ∨ nm = 26) (hot : 0 ≤ ot ∧ ot ≤ 6 ∨ ot = 26) (hth : 0 ≤ th ∧ th ≤ 6 ∨ th = 26) (efi : zfind Z 0 (Z 1 0) nm = fi) (ese : zfind Z 0 (Z 1 0) ot = se) (k : ∀ g Y, IV L g Y c b → JV g Y → Q g (.inl (some (vi 1)))) : AW mL_isStep fL_isStep loL_isStep 10 60 Q 10 60 127 h (lst 3 one two three nm ot th fi se) [] := by
  have K := J.K
  have b1 := K.b1
  have b2 := K.b2
  have zfi := zf_r K (a := Z 1 0) (n := nm)
  have zse := zf_r K (a := Z 1 0) (n := ot)
  rw [efi] at zfi
  rw [ese] at zse
  obtain ⟨m, hm⟩ := Int.eq_ofNat_of_zero_le b2.1
  obtain ⟨lt, elt⟩ : ∃ lt, zfind Z 0 (Z 1 0) th = lt := ⟨_, rfl⟩
  have elt' : zfind Z 0 (a : Int) th = lt := by rw [← hv]; exact elt
  have t7 : 0 ≤ three.tdiv 7 := by rw [tdv h3.1]; omega
  have t40 := tmr (x := three.tdiv 7) (n := 40) t7 (by decide)
  have t30 := tmr (x := three.tdiv 7) (n := 30) t7 (by decide)
  by_cases e40 : (three.tdiv 7).tmod 40 = 0
  · by_cases hf : fi = -1
    · refine AW.iload dL_isStep_127 rfl ?_
      refine AW.if_neT (tgt := 320) dL_isStep_129 rfl (by omega) ?_
      refine AW.iload dL_isStep_320 rfl ?_
      refine AW.iconst dL_isStep_322 (by decide) ?_
      refine AW.icmp_neT (tgt := 478) dL_isStep_323 rfl (by omega) ?_
      refine AW.iload dL_isStep_478 rfl ?_
      refine AW.if_ltT (tgt := 500) dL_isStep_480 rfl (by omega) ?_
      refine AW.iconst dL_isStep_500 (by decide) ?_
      refine AW.istore dL_isStep_501 rfl ?_
      refine AW.iload dL_isStep_503 rfl ?_
      refine AW.iconst dL_isStep_505 (by decide) ?_
      refine AW.icmp_neT (tgt := 644) dL_isStep_506 rfl (by omega) ?_
      refine AW.iload dL_isStep_644 rfl ?_
      refine AW.iconst dL_isStep_646 (by decide) ?_
      refine AW.icmp_neF (tgt := 912) dL_isStep_647 rfl (by omega) ?_
      refine AW.iload dL_isStep_650 rfl ?_
      refine AW.bipush dL_isStep_652 bp_7 (by decide) ?_
      refine AW.idiv dL_isStep_654 (by omega) ?_
      refine AW.bipush dL_isStep_655 bp_40 (by decide) ?_
      refine AW.irem dL_isStep_657 (by omega) ?_
      refine AW.if_neF (tgt := 666) dL_isStep_658 rfl (by exact e40) ?_
      refine AW.bipush dL_isStep_661 bp_101 (by decide) ?_
      refine AW.goto (tgt := 676) dL_isStep_663 rfl ?_
      refine AW.pcs (pc2 := 676) rfl ?_
      refine AW.istore dL_isStep_676 rfl ?_
      refine AW.aload_n dL_isStep_678 rfl ?_
      refine AW.aload dL_isStep_679 rfl ?_
      refine AW.aload dL_isStep_681 rfl ?_
      refine AW.iconst dL_isStep_683 (by decide) ?_
      refine AW.aldIE dL_isStep_684 J.T.a4 (by omega) (by omega) (by exact V.s.g0.trans hv) ?_
      refine AW.iload dL_isStep_685 rfl ?_
      refine AW.callS (as := [vq _, vq _, vi _, vi _]) dL_isStep_687 rfl rfl rfl okL_find lkL_123 rfl rfl rfl (leb (by omega)) (leb (by omega)) rfl (kL_find J.T V.s K (a := a) (by omega) (by omega) (AW.k1 ?_))
      refine AW.top elt' ?_
      refine AW.istore dL_isStep_690 rfl ?_
      exact AW.locs (lsp 3 0 101 lt one two three nm ot th fi se) ⟨rfl, rfl, rfl, rfl, rfl, rfl, rfl, rfl, rfl, rfl, rfl, rfl, rfl, rfl, rfl, rfl, rfl, trivial⟩ (is_spl1 J V hv ha h8 hnm hot hth (by omega) efi ese elt (fun z => absurd hf z) k)
    have hf' : ¬ zfind Z 0 (Z 1 0) nm = -1 := by rw [efi]; exact hf
    obtain ⟨f0, e0⟩ := Int.eq_ofNat_of_zero_le (show 0 ≤ fi by omega)
    subst e0
    have hp : ¬ Z 5 (48 * a + f0) = -1 := by
      have q := zf_x (Z := Z) (a := a) (n := nm) (by rw [← hv]; exact hf')
      rw [← hv, efi, Int.toNat_natCast] at q
      omega
    have hn25 : nm ≤ 25 := (zf_x (Z := Z) (a := a) (n := nm) (by rw [← hv]; exact hf')).2.2
    have kd0 := K.kd (f := f0) (by omega)
    obtain ⟨fd1, fd2⟩ := f_div K (f := f0) (by omega)
    by_cases e6 : Z 6 (48 * a + f0) = 0
    · have eB : bz (¬ Z 5 (48 * a + f0) = -1 ∧ ¬ Z 6 (48 * a + f0) = 0) = 0 := bz_0.mpr (fun z => z.2 e6)
      have eS : (0 : Int) = if Z 6 (48 * a + f0) = 0 then 0 else 32 := by rw [if_pos e6]
      refine AW.iload dL_isStep_127 rfl ?_
      refine AW.if_neT (tgt := 320) dL_isStep_129 rfl (by omega) ?_
      refine AW.iload dL_isStep_320 rfl ?_
      refine AW.iconst dL_isStep_322 (by decide) ?_
      refine AW.icmp_neT (tgt := 478) dL_isStep_323 rfl (by omega) ?_
      refine AW.iload dL_isStep_478 rfl ?_
      refine AW.if_ltF (tgt := 500) dL_isStep_480 rfl (by omega) ?_
      refine AW.aload_n dL_isStep_483 rfl ?_
      refine AW.aload dL_isStep_484 rfl ?_
      refine AW.iconst dL_isStep_486 (by decide) ?_
      refine AW.aldIE dL_isStep_487 J.T.a4 (by omega) (by omega) (by exact V.s.g0.trans hv) ?_
      refine AW.iload dL_isStep_488 rfl ?_
      refine AW.callS (as := [vq _, vi _, vi _]) dL_isStep_490 rfl rfl rfl okL_isNeeded lkL_103 rfl rfl rfl (leb (by omega)) (leb (by omega)) rfl (kL_isNd J.T V.s K (v := a) (f := f0) (by omega) (by omega) (AW.k1 ?_))
      refine AW.top (y := 0) eB ?_
      refine AW.if_eqT (tgt := 500) dL_isStep_493 rfl (by decide) ?_
      refine AW.iconst dL_isStep_500 (by decide) ?_
      refine AW.istore dL_isStep_501 rfl ?_
      refine AW.iload dL_isStep_503 rfl ?_
      refine AW.iconst dL_isStep_505 (by decide) ?_
      refine AW.icmp_neT (tgt := 644) dL_isStep_506 rfl (by omega) ?_
      refine AW.iload dL_isStep_644 rfl ?_
      refine AW.iconst dL_isStep_646 (by decide) ?_
      refine AW.icmp_neF (tgt := 912) dL_isStep_647 rfl (by omega) ?_
      refine AW.iload dL_isStep_650 rfl ?_
      refine AW.pcs (pc2 := 652) rfl ?_
      refine AW.bipush dL_isStep_652 bp_7 (by decide) ?_
      refine AW.idiv dL_isStep_654 (by omega) ?_
      refine AW.bipush dL_isStep_655 bp_40 (by decide) ?_
      refine AW.irem dL_isStep_657 (by omega) ?_
      refine AW.if_neF (tgt := 666) dL_isStep_658 rfl (by exact e40) ?_
      refine AW.bipush dL_isStep_661 bp_101 (by decide) ?_
      refine AW.goto (tgt := 676) dL_isStep_663 rfl ?_
      refine AW.istore dL_isStep_676 rfl ?_
      refine AW.aload_n dL_isStep_678 rfl ?_
      refine AW.aload dL_isStep_679 rfl ?_
      refine AW.aload dL_isStep_681 rfl ?_
      refine AW.iconst dL_isStep_683 (by decide) ?_
      refine AW.aldIE dL_isStep_684 J.T.a4 (by omega) (by omega) (by exact V.s.g0.trans hv) ?_
      refine AW.iload dL_isStep_685 rfl ?_
      refine AW.callS (as := [vq _, vq _, vi _, vi _]) dL_isStep_687 rfl rfl rfl okL_find lkL_123 rfl rfl rfl (leb (by omega)) (leb (by omega)) rfl (kL_find J.T V.s K (a := a) (by omega) (by omega) (AW.k1 ?_))
      refine AW.top elt' ?_
      refine AW.istore dL_isStep_690 rfl ?_
      exact AW.locs (lsp 3 0 101 lt one two three nm ot th (f0 : Int) se) ⟨rfl, rfl, rfl, rfl, rfl, rfl, rfl, rfl, rfl, rfl, rfl, rfl, rfl, rfl, rfl, rfl, rfl, trivial⟩ (is_spl1 J V hv ha h8 hnm hot hth (by omega) efi ese elt (fun _ => by rw [Int.toNat_natCast]; rw [if_pos e6]) k)
    · have eB : bz (¬ Z 5 (48 * a + f0) = -1 ∧ ¬ Z 6 (48 * a + f0) = 0) = 1 := bz_1.mpr ⟨hp, e6⟩
      have eS : (32 : Int) = if Z 6 (48 * a + f0) = 0 then 0 else 32 := by rw [if_neg e6]
      refine AW.iload dL_isStep_127 rfl ?_
      refine AW.if_neT (tgt := 320) dL_isStep_129 rfl (by omega) ?_
      refine AW.iload dL_isStep_320 rfl ?_
      refine AW.iconst dL_isStep_322 (by decide) ?_
      refine AW.icmp_neT (tgt := 478) dL_isStep_323 rfl (by omega) ?_
      refine AW.iload dL_isStep_478 rfl ?_
      refine AW.if_ltF (tgt := 500) dL_isStep_480 rfl (by omega) ?_
      refine AW.aload_n dL_isStep_483 rfl ?_
      refine AW.aload dL_isStep_484 rfl ?_
      refine AW.iconst dL_isStep_486 (by decide) ?_
      refine AW.aldIE dL_isStep_487 J.T.a4 (by omega) (by omega) (by exact V.s.g0.trans hv) ?_
      refine AW.iload dL_isStep_488 rfl ?_
      refine AW.callS (as := [vq _, vi _, vi _]) dL_isStep_490 rfl rfl rfl okL_isNeeded lkL_103 rfl rfl rfl (leb (by omega)) (leb (by omega)) rfl (kL_isNd J.T V.s K (v := a) (f := f0) (by omega) (by omega) (AW.k1 ?_))
      refine AW.top (y := 1) eB ?_
      refine AW.if_eqF (tgt := 500) dL_isStep_493 rfl (by decide) ?_
      refine AW.iconst dL_isStep_496 (by decide) ?_
      refine AW.goto (tgt := 501) dL_isStep_497 rfl ?_
      refine AW.istore dL_isStep_501 rfl ?_
      refine AW.iload dL_isStep_503 rfl ?_
      refine AW.iconst dL_isStep_505 (by decide) ?_
      refine AW.icmp_neT (tgt := 644) dL_isStep_506 rfl (by omega) ?_
      refine AW.iload dL_isStep_644 rfl ?_
      refine AW.iconst dL_isStep_646 (by decide) ?_
      refine AW.icmp_neF (tgt := 912) dL_isStep_647 rfl (by omega) ?_
      refine AW.pcs (pc2 := 650) rfl ?_
      refine AW.iload dL_isStep_650 rfl ?_
      refine AW.bipush dL_isStep_652 bp_7 (by decide) ?_
      refine AW.idiv dL_isStep_654 (by omega) ?_
      refine AW.bipush dL_isStep_655 bp_40 (by decide) ?_
      refine AW.irem dL_isStep_657 (by omega) ?_
      refine AW.if_neF (tgt := 666) dL_isStep_658 rfl (by exact e40) ?_
      refine AW.bipush dL_isStep_661 bp_101 (by decide) ?_
      refine AW.goto (tgt := 676) dL_isStep_663 rfl ?_
      refine AW.istore dL_isStep_676 rfl ?_
      refine AW.aload_n dL_isStep_678 rfl ?_
      refine AW.aload dL_isStep_679 rfl ?_
      refine AW.aload dL_isStep_681 rfl ?_
      refine AW.iconst dL_isStep_683 (by decide) ?_
      refine AW.aldIE dL_isStep_684 J.T.a4 (by omega) (by omega) (by exact V.s.g0.trans hv) ?_
      refine AW.iload dL_isStep_685 rfl ?_
      refine AW.callS (as := [vq _, vq _, vi _, vi _]) dL_isStep_687 rfl rfl rfl okL_find lkL_123 rfl rfl rfl (leb (by omega)) (leb (by omega)) rfl (kL_find J.T V.s K (a := a) (by omega) (by omega) (AW.k1 ?_))
      refine AW.top elt' ?_
      refine AW.istore dL_isStep_690 rfl ?_
      exact AW.locs (lsp 3 1 101 lt one two three nm ot th (f0 : Int) se) ⟨rfl, rfl, rfl, rfl, rfl, rfl, rfl, rfl, rfl, rfl, rfl, rfl, rfl, rfl, rfl, rfl, rfl, trivial⟩ (is_spl1 J V hv ha h8 hnm hot hth (by omega) efi ese elt (fun _ => by rw [Int.toNat_natCast]; rw [if_neg e6]) k)
  · by_cases hf : fi = -1
    · refine AW.iload dL_isStep_127 rfl ?_
      refine AW.if_neT (tgt := 320) dL_isStep_129 rfl (by omega) ?_
      refine AW.iload dL_isStep_320 rfl ?_
      refine AW.iconst dL_isStep_322 (by decide) ?_
      refine AW.icmp_neT (tgt := 478) dL_isStep_323 rfl (by omega) ?_
      refine AW.iload dL_isStep_478 rfl ?_
      refine AW.if_ltT (tgt := 500) dL_isStep_480 rfl (by omega) ?_
      refine AW.iconst dL_isStep_500 (by decide) ?_
      refine AW.istore dL_isStep_501 rfl ?_
      refine AW.iload dL_isStep_503 rfl ?_
      refine AW.iconst dL_isStep_505 (by decide) ?_
      refine AW.icmp_neT (tgt := 644) dL_isStep_506 rfl (by omega) ?_
      refine AW.iload dL_isStep_644 rfl ?_
      refine AW.iconst dL_isStep_646 (by decide) ?_
      refine AW.icmp_neF (tgt := 912) dL_isStep_647 rfl (by omega) ?_
      refine AW.iload dL_isStep_650 rfl ?_
      refine AW.bipush dL_isStep_652 bp_7 (by decide) ?_
      refine AW.idiv dL_isStep_654 (by omega) ?_
      refine AW.bipush dL_isStep_655 bp_40 (by decide) ?_
      refine AW.irem dL_isStep_657 (by omega) ?_
      refine AW.if_neT (tgt := 666) dL_isStep_658 rfl (by exact e40) ?_
      refine AW.iconst dL_isStep_666 (by decide) ?_
      refine AW.iload dL_isStep_667 rfl ?_
      refine AW.pcs (pc2 := 669) rfl ?_
      refine AW.bipush dL_isStep_669 bp_7 (by decide) ?_
      refine AW.idiv dL_isStep_671 (by omega) ?_
      refine AW.bipush dL_isStep_672 bp_30 (by decide) ?_
      refine AW.irem dL_isStep_674 (by omega) ?_
      refine AW.iaddB dL_isStep_675 (by omega) ?_
      refine AW.istore dL_isStep_676 rfl ?_
      refine AW.aload_n dL_isStep_678 rfl ?_
      refine AW.aload dL_isStep_679 rfl ?_
      refine AW.aload dL_isStep_681 rfl ?_
      refine AW.iconst dL_isStep_683 (by decide) ?_
      refine AW.aldIE dL_isStep_684 J.T.a4 (by omega) (by omega) (by exact V.s.g0.trans hv) ?_
      refine AW.iload dL_isStep_685 rfl ?_
      refine AW.callS (as := [vq _, vq _, vi _, vi _]) dL_isStep_687 rfl rfl rfl okL_find lkL_123 rfl rfl rfl (leb (by omega)) (leb (by omega)) rfl (kL_find J.T V.s K (a := a) (by omega) (by omega) (AW.k1 ?_))
      refine AW.top elt' ?_
      refine AW.istore dL_isStep_690 rfl ?_
      exact AW.locs (lsp 3 0 (2 + (three.tdiv 7).tmod 30) lt one two three nm ot th fi se) ⟨rfl, rfl, rfl, rfl, rfl, rfl, rfl, rfl, rfl, rfl, rfl, rfl, rfl, rfl, rfl, rfl, rfl, trivial⟩ (is_spl1 J V hv ha h8 hnm hot hth (by omega) efi ese elt (fun z => absurd hf z) k)
    have hf' : ¬ zfind Z 0 (Z 1 0) nm = -1 := by rw [efi]; exact hf
    obtain ⟨f0, e0⟩ := Int.eq_ofNat_of_zero_le (show 0 ≤ fi by omega)
    subst e0
    have hp : ¬ Z 5 (48 * a + f0) = -1 := by
      have q := zf_x (Z := Z) (a := a) (n := nm) (by rw [← hv]; exact hf')
      rw [← hv, efi, Int.toNat_natCast] at q
      omega
    have hn25 : nm ≤ 25 := (zf_x (Z := Z) (a := a) (n := nm) (by rw [← hv]; exact hf')).2.2
    have kd0 := K.kd (f := f0) (by omega)
    obtain ⟨fd1, fd2⟩ := f_div K (f := f0) (by omega)
    by_cases e6 : Z 6 (48 * a + f0) = 0
    · have eB : bz (¬ Z 5 (48 * a + f0) = -1 ∧ ¬ Z 6 (48 * a + f0) = 0) = 0 := bz_0.mpr (fun z => z.2 e6)
      have eS : (0 : Int) = if Z 6 (48 * a + f0) = 0 then 0 else 32 := by rw [if_pos e6]
      refine AW.iload dL_isStep_127 rfl ?_
      refine AW.if_neT (tgt := 320) dL_isStep_129 rfl (by omega) ?_
      refine AW.iload dL_isStep_320 rfl ?_
      refine AW.iconst dL_isStep_322 (by decide) ?_
      refine AW.icmp_neT (tgt := 478) dL_isStep_323 rfl (by omega) ?_
      refine AW.iload dL_isStep_478 rfl ?_
      refine AW.if_ltF (tgt := 500) dL_isStep_480 rfl (by omega) ?_
      refine AW.aload_n dL_isStep_483 rfl ?_
      refine AW.aload dL_isStep_484 rfl ?_
      refine AW.iconst dL_isStep_486 (by decide) ?_
      refine AW.aldIE dL_isStep_487 J.T.a4 (by omega) (by omega) (by exact V.s.g0.trans hv) ?_
      refine AW.iload dL_isStep_488 rfl ?_
      refine AW.callS (as := [vq _, vi _, vi _]) dL_isStep_490 rfl rfl rfl okL_isNeeded lkL_103 rfl rfl rfl (leb (by omega)) (leb (by omega)) rfl (kL_isNd J.T V.s K (v := a) (f := f0) (by omega) (by omega) (AW.k1 ?_))
      refine AW.top (y := 0) eB ?_
      refine AW.if_eqT (tgt := 500) dL_isStep_493 rfl (by decide) ?_
      refine AW.iconst dL_isStep_500 (by decide) ?_
      refine AW.istore dL_isStep_501 rfl ?_
      refine AW.iload dL_isStep_503 rfl ?_
      refine AW.iconst dL_isStep_505 (by decide) ?_
      refine AW.icmp_neT (tgt := 644) dL_isStep_506 rfl (by omega) ?_
      refine AW.iload dL_isStep_644 rfl ?_
      refine AW.iconst dL_isStep_646 (by decide) ?_
      refine AW.icmp_neF (tgt := 912) dL_isStep_647 rfl (by omega) ?_
      refine AW.iload dL_isStep_650 rfl ?_
      refine AW.pcs (pc2 := 652) rfl ?_
      refine AW.bipush dL_isStep_652 bp_7 (by decide) ?_
      refine AW.idiv dL_isStep_654 (by omega) ?_
      refine AW.bipush dL_isStep_655 bp_40 (by decide) ?_
      refine AW.irem dL_isStep_657 (by omega) ?_
      refine AW.if_neT (tgt := 666) dL_isStep_658 rfl (by exact e40) ?_
      refine AW.iconst dL_isStep_666 (by decide) ?_
      refine AW.iload dL_isStep_667 rfl ?_
      refine AW.bipush dL_isStep_669 bp_7 (by decide) ?_
      refine AW.idiv dL_isStep_671 (by omega) ?_
      refine AW.bipush dL_isStep_672 bp_30 (by decide) ?_
      refine AW.irem dL_isStep_674 (by omega) ?_
      refine AW.iaddB dL_isStep_675 (by omega) ?_
      refine AW.istore dL_isStep_676 rfl ?_
      refine AW.aload_n dL_isStep_678 rfl ?_
      refine AW.aload dL_isStep_679 rfl ?_
      refine AW.aload dL_isStep_681 rfl ?_
      refine AW.iconst dL_isStep_683 (by decide) ?_
      refine AW.aldIE dL_isStep_684 J.T.a4 (by omega) (by omega) (by exact V.s.g0.trans hv) ?_
      refine AW.iload dL_isStep_685 rfl ?_
      refine AW.callS (as := [vq _, vq _, vi _, vi _]) dL_isStep_687 rfl rfl rfl okL_find lkL_123 rfl rfl rfl (leb (by omega)) (leb (by omega)) rfl (kL_find J.T V.s K (a := a) (by omega) (by omega) (AW.k1 ?_))
      refine AW.top elt' ?_
      refine AW.istore dL_isStep_690 rfl ?_
      exact AW.locs (lsp 3 0 (2 + (three.tdiv 7).tmod 30) lt one two three nm ot th (f0 : Int) se) ⟨rfl, rfl, rfl, rfl, rfl, rfl, rfl, rfl, rfl, rfl, rfl, rfl, rfl, rfl, rfl, rfl, rfl, trivial⟩ (is_spl1 J V hv ha h8 hnm hot hth (by omega) efi ese elt (fun _ => by rw [Int.toNat_natCast]; rw [if_pos e6]) k)
    · have eB : bz (¬ Z 5 (48 * a + f0) = -1 ∧ ¬ Z 6 (48 * a + f0) = 0) = 1 := bz_1.mpr ⟨hp, e6⟩
      have eS : (32 : Int) = if Z 6 (48 * a + f0) = 0 then 0 else 32 := by rw [if_neg e6]
      refine AW.iload dL_isStep_127 rfl ?_
      refine AW.if_neT (tgt := 320) dL_isStep_129 rfl (by omega) ?_
      refine AW.iload dL_isStep_320 rfl ?_
      refine AW.iconst dL_isStep_322 (by decide) ?_
      refine AW.icmp_neT (tgt := 478) dL_isStep_323 rfl (by omega) ?_
      refine AW.iload dL_isStep_478 rfl ?_
      refine AW.if_ltF (tgt := 500) dL_isStep_480 rfl (by omega) ?_
      refine AW.aload_n dL_isStep_483 rfl ?_
      refine AW.aload dL_isStep_484 rfl ?_
      refine AW.iconst dL_isStep_486 (by decide) ?_
      refine AW.aldIE dL_isStep_487 J.T.a4 (by omega) (by omega) (by exact V.s.g0.trans hv) ?_
      refine AW.iload dL_isStep_488 rfl ?_
      refine AW.callS (as := [vq _, vi _, vi _]) dL_isStep_490 rfl rfl rfl okL_isNeeded lkL_103 rfl rfl rfl (leb (by omega)) (leb (by omega)) rfl (kL_isNd J.T V.s K (v := a) (f := f0) (by omega) (by omega) (AW.k1 ?_))
      refine AW.top (y := 1) eB ?_
      refine AW.if_eqF (tgt := 500) dL_isStep_493 rfl (by decide) ?_
      refine AW.iconst dL_isStep_496 (by decide) ?_
      refine AW.goto (tgt := 501) dL_isStep_497 rfl ?_
      refine AW.istore dL_isStep_501 rfl ?_
      refine AW.iload dL_isStep_503 rfl ?_
      refine AW.iconst dL_isStep_505 (by decide) ?_
      refine AW.icmp_neT (tgt := 644) dL_isStep_506 rfl (by omega) ?_
      refine AW.iload dL_isStep_644 rfl ?_
      refine AW.iconst dL_isStep_646 (by decide) ?_
      refine AW.icmp_neF (tgt := 912) dL_isStep_647 rfl (by omega) ?_
      refine AW.pcs (pc2 := 650) rfl ?_
      refine AW.iload dL_isStep_650 rfl ?_
      refine AW.bipush dL_isStep_652 bp_7 (by decide) ?_
      refine AW.idiv dL_isStep_654 (by omega) ?_
      refine AW.bipush dL_isStep_655 bp_40 (by decide) ?_
      refine AW.irem dL_isStep_657 (by omega) ?_
      refine AW.if_neT (tgt := 666) dL_isStep_658 rfl (by exact e40) ?_
      refine AW.iconst dL_isStep_666 (by decide) ?_
      refine AW.iload dL_isStep_667 rfl ?_
      refine AW.bipush dL_isStep_669 bp_7 (by decide) ?_
      refine AW.idiv dL_isStep_671 (by omega) ?_
      refine AW.bipush dL_isStep_672 bp_30 (by decide) ?_
      refine AW.irem dL_isStep_674 (by omega) ?_
      refine AW.iaddB dL_isStep_675 (by omega) ?_
      refine AW.istore dL_isStep_676 rfl ?_
      refine AW.aload_n dL_isStep_678 rfl ?_
      refine AW.aload dL_isStep_679 rfl ?_
      refine AW.aload dL_isStep_681 rfl ?_
      refine AW.iconst dL_isStep_683 (by decide) ?_
      refine AW.aldIE dL_isStep_684 J.T.a4 (by omega) (by omega) (by exact V.s.g0.trans hv) ?_
      refine AW.iload dL_isStep_685 rfl ?_
      refine AW.callS (as := [vq _, vq _, vi _, vi _]) dL_isStep_687 rfl rfl rfl okL_find lkL_123 rfl rfl rfl (leb (by omega)) (leb (by omega)) rfl (kL_find J.T V.s K (a := a) (by omega) (by omega) (AW.k1 ?_))
      refine AW.top elt' ?_
      refine AW.istore dL_isStep_690 rfl ?_
      exact AW.locs (lsp 3 1 (2 + (three.tdiv 7).tmod 30) lt one two three nm ot th (f0 : Int) se) ⟨rfl, rfl, rfl, rfl, rfl, rfl, rfl, rfl, rfl, rfl, rfl, rfl, rfl, rfl, rfl, rfl, rfl, trivial⟩ (is_spl1 J V hv ha h8 hnm hot hth (by omega) efi ese elt (fun _ => by rw [Int.toNat_natCast]; rw [if_neg e6]) k)
end D6
