/-! ===== the law's steps: join ===== -/
section D7
variable {Q : AH → AO → Prop} {h g h1 : AH} {Z : ZT} {c b L a m f0 f1 mc ms bc bs : Nat} {D K : Nat → Int} {W : Int}
abbrev rgj (th dv fi se : Int) : Prop := th < 26 ∧ ¬ fi = se ∧ 1 < dv
set_option maxHeartbeats 2000000 in
theorem is_joiR {x nd dv lt one two three nm ot th fi se : Int} (kR : rgj th dv fi se → AW mL_isStep fL_isStep loL_isStep mc ms Q bc bs 1003 h ((18, vi 1) :: (17, vi x) :: lsp 4 nd dv lt one two three nm ot th fi se) []) (kN : ¬ rgj th dv fi se → AW mL_isStep fL_isStep loL_isStep mc ms Q bc bs 1003 h ((18, vi 0) :: (17, vi x) :: lsp 4 nd dv lt one two three nm ot th fi se) []) : AW mL_isStep fL_isStep loL_isStep mc ms Q bc bs 976 h ((17, vi x) :: lsp 4 nd dv lt one two three nm ot th fi se) [] := by
  by_cases r1 : th < 26
  · by_cases r2 : fi = se
    · refine AW.iload dL_isStep_976 rfl ?_
      refine AW.bipush dL_isStep_978 bp_26 (by decide) ?_
      refine AW.icmp_geF (tgt := 1000) dL_isStep_980 rfl (by omega) ?_
      refine AW.iload dL_isStep_983 rfl ?_
      refine AW.iload dL_isStep_985 rfl ?_
      refine AW.icmp_eqT (tgt := 1000) dL_isStep_987 rfl (by omega) ?_
      refine AW.iconst dL_isStep_1000 (by decide) ?_
      refine AW.istore dL_isStep_1001 rfl ?_
      exact AW.locs ((18, vi 0) :: (17, vi x) :: lsp 4 nd dv lt one two three nm ot th fi se) ⟨rfl, rfl, rfl, rfl, rfl, rfl, rfl, rfl, rfl, rfl, rfl, rfl, rfl, rfl, rfl, rfl, rfl, rfl, rfl, trivial⟩ (kN (fun z => z.2.1 r2))
    · by_cases r3 : 1 < dv
      · refine AW.iload dL_isStep_976 rfl ?_
        refine AW.bipush dL_isStep_978 bp_26 (by decide) ?_
        refine AW.icmp_geF (tgt := 1000) dL_isStep_980 rfl (by omega) ?_
        refine AW.iload dL_isStep_983 rfl ?_
        refine AW.iload dL_isStep_985 rfl ?_
        refine AW.icmp_eqF (tgt := 1000) dL_isStep_987 rfl (by omega) ?_
        refine AW.iload dL_isStep_990 rfl ?_
        refine AW.iconst dL_isStep_992 (by decide) ?_
        refine AW.icmp_leF (tgt := 1000) dL_isStep_993 rfl (by omega) ?_
        refine AW.iconst dL_isStep_996 (by decide) ?_
        refine AW.goto (tgt := 1001) dL_isStep_997 rfl ?_
        refine AW.istore dL_isStep_1001 rfl ?_
        exact AW.locs ((18, vi 1) :: (17, vi x) :: lsp 4 nd dv lt one two three nm ot th fi se) ⟨rfl, rfl, rfl, rfl, rfl, rfl, rfl, rfl, rfl, rfl, rfl, rfl, rfl, rfl, rfl, rfl, rfl, rfl, rfl, trivial⟩ (kR ⟨r1, r2, r3⟩)
      · refine AW.iload dL_isStep_976 rfl ?_
        refine AW.bipush dL_isStep_978 bp_26 (by decide) ?_
        refine AW.icmp_geF (tgt := 1000) dL_isStep_980 rfl (by omega) ?_
        refine AW.iload dL_isStep_983 rfl ?_
        refine AW.iload dL_isStep_985 rfl ?_
        refine AW.icmp_eqF (tgt := 1000) dL_isStep_987 rfl (by omega) ?_
        refine AW.iload dL_isStep_990 rfl ?_
        refine AW.iconst dL_isStep_992 (by decide) ?_
        refine AW.icmp_leT (tgt := 1000) dL_isStep_993 rfl (by omega) ?_
        refine AW.iconst dL_isStep_1000 (by decide) ?_
        refine AW.istore dL_isStep_1001 rfl ?_
        exact AW.locs ((18, vi 0) :: (17, vi x) :: lsp 4 nd dv lt one two three nm ot th fi se) ⟨rfl, rfl, rfl, rfl, rfl, rfl, rfl, rfl, rfl, rfl, rfl, rfl, rfl, rfl, rfl, rfl, rfl, rfl, rfl, trivial⟩ (kN (fun z => r3 z.2.2))
  · refine AW.iload dL_isStep_976 rfl ?_
    refine AW.bipush dL_isStep_978 bp_26 (by decide) ?_
    refine AW.icmp_geT (tgt := 1000) dL_isStep_980 rfl (by omega) ?_
    refine AW.iconst dL_isStep_1000 (by decide) ?_
    refine AW.istore dL_isStep_1001 rfl ?_
    exact AW.locs ((18, vi 0) :: (17, vi x) :: lsp 4 nd dv lt one two three nm ot th fi se) ⟨rfl, rfl, rfl, rfl, rfl, rfl, rfl, rfl, rfl, rfl, rfl, rfl, rfl, rfl, rfl, rfl, rfl, rfl, rfl, trivial⟩ (kN (fun z => r1 z.1))
abbrev cnj (Z : ZT) (f0 f1 : Nat) (lt : Int) : Prop := (Z 3 f0 = 0 ∧ Z 3 f1 = 0) ∧ (lt < 0 ∨ lt = (f0 : Int) ∨ lt = (f1 : Int))
set_option maxHeartbeats 2000000 in
theorem is_joiC {nd dv lt one two three nm ot th : Int} (T : LT h) (S : LSc h Z) (K : QS Z) (hf : (f0 : Int) < Z 2 0) (hf1 : (f1 : Int) < Z 2 0) (kC : cnj Z f0 f1 lt → AW mL_isStep fL_isStep loL_isStep mc ms Q bc bs 1055 h ((19, vi 1) :: (18, vi 1) :: (17, vi 1) :: lsp 4 nd dv lt one two three nm ot th (f0 : Int) (f1 : Int)) [])
    (kN : ¬ cnj Z f0 f1 lt → AW mL_isStep fL_isStep loL_isStep mc ms Q bc bs 1055 h ((19, vi 0) :: (18, vi 1) :: (17, vi 1) :: lsp 4 nd dv lt one two three nm ot th (f0 : Int) (f1 : Int)) []) : AW mL_isStep fL_isStep loL_isStep mc ms Q bc bs 1003 h ((18, vi 1) :: (17, vi 1) :: lsp 4 nd dv lt one two three nm ot th (f0 : Int) (f1 : Int)) [] := by
  have b2 := K.b2
  have kd0 := K.kd (f := f0) hf
  obtain ⟨fd1, fd2⟩ := f_div K (f := f0) hf
  have kd1 := K.kd (f := f1) hf1
  obtain ⟨gd1, gd2⟩ := f_div K (f := f1) hf1
  by_cases c1 : Z 3 f0 = 0 ∧ Z 3 f1 = 0
  · by_cases l1 : lt < 0
    · refine AW.iload dL_isStep_1003 rfl ?_
      refine AW.if_eqF (tgt := 1052) dL_isStep_1005 rfl (by omega) ?_
      refine AW.iload dL_isStep_1008 rfl ?_
      refine AW.if_eqF (tgt := 1052) dL_isStep_1010 rfl (by omega) ?_
      refine AW.aload_n dL_isStep_1013 rfl ?_
      refine AW.iload dL_isStep_1014 rfl ?_
      refine AW.aldIE dL_isStep_1016 T.a3 (by omega) (by omega) (by exact S.f (f := f0) hf) ?_
      refine AW.iconst dL_isStep_1017 (by decide) ?_
      refine AW.irem dL_isStep_1018 (by omega) ?_
      refine AW.top fd2 ?_
      refine AW.aload_n dL_isStep_1019 rfl ?_
      refine AW.iload dL_isStep_1020 rfl ?_
      refine AW.aldIE dL_isStep_1022 T.a3 (by omega) (by omega) (by exact S.f (f := f1) hf1) ?_
      refine AW.iconst dL_isStep_1023 (by decide) ?_
      refine AW.irem dL_isStep_1024 (by omega) ?_
      refine AW.top gd2 ?_
      refine AW.iaddB dL_isStep_1025 (by omega) ?_
      refine AW.if_neF (tgt := 1052) dL_isStep_1026 rfl (by omega) ?_
      refine AW.iload dL_isStep_1029 rfl ?_
      refine AW.if_ltT (tgt := 1048) dL_isStep_1031 rfl (by omega) ?_
      refine AW.iconst dL_isStep_1048 (by decide) ?_
      refine AW.goto (tgt := 1053) dL_isStep_1049 rfl ?_
      refine AW.istore dL_isStep_1053 rfl ?_
      exact AW.locs ((19, vi 1) :: (18, vi 1) :: (17, vi 1) :: lsp 4 nd dv lt one two three nm ot th (f0 : Int) (f1 : Int)) ⟨rfl, rfl, rfl, rfl, rfl, rfl, rfl, rfl, rfl, rfl, rfl, rfl, rfl, rfl, rfl, rfl, rfl, rfl, rfl, rfl, trivial⟩ (kC ⟨c1, Or.inl l1⟩)
    · by_cases l2 : lt = (f0 : Int)
      · refine AW.iload dL_isStep_1003 rfl ?_
        refine AW.if_eqF (tgt := 1052) dL_isStep_1005 rfl (by omega) ?_
        refine AW.iload dL_isStep_1008 rfl ?_
        refine AW.if_eqF (tgt := 1052) dL_isStep_1010 rfl (by omega) ?_
        refine AW.aload_n dL_isStep_1013 rfl ?_
        refine AW.iload dL_isStep_1014 rfl ?_
        refine AW.aldIE dL_isStep_1016 T.a3 (by omega) (by omega) (by exact S.f (f := f0) hf) ?_
        refine AW.iconst dL_isStep_1017 (by decide) ?_
        refine AW.irem dL_isStep_1018 (by omega) ?_
        refine AW.top fd2 ?_
        refine AW.aload_n dL_isStep_1019 rfl ?_
        refine AW.iload dL_isStep_1020 rfl ?_
        refine AW.aldIE dL_isStep_1022 T.a3 (by omega) (by omega) (by exact S.f (f := f1) hf1) ?_
        refine AW.iconst dL_isStep_1023 (by decide) ?_
        refine AW.irem dL_isStep_1024 (by omega) ?_
        refine AW.top gd2 ?_
        refine AW.iaddB dL_isStep_1025 (by omega) ?_
        refine AW.if_neF (tgt := 1052) dL_isStep_1026 rfl (by omega) ?_
        refine AW.iload dL_isStep_1029 rfl ?_
        refine AW.if_ltF (tgt := 1048) dL_isStep_1031 rfl (by omega) ?_
        refine AW.iload dL_isStep_1034 rfl ?_
        refine AW.iload dL_isStep_1036 rfl ?_
        refine AW.icmp_eqT (tgt := 1048) dL_isStep_1038 rfl (by omega) ?_
        refine AW.iconst dL_isStep_1048 (by decide) ?_
        refine AW.goto (tgt := 1053) dL_isStep_1049 rfl ?_
        refine AW.pcs (pc2 := 1053) rfl ?_
        refine AW.istore dL_isStep_1053 rfl ?_
        exact AW.locs ((19, vi 1) :: (18, vi 1) :: (17, vi 1) :: lsp 4 nd dv lt one two three nm ot th (f0 : Int) (f1 : Int)) ⟨rfl, rfl, rfl, rfl, rfl, rfl, rfl, rfl, rfl, rfl, rfl, rfl, rfl, rfl, rfl, rfl, rfl, rfl, rfl, rfl, trivial⟩ (kC ⟨c1, Or.inr (Or.inl l2)⟩)
      · by_cases l3 : lt = (f1 : Int)
        · refine AW.iload dL_isStep_1003 rfl ?_
          refine AW.if_eqF (tgt := 1052) dL_isStep_1005 rfl (by omega) ?_
          refine AW.iload dL_isStep_1008 rfl ?_
          refine AW.if_eqF (tgt := 1052) dL_isStep_1010 rfl (by omega) ?_
          refine AW.aload_n dL_isStep_1013 rfl ?_
          refine AW.iload dL_isStep_1014 rfl ?_
          refine AW.aldIE dL_isStep_1016 T.a3 (by omega) (by omega) (by exact S.f (f := f0) hf) ?_
          refine AW.iconst dL_isStep_1017 (by decide) ?_
          refine AW.irem dL_isStep_1018 (by omega) ?_
          refine AW.top fd2 ?_
          refine AW.aload_n dL_isStep_1019 rfl ?_
          refine AW.iload dL_isStep_1020 rfl ?_
          refine AW.aldIE dL_isStep_1022 T.a3 (by omega) (by omega) (by exact S.f (f := f1) hf1) ?_
          refine AW.iconst dL_isStep_1023 (by decide) ?_
          refine AW.irem dL_isStep_1024 (by omega) ?_
          refine AW.top gd2 ?_
          refine AW.iaddB dL_isStep_1025 (by omega) ?_
          refine AW.if_neF (tgt := 1052) dL_isStep_1026 rfl (by omega) ?_
          refine AW.iload dL_isStep_1029 rfl ?_
          refine AW.if_ltF (tgt := 1048) dL_isStep_1031 rfl (by omega) ?_
          refine AW.iload dL_isStep_1034 rfl ?_
          refine AW.iload dL_isStep_1036 rfl ?_
          refine AW.icmp_eqF (tgt := 1048) dL_isStep_1038 rfl (by omega) ?_
          refine AW.iload dL_isStep_1041 rfl ?_
          refine AW.iload dL_isStep_1043 rfl ?_
          refine AW.pcs (pc2 := 1045) rfl ?_
          refine AW.icmp_neF (tgt := 1052) dL_isStep_1045 rfl (by omega) ?_
          refine AW.iconst dL_isStep_1048 (by decide) ?_
          refine AW.goto (tgt := 1053) dL_isStep_1049 rfl ?_
          refine AW.istore dL_isStep_1053 rfl ?_
          exact AW.locs ((19, vi 1) :: (18, vi 1) :: (17, vi 1) :: lsp 4 nd dv lt one two three nm ot th (f0 : Int) (f1 : Int)) ⟨rfl, rfl, rfl, rfl, rfl, rfl, rfl, rfl, rfl, rfl, rfl, rfl, rfl, rfl, rfl, rfl, rfl, rfl, rfl, rfl, trivial⟩ (kC ⟨c1, Or.inr (Or.inr l3)⟩)
        · refine AW.iload dL_isStep_1003 rfl ?_
          refine AW.if_eqF (tgt := 1052) dL_isStep_1005 rfl (by omega) ?_
          refine AW.iload dL_isStep_1008 rfl ?_
          refine AW.if_eqF (tgt := 1052) dL_isStep_1010 rfl (by omega) ?_
          refine AW.aload_n dL_isStep_1013 rfl ?_
          refine AW.iload dL_isStep_1014 rfl ?_
          refine AW.aldIE dL_isStep_1016 T.a3 (by omega) (by omega) (by exact S.f (f := f0) hf) ?_
          refine AW.iconst dL_isStep_1017 (by decide) ?_
          refine AW.irem dL_isStep_1018 (by omega) ?_
          refine AW.top fd2 ?_
          refine AW.aload_n dL_isStep_1019 rfl ?_
          refine AW.iload dL_isStep_1020 rfl ?_
          refine AW.aldIE dL_isStep_1022 T.a3 (by omega) (by omega) (by exact S.f (f := f1) hf1) ?_
          refine AW.iconst dL_isStep_1023 (by decide) ?_
          refine AW.irem dL_isStep_1024 (by omega) ?_
          refine AW.top gd2 ?_
          refine AW.iaddB dL_isStep_1025 (by omega) ?_
          refine AW.if_neF (tgt := 1052) dL_isStep_1026 rfl (by omega) ?_
          refine AW.iload dL_isStep_1029 rfl ?_
          refine AW.if_ltF (tgt := 1048) dL_isStep_1031 rfl (by omega) ?_
          refine AW.iload dL_isStep_1034 rfl ?_
          refine AW.iload dL_isStep_1036 rfl ?_
          refine AW.icmp_eqF (tgt := 1048) dL_isStep_1038 rfl (by omega) ?_
          refine AW.iload dL_isStep_1041 rfl ?_
          refine AW.iload dL_isStep_1043 rfl ?_
          refine AW.pcs (pc2 := 1045) rfl ?_
          refine AW.icmp_neT (tgt := 1052) dL_isStep_1045 rfl (by omega) ?_
          refine AW.iconst dL_isStep_1052 (by decide) ?_
          refine AW.istore dL_isStep_1053 rfl ?_
          exact AW.locs ((19, vi 0) :: (18, vi 1) :: (17, vi 1) :: lsp 4 nd dv lt one two three nm ot th (f0 : Int) (f1 : Int)) ⟨rfl, rfl, rfl, rfl, rfl, rfl, rfl, rfl, rfl, rfl, rfl, rfl, rfl, rfl, rfl, rfl, rfl, rfl, rfl, rfl, trivial⟩ (kN (fun z => z.2.elim l1 (fun z => z.elim l2 l3)))
  · refine AW.iload dL_isStep_1003 rfl ?_
    refine AW.if_eqF (tgt := 1052) dL_isStep_1005 rfl (by omega) ?_
    refine AW.iload dL_isStep_1008 rfl ?_
    refine AW.if_eqF (tgt := 1052) dL_isStep_1010 rfl (by omega) ?_
    refine AW.aload_n dL_isStep_1013 rfl ?_
    refine AW.iload dL_isStep_1014 rfl ?_
    refine AW.aldIE dL_isStep_1016 T.a3 (by omega) (by omega) (by exact S.f (f := f0) hf) ?_
    refine AW.iconst dL_isStep_1017 (by decide) ?_
    refine AW.irem dL_isStep_1018 (by omega) ?_
    refine AW.top fd2 ?_
    refine AW.aload_n dL_isStep_1019 rfl ?_
    refine AW.iload dL_isStep_1020 rfl ?_
    refine AW.aldIE dL_isStep_1022 T.a3 (by omega) (by omega) (by exact S.f (f := f1) hf1) ?_
    refine AW.iconst dL_isStep_1023 (by decide) ?_
    refine AW.irem dL_isStep_1024 (by omega) ?_
    refine AW.top gd2 ?_
    refine AW.iaddB dL_isStep_1025 (by omega) ?_
    refine AW.if_neT (tgt := 1052) dL_isStep_1026 rfl (by omega) ?_
    refine AW.iconst dL_isStep_1052 (by decide) ?_
    refine AW.istore dL_isStep_1053 rfl ?_
    exact AW.locs ((19, vi 0) :: (18, vi 1) :: (17, vi 1) :: lsp 4 nd dv lt one two three nm ot th (f0 : Int) (f1 : Int)) ⟨rfl, rfl, rfl, rfl, rfl, rfl, rfl, rfl, rfl, rfl, rfl, rfl, rfl, rfl, rfl, rfl, rfl, rfl, rfl, rfl, trivial⟩ (kN (fun z => c1 z.1))
set_option maxHeartbeats 4000000 in
theorem is_joi1 {nd dv lt one two three nm ot th fi se : Int} (J : IV L h Z c b) (V : JV h Z) (hv : Z 1 0 = (a : Int)) (ha : a ≤ 9) (h8 : Z 2 0 ≤ 8) (hnm : 0 ≤ nm ∧ nm ≤ 5 ∨ nm = 26) (hot : 0 ≤ ot ∧ ot ≤ 6 ∨ ot = 26) (hth : 0 ≤ th ∧ th ≤ 6 ∨ th = 26) (hdv : 1 ≤ dv ∧ dv ≤ 100) (efi : zfind Z 0 (Z 1 0) nm = fi) (ese : zfind Z 0 (Z 1 0) ot = se) (elt : zfind Z 0 (Z 1 0) th = lt) (hN : ¬ fi = -1 → nd = if Z 6 (48 * a + fi.toNat) = 0 then 0 else 1) (k : ∀ g Y, IV L g Y c b → JV g Y → Q g (.inl (some (vi 1)))) : AW mL_isStep fL_isStep loL_isStep 10 60 Q 10 60 959 h (lsp 4 nd dv lt one two three nm ot th fi se) [] := by
  have K := J.K
  have b1 := K.b1
  have b2 := K.b2
  have zfi := zf_r K (a := Z 1 0) (n := nm)
  have zse := zf_r K (a := Z 1 0) (n := ot)
  have zlt := zf_r K (a := Z 1 0) (n := th)
  rw [efi] at zfi
  rw [ese] at zse
  rw [elt] at zlt
  obtain ⟨m, hm⟩ := Int.eq_ofNat_of_zero_le b2.1
  have hO : rgj th dv fi se ↔ ((0 ≤ th ∧ th ≤ 25) ∧ (2 ≤ dv ∧ dv ≤ 100) ∧ ¬ zfind Z 0 (Z 1 0) nm = zfind Z 0 (Z 1 0) ot) := by rw [efi, ese]; unfold rgj; omega
  by_cases hE : fi = -1 ∨ se = -1
  · have hE' : zfind Z 0 (Z 1 0) nm = -1 ∨ zfind Z 0 (Z 1 0) ot = -1 := by rw [efi, ese]; exact hE
    have e0 : AW mL_isStep fL_isStep loL_isStep 10 60 Q 10 60 976 h ((17, vi 0) :: lsp 4 nd dv lt one two three nm ot th fi se) [] := by
      refine is_joiR (fun hR => ?_) (fun hR => ?_)
      · refine AW.iload dL_isStep_1003 rfl ?_
        refine AW.if_eqT (tgt := 1052) dL_isStep_1005 rfl (by omega) ?_
        refine AW.iconst dL_isStep_1052 (by decide) ?_
        refine AW.istore dL_isStep_1053 rfl ?_
        refine AW.iload dL_isStep_1055 rfl ?_
        refine AW.if_neF (tgt := 1066) dL_isStep_1057 rfl (by omega) ?_
        refine AW.sipush dL_isStep_1060 sp_m300 (by decide) ?_
        refine AW.goto (tgt := 1091) dL_isStep_1063 rfl ?_
        refine AW.istore dL_isStep_1091 rfl ?_
        refine AW.iload dL_isStep_1093 rfl ?_
        refine AW.if_ltT (tgt := 1188) dL_isStep_1095 rfl (by omega) ?_
        refine AW.aload_n dL_isStep_1188 rfl ?_
        refine AW.iconst dL_isStep_1189 (by decide) ?_
        refine AW.iconst dL_isStep_1190 (by decide) ?_
        refine AW.iload dL_isStep_1191 rfl ?_
        refine AW.iload dL_isStep_1193 rfl ?_
        refine AW.iload dL_isStep_1195 rfl ?_
        refine AW.iload dL_isStep_1197 rfl ?_
        refine AW.callSH (as := [vq _, vi _, vi _, vi _, vi _, vi _, vi _]) dL_isStep_1199 rfl rfl rfl okL_does lkL_149 rfl rfl rfl (by omega) (by omega) rfl (q_joi J (fun _ => (AW.k1 ?_)) (fun z => absurd hE' z) (fun z => absurd hE' z) (fun z => absurd hE' z))
        refine AW.iload dL_isStep_1202 rfl ?_
        refine AW.icmp_neF (tgt := 1211) dL_isStep_1204 rfl (by rfl) ?_
        refine AW.iconst dL_isStep_1207 (by decide) ?_
        refine AW.goto (tgt := 1212) dL_isStep_1208 rfl ?_
        refine AW.pcs (pc2 := 1212) rfl ?_
        refine AW.zret dL_isStep_1212 rfl ?_ ?_
        · omega
        exact k _ _ J V
      · refine AW.iload dL_isStep_1003 rfl ?_
        refine AW.if_eqT (tgt := 1052) dL_isStep_1005 rfl (by omega) ?_
        refine AW.iconst dL_isStep_1052 (by decide) ?_
        refine AW.istore dL_isStep_1053 rfl ?_
        refine AW.iload dL_isStep_1055 rfl ?_
        refine AW.if_neF (tgt := 1066) dL_isStep_1057 rfl (by omega) ?_
        refine AW.sipush dL_isStep_1060 sp_m300 (by decide) ?_
        refine AW.goto (tgt := 1091) dL_isStep_1063 rfl ?_
        refine AW.istore dL_isStep_1091 rfl ?_
        refine AW.iload dL_isStep_1093 rfl ?_
        refine AW.if_ltT (tgt := 1188) dL_isStep_1095 rfl (by omega) ?_
        refine AW.aload_n dL_isStep_1188 rfl ?_
        refine AW.iconst dL_isStep_1189 (by decide) ?_
        refine AW.iconst dL_isStep_1190 (by decide) ?_
        refine AW.iload dL_isStep_1191 rfl ?_
        refine AW.iload dL_isStep_1193 rfl ?_
        refine AW.iload dL_isStep_1195 rfl ?_
        refine AW.iload dL_isStep_1197 rfl ?_
        refine AW.callSH (as := [vq _, vi _, vi _, vi _, vi _, vi _, vi _]) dL_isStep_1199 rfl rfl rfl okL_does lkL_149 rfl rfl rfl (by omega) (by omega) rfl (q_joi J (fun _ => (AW.k1 ?_)) (fun z => absurd hE' z) (fun z => absurd hE' z) (fun z => absurd hE' z))
        refine AW.iload dL_isStep_1202 rfl ?_
        refine AW.icmp_neF (tgt := 1211) dL_isStep_1204 rfl (by rfl) ?_
        refine AW.iconst dL_isStep_1207 (by decide) ?_
        refine AW.goto (tgt := 1212) dL_isStep_1208 rfl ?_
        refine AW.pcs (pc2 := 1212) rfl ?_
        refine AW.zret dL_isStep_1212 rfl ?_ ?_
        · omega
        exact k _ _ J V
    by_cases hf : fi = -1
    · refine AW.iload dL_isStep_959 rfl ?_
      refine AW.if_ltT (tgt := 973) dL_isStep_961 rfl (by omega) ?_
      refine AW.iconst dL_isStep_973 (by decide) ?_
      refine AW.istore dL_isStep_974 rfl ?_
      exact AW.locs ((17, vi 0) :: lsp 4 nd dv lt one two three nm ot th fi se) ⟨rfl, rfl, rfl, rfl, rfl, rfl, rfl, rfl, rfl, rfl, rfl, rfl, rfl, rfl, rfl, rfl, rfl, rfl, trivial⟩ e0
    · refine AW.iload dL_isStep_959 rfl ?_
      refine AW.if_ltF (tgt := 973) dL_isStep_961 rfl (by omega) ?_
      refine AW.iload dL_isStep_964 rfl ?_
      refine AW.if_ltT (tgt := 973) dL_isStep_966 rfl (by omega) ?_
      refine AW.iconst dL_isStep_973 (by decide) ?_
      refine AW.istore dL_isStep_974 rfl ?_
      exact AW.locs ((17, vi 0) :: lsp 4 nd dv lt one two three nm ot th fi se) ⟨rfl, rfl, rfl, rfl, rfl, rfl, rfl, rfl, rfl, rfl, rfl, rfl, rfl, rfl, rfl, rfl, rfl, rfl, trivial⟩ e0
  have hE' : ¬ (zfind Z 0 (Z 1 0) nm = -1 ∨ zfind Z 0 (Z 1 0) ot = -1) := by rw [efi, ese]; exact hE
  have hf : ¬ fi = -1 := fun z => hE (Or.inl z)
  have hf' : ¬ zfind Z 0 (Z 1 0) nm = -1 := by rw [efi]; exact hf
  have hs' : ¬ zfind Z 0 (Z 1 0) ot = -1 := by rw [ese]; exact fun z => hE (Or.inr z)
  obtain ⟨f0, e0⟩ := Int.eq_ofNat_of_zero_le (show 0 ≤ fi by omega)
  subst e0
  have hp : ¬ Z 5 (48 * a + f0) = -1 := by
    have q := zf_x (Z := Z) (a := a) (n := nm) (by rw [← hv]; exact hf')
    rw [← hv, efi, Int.toNat_natCast] at q
    omega
  have hn25 : nm ≤ 25 := (zf_x (Z := Z) (a := a) (n := nm) (by rw [← hv]; exact hf')).2.2
  have kd0 := K.kd (f := f0) (by omega)
  obtain ⟨fd1, fd2⟩ := f_div K (f := f0) (by omega)
  obtain ⟨f1, e1⟩ := Int.eq_ofNat_of_zero_le (show 0 ≤ se by omega)
  subst e1
  have hp1 : ¬ Z 5 (48 * a + f1) = -1 := by
    have q := zf_x (Z := Z) (a := a) (n := ot) (by rw [← hv]; exact hs')
    rw [← hv, ese, Int.toNat_natCast] at q
    omega
  have kd1 := K.kd (f := f1) (by omega)
  obtain ⟨gd1, gd2⟩ := f_div K (f := f1) (by omega)
  have hN := hN hf
  rw [Int.toNat_natCast] at hN
  have hC : ((Z 3 (zfind Z 0 (Z 1 0) nm).toNat = 0 ∧ Z 3 (zfind Z 0 (Z 1 0) ot).toNat = 0) ∧ (zfind Z 0 (Z 1 0) th = -1 ∨ zfind Z 0 (Z 1 0) th = zfind Z 0 (Z 1 0) nm ∨ zfind Z 0 (Z 1 0) th = zfind Z 0 (Z 1 0) ot)) ↔ cnj Z f0 f1 lt := by
    rw [efi, ese, elt, Int.toNat_natCast, Int.toNat_natCast]
    unfold cnj
    omega
  refine (fun e0 : AW mL_isStep fL_isStep loL_isStep 10 60 Q 10 60 976 h ((17, vi 1) :: lsp 4 nd dv lt one two three nm ot th (f0 : Int) (f1 : Int)) [] => ?_) ?_
  · refine AW.iload dL_isStep_959 rfl ?_
    refine AW.if_ltF (tgt := 973) dL_isStep_961 rfl (by omega) ?_
    refine AW.iload dL_isStep_964 rfl ?_
    refine AW.if_ltF (tgt := 973) dL_isStep_966 rfl (by omega) ?_
    refine AW.iconst dL_isStep_969 (by decide) ?_
    refine AW.goto (tgt := 974) dL_isStep_970 rfl ?_
    refine AW.istore dL_isStep_974 rfl ?_
    exact AW.locs ((17, vi 1) :: lsp 4 nd dv lt one two three nm ot th (f0 : Int) (f1 : Int)) ⟨rfl, rfl, rfl, rfl, rfl, rfl, rfl, rfl, rfl, rfl, rfl, rfl, rfl, rfl, rfl, rfl, rfl, rfl, trivial⟩ e0
  refine is_joiR (fun hR => ?_) (fun hR => ?_)
  · refine is_joiC J.T V.s K (by omega) (by omega) (fun hc => ?_) (fun hc => ?_)
    · have hR' := hO.mp hR
      have hne : ¬ f0 = f1 := fun z => hR.2.1 (by omega)
      have jb := zjoi_b (a := Z 4 f0) (b := Z 4 f1) (f := dv) (by omega) (by omega) (by omega)
      by_cases e6 : Z 6 (48 * a + f0) = 0
      · have hN : nd = 0 := by rw [hN, if_pos e6]
        subst hN
        by_cases e7 : Z 6 (48 * a + f1) = 0
        · have eB : bz (¬ Z 5 (48 * a + f1) = -1 ∧ ¬ Z 6 (48 * a + f1) = 0) = 0 := bz_0.mpr (fun z => z.2 e7)
          have eO : (0 : Int) = bz (¬ Z 6 (48 * a + f0) = 0 ∨ ¬ Z 6 (48 * a + f1) = 0) := (bz_0.mpr (fun z => z.elim (fun z => z e6) (fun z => z e7))).symm
          refine AW.iload dL_isStep_1055 rfl ?_
          refine AW.if_neT (tgt := 1066) dL_isStep_1057 rfl (by omega) ?_
          refine AW.iload dL_isStep_1066 rfl ?_
          refine AW.if_neT (tgt := 1077) dL_isStep_1068 rfl (by omega) ?_
          refine AW.iload dL_isStep_1077 rfl ?_
          refine AW.if_eqF (tgt := 1089) dL_isStep_1079 rfl (by omega) ?_
          refine AW.aload dL_isStep_1082 rfl ?_
          refine AW.iconst dL_isStep_1084 (by decide) ?_
          refine AW.aldIE dL_isStep_1085 J.T.a4 (by omega) (by omega) (by exact V.s.g1) ?_
          refine AW.goto (tgt := 1091) dL_isStep_1086 rfl ?_
          refine AW.istore dL_isStep_1091 rfl ?_
          refine AW.iload dL_isStep_1093 rfl ?_
          refine AW.if_ltF (tgt := 1188) dL_isStep_1095 rfl (by omega) ?_
          refine AW.iload dL_isStep_1098 rfl ?_
          refine AW.if_neF (tgt := 1116) dL_isStep_1100 rfl (by omega) ?_
          refine AW.aload_n dL_isStep_1103 rfl ?_
          refine AW.aload dL_isStep_1104 rfl ?_
          refine AW.iconst dL_isStep_1106 (by decide) ?_
          refine AW.aldIE dL_isStep_1107 J.T.a4 (by omega) (by omega) (by exact V.s.g0.trans hv) ?_
          refine AW.iload dL_isStep_1108 rfl ?_
          refine AW.callS (as := [vq _, vi _, vi _]) dL_isStep_1110 rfl rfl rfl okL_isNeeded lkL_103 rfl rfl rfl (leb (by omega)) (leb (by omega)) rfl (kL_isNd J.T V.s K (v := a) (f := f1) (by omega) (by omega) (AW.k1 ?_))
          refine AW.top (y := 0) eB ?_
          refine AW.if_eqT (tgt := 1120) dL_isStep_1113 rfl (by decide) ?_
          refine AW.iconst dL_isStep_1120 (by decide) ?_
          refine AW.pcs (pc2 := 1121) rfl ?_
          refine AW.istore dL_isStep_1121 rfl ?_
          refine AW.aload_n dL_isStep_1123 rfl ?_
          refine AW.iload dL_isStep_1124 rfl ?_
          refine AW.aldIE dL_isStep_1126 J.T.a3 (by omega) (by omega) (by exact V.s.f (f := f0) (by omega)) ?_
          refine AW.iconst dL_isStep_1127 (by decide) ?_
          refine AW.idiv dL_isStep_1128 (by omega) ?_
          refine AW.top fd1 ?_
          refine AW.aload_n dL_isStep_1129 rfl ?_
          refine AW.iload dL_isStep_1130 rfl ?_
          refine AW.aldIE dL_isStep_1132 J.T.a3 (by omega) (by omega) (by exact V.s.f (f := f1) (by omega)) ?_
          refine AW.iconst dL_isStep_1133 (by decide) ?_
          refine AW.idiv dL_isStep_1134 (by omega) ?_
          refine AW.top gd1 ?_
          refine AW.iload dL_isStep_1135 rfl ?_
          refine AW.callS (as := [vi _, vi _, vi _]) dL_isStep_1137 rfl rfl rfl okL_joined lkL_100 rfl rfl rfl (leb (by omega)) (leb (by omega)) rfl (kL_joined (by omega) (by omega) (by omega) (AW.k1 ?_))
          refine AW.istore dL_isStep_1140 rfl ?_
          refine AW.aload_n dL_isStep_1142 rfl ?_
          refine AW.aload_n dL_isStep_1143 rfl ?_
          refine AW.aload dL_isStep_1144 rfl ?_
          refine AW.iconst dL_isStep_1146 (by decide) ?_
          refine AW.iload dL_isStep_1147 rfl ?_
          refine AW.iload dL_isStep_1149 rfl ?_
          refine AW.iload dL_isStep_1151 rfl ?_
          refine AW.callS (as := [vq _, vq _, vq _, vi _, vi _, vi _, vi _]) dL_isStep_1153 rfl rfl rfl okL_begins lkL_141 rfl rfl rfl (leb (by omega)) (leb (by omega)) rfl (kL_begins (K := fun _ => 0) (d := a + 1) J.T V.s (by omega) (by omega) (by omega) (by omega) (by omega) (by omega) (by omega) (fun g1 F1 C1 => (AW.k0 ?_)))
          have C1 := C1.n hm
          have T1 := F1.1.T J.T
          refine AW.aload_n dL_isStep_1156 rfl ?_
          refine AW.aload dL_isStep_1157 rfl ?_
          refine AW.pcs (pc2 := 1159) rfl ?_
          refine AW.iload dL_isStep_1159 rfl ?_
          refine AW.callS (as := [vq _, vq _, vi _]) dL_isStep_1161 rfl rfl rfl okL_goes lkL_155 rfl rfl rfl (leb (by omega)) (leb (by omega)) rfl (kL_goes (f := f0) T1 C1 (by omega) (by omega) (fun g2 F2 C2 => (AW.k0 ?_)))
          have T2 := F2.1.T T1
          refine AW.aload_n dL_isStep_1164 rfl ?_
          refine AW.aload dL_isStep_1165 rfl ?_
          refine AW.iload dL_isStep_1167 rfl ?_
          refine AW.callS (as := [vq _, vq _, vi _]) dL_isStep_1169 rfl rfl rfl okL_goes lkL_155 rfl rfl rfl (leb (by omega)) (leb (by omega)) rfl (kL_goes (f := f1) T2 C2 (by omega) (by omega) (fun g3 F3 C3 => (AW.k0 ?_)))
          have T3 := F3.1.T T2
          refine AW.aload_n dL_isStep_1172 rfl ?_
          refine AW.aload_n dL_isStep_1173 rfl ?_
          refine AW.aload_n dL_isStep_1174 rfl ?_
          refine AW.aload dL_isStep_1175 rfl ?_
          refine AW.iload dL_isStep_1177 rfl ?_
          refine AW.iconst dL_isStep_1179 (by decide) ?_
          refine AW.iload dL_isStep_1180 rfl ?_
          refine AW.iload dL_isStep_1182 rfl ?_
          refine AW.iconst dL_isStep_1184 (by decide) ?_
          refine AW.callS (as := [vq _, vq _, vq _, vq _, vi _, vi _, vi _, vi _, vi _]) dL_isStep_1185 rfl rfl rfl okL_makes lkL_145 rfl rfl rfl (leb (by omega)) (leb (by omega)) rfl (kL_makes00 (m := m) T3 C3 (by omega) (by omega) (by omega) (by omega) ((if_neg (by omega)).trans ((if_neg (by omega)).trans (zdg_0 K (by omega) (by omega) (by omega)))) (by omega) (by omega) (by omega) (fun g4 F4 C4 => (AW.k0 ?_)))
          have FF := ((F1.tr F2).tr F3).tr F4
          refine AW.aload_n dL_isStep_1188 rfl ?_
          refine AW.iconst dL_isStep_1189 (by decide) ?_
          refine AW.iconst dL_isStep_1190 (by decide) ?_
          refine AW.iload dL_isStep_1191 rfl ?_
          refine AW.iload dL_isStep_1193 rfl ?_
          refine AW.iload dL_isStep_1195 rfl ?_
          refine AW.iload dL_isStep_1197 rfl ?_
          refine AW.callSH (as := [vq _, vi _, vi _, vi _, vi _, vi _, vi _]) dL_isStep_1199 rfl rfl rfl okL_does lkL_149 rfl rfl rfl (by omega) (by omega) rfl (q_joi (J.fl FF.1) (fun z => absurd z hE') (fun _ z => absurd hR' z) (fun _ _ z => absurd (hC.mpr hc) z) (fun _ _ _ g5 S5 I5 Fr5 => (AW.k1 ?_)))
          refine AW.pcs (pc2 := 1202) rfl ?_
          refine AW.iload dL_isStep_1202 rfl ?_
          refine AW.icmp_neF (tgt := 1211) dL_isStep_1204 rfl (by rfl) ?_
          refine AW.iconst dL_isStep_1207 (by decide) ?_
          refine AW.goto (tgt := 1212) dL_isStep_1208 rfl ?_
          refine AW.zret dL_isStep_1212 rfl ?_ ?_
          · omega
          have q := g_joi (nd := 0) J V FF hv ha hm (by omega) (by omega) (by omega) efi (by omega) ese (by omega) hne hc.1.1 hc.1.2 eO C4 (fun i hi => by show (if i = m then th + 1 + 0 else if i = f1 then 0 else if i = f0 then 0 else zdg Z (a + 1 - 1) i) = if i = m then th + 1 + 32 * 0 else if i = f0 then 0 else if i = f1 then 0 else zdg Z a i; by_cases y0 : i = m; (rw [if_pos y0, if_pos y0]; rfl); (rw [if_neg y0, if_neg y0]; by_cases y1 : i = f1; (rw [if_pos y1, if_neg (by omega), if_pos y1]); (rw [if_neg y1, if_neg y1]; rfl))) (by omega) ((if_pos rfl).trans (Int.zero_add _)) S5 I5 Fr5
          exact k _ _ q.1 q.2
        · have eB : bz (¬ Z 5 (48 * a + f1) = -1 ∧ ¬ Z 6 (48 * a + f1) = 0) = 1 := bz_1.mpr ⟨hp1, e7⟩
          have eO : (1 : Int) = bz (¬ Z 6 (48 * a + f0) = 0 ∨ ¬ Z 6 (48 * a + f1) = 0) := (bz_1.mpr (Or.inr e7)).symm
          refine AW.iload dL_isStep_1055 rfl ?_
          refine AW.if_neT (tgt := 1066) dL_isStep_1057 rfl (by omega) ?_
          refine AW.iload dL_isStep_1066 rfl ?_
          refine AW.if_neT (tgt := 1077) dL_isStep_1068 rfl (by omega) ?_
          refine AW.iload dL_isStep_1077 rfl ?_
          refine AW.if_eqF (tgt := 1089) dL_isStep_1079 rfl (by omega) ?_
          refine AW.aload dL_isStep_1082 rfl ?_
          refine AW.iconst dL_isStep_1084 (by decide) ?_
          refine AW.aldIE dL_isStep_1085 J.T.a4 (by omega) (by omega) (by exact V.s.g1) ?_
          refine AW.goto (tgt := 1091) dL_isStep_1086 rfl ?_
          refine AW.istore dL_isStep_1091 rfl ?_
          refine AW.iload dL_isStep_1093 rfl ?_
          refine AW.if_ltF (tgt := 1188) dL_isStep_1095 rfl (by omega) ?_
          refine AW.iload dL_isStep_1098 rfl ?_
          refine AW.if_neF (tgt := 1116) dL_isStep_1100 rfl (by omega) ?_
          refine AW.aload_n dL_isStep_1103 rfl ?_
          refine AW.aload dL_isStep_1104 rfl ?_
          refine AW.iconst dL_isStep_1106 (by decide) ?_
          refine AW.aldIE dL_isStep_1107 J.T.a4 (by omega) (by omega) (by exact V.s.g0.trans hv) ?_
          refine AW.iload dL_isStep_1108 rfl ?_
          refine AW.callS (as := [vq _, vi _, vi _]) dL_isStep_1110 rfl rfl rfl okL_isNeeded lkL_103 rfl rfl rfl (leb (by omega)) (leb (by omega)) rfl (kL_isNd J.T V.s K (v := a) (f := f1) (by omega) (by omega) (AW.k1 ?_))
          refine AW.top (y := 1) eB ?_
          refine AW.if_eqF (tgt := 1120) dL_isStep_1113 rfl (by decide) ?_
          refine AW.iconst dL_isStep_1116 (by decide) ?_
          refine AW.pcs (pc2 := 1117) rfl ?_
          refine AW.goto (tgt := 1121) dL_isStep_1117 rfl ?_
          refine AW.istore dL_isStep_1121 rfl ?_
          refine AW.aload_n dL_isStep_1123 rfl ?_
          refine AW.iload dL_isStep_1124 rfl ?_
          refine AW.aldIE dL_isStep_1126 J.T.a3 (by omega) (by omega) (by exact V.s.f (f := f0) (by omega)) ?_
          refine AW.iconst dL_isStep_1127 (by decide) ?_
          refine AW.idiv dL_isStep_1128 (by omega) ?_
          refine AW.top fd1 ?_
          refine AW.aload_n dL_isStep_1129 rfl ?_
          refine AW.iload dL_isStep_1130 rfl ?_
          refine AW.aldIE dL_isStep_1132 J.T.a3 (by omega) (by omega) (by exact V.s.f (f := f1) (by omega)) ?_
          refine AW.iconst dL_isStep_1133 (by decide) ?_
          refine AW.idiv dL_isStep_1134 (by omega) ?_
          refine AW.top gd1 ?_
          refine AW.iload dL_isStep_1135 rfl ?_
          refine AW.callS (as := [vi _, vi _, vi _]) dL_isStep_1137 rfl rfl rfl okL_joined lkL_100 rfl rfl rfl (leb (by omega)) (leb (by omega)) rfl (kL_joined (by omega) (by omega) (by omega) (AW.k1 ?_))
          refine AW.istore dL_isStep_1140 rfl ?_
          refine AW.aload_n dL_isStep_1142 rfl ?_
          refine AW.aload_n dL_isStep_1143 rfl ?_
          refine AW.aload dL_isStep_1144 rfl ?_
          refine AW.iconst dL_isStep_1146 (by decide) ?_
          refine AW.iload dL_isStep_1147 rfl ?_
          refine AW.iload dL_isStep_1149 rfl ?_
          refine AW.iload dL_isStep_1151 rfl ?_
          refine AW.callS (as := [vq _, vq _, vq _, vi _, vi _, vi _, vi _]) dL_isStep_1153 rfl rfl rfl okL_begins lkL_141 rfl rfl rfl (leb (by omega)) (leb (by omega)) rfl (kL_begins (K := fun _ => 0) (d := a + 1) J.T V.s (by omega) (by omega) (by omega) (by omega) (by omega) (by omega) (by omega) (fun g1 F1 C1 => (AW.k0 ?_)))
          have C1 := C1.n hm
          have T1 := F1.1.T J.T
          refine AW.aload_n dL_isStep_1156 rfl ?_
          refine AW.pcs (pc2 := 1157) rfl ?_
          refine AW.aload dL_isStep_1157 rfl ?_
          refine AW.iload dL_isStep_1159 rfl ?_
          refine AW.callS (as := [vq _, vq _, vi _]) dL_isStep_1161 rfl rfl rfl okL_goes lkL_155 rfl rfl rfl (leb (by omega)) (leb (by omega)) rfl (kL_goes (f := f0) T1 C1 (by omega) (by omega) (fun g2 F2 C2 => (AW.k0 ?_)))
          have T2 := F2.1.T T1
          refine AW.aload_n dL_isStep_1164 rfl ?_
          refine AW.aload dL_isStep_1165 rfl ?_
          refine AW.iload dL_isStep_1167 rfl ?_
          refine AW.callS (as := [vq _, vq _, vi _]) dL_isStep_1169 rfl rfl rfl okL_goes lkL_155 rfl rfl rfl (leb (by omega)) (leb (by omega)) rfl (kL_goes (f := f1) T2 C2 (by omega) (by omega) (fun g3 F3 C3 => (AW.k0 ?_)))
          have T3 := F3.1.T T2
          refine AW.aload_n dL_isStep_1172 rfl ?_
          refine AW.aload_n dL_isStep_1173 rfl ?_
          refine AW.aload_n dL_isStep_1174 rfl ?_
          refine AW.aload dL_isStep_1175 rfl ?_
          refine AW.iload dL_isStep_1177 rfl ?_
          refine AW.iconst dL_isStep_1179 (by decide) ?_
          refine AW.iload dL_isStep_1180 rfl ?_
          refine AW.iload dL_isStep_1182 rfl ?_
          refine AW.iconst dL_isStep_1184 (by decide) ?_
          refine AW.callS (as := [vq _, vq _, vq _, vq _, vi _, vi _, vi _, vi _, vi _]) dL_isStep_1185 rfl rfl rfl okL_makes lkL_145 rfl rfl rfl (leb (by omega)) (leb (by omega)) rfl (kL_makes10 (m := m) T3 C3 (by omega) (by omega) (by omega) (by omega) ((if_neg (by omega)).trans ((if_neg (by omega)).trans (zdg_0 K (by omega) (by omega) (by omega)))) (by omega) (by omega) (by omega) (fun g4 F4 C4 => (AW.k0 ?_)))
          have FF := ((F1.tr F2).tr F3).tr F4
          refine AW.aload_n dL_isStep_1188 rfl ?_
          refine AW.iconst dL_isStep_1189 (by decide) ?_
          refine AW.iconst dL_isStep_1190 (by decide) ?_
          refine AW.iload dL_isStep_1191 rfl ?_
          refine AW.iload dL_isStep_1193 rfl ?_
          refine AW.iload dL_isStep_1195 rfl ?_
          refine AW.iload dL_isStep_1197 rfl ?_
          refine AW.pcs (pc2 := 1199) rfl ?_
          refine AW.callSH (as := [vq _, vi _, vi _, vi _, vi _, vi _, vi _]) dL_isStep_1199 rfl rfl rfl okL_does lkL_149 rfl rfl rfl (by omega) (by omega) rfl (q_joi (J.fl FF.1) (fun z => absurd z hE') (fun _ z => absurd hR' z) (fun _ _ z => absurd (hC.mpr hc) z) (fun _ _ _ g5 S5 I5 Fr5 => (AW.k1 ?_)))
          refine AW.iload dL_isStep_1202 rfl ?_
          refine AW.icmp_neF (tgt := 1211) dL_isStep_1204 rfl (by rfl) ?_
          refine AW.iconst dL_isStep_1207 (by decide) ?_
          refine AW.goto (tgt := 1212) dL_isStep_1208 rfl ?_
          refine AW.zret dL_isStep_1212 rfl ?_ ?_
          · omega
          have q := g_joi (nd := 1) J V FF hv ha hm (by omega) (by omega) (by omega) efi (by omega) ese (by omega) hne hc.1.1 hc.1.2 eO C4 (fun i hi => by show (if i = m then th + 1 + 32 else if i = f1 then 0 else if i = f0 then 0 else zdg Z (a + 1 - 1) i) = if i = m then th + 1 + 32 * 1 else if i = f0 then 0 else if i = f1 then 0 else zdg Z a i; by_cases y0 : i = m; (rw [if_pos y0, if_pos y0]; rfl); (rw [if_neg y0, if_neg y0]; by_cases y1 : i = f1; (rw [if_pos y1, if_neg (by omega), if_pos y1]); (rw [if_neg y1, if_neg y1]; rfl))) (by omega) ((if_pos rfl).trans (Int.zero_add _)) S5 I5 Fr5
          exact k _ _ q.1 q.2
      · have hN : nd = 1 := by rw [hN, if_neg e6]
        subst hN
        have eO : (1 : Int) = bz (¬ Z 6 (48 * a + f0) = 0 ∨ ¬ Z 6 (48 * a + f1) = 0) := (bz_1.mpr (Or.inl e6)).symm
        refine AW.iload dL_isStep_1055 rfl ?_
        refine AW.if_neT (tgt := 1066) dL_isStep_1057 rfl (by omega) ?_
        refine AW.iload dL_isStep_1066 rfl ?_
        refine AW.if_neT (tgt := 1077) dL_isStep_1068 rfl (by omega) ?_
        refine AW.iload dL_isStep_1077 rfl ?_
        refine AW.if_eqF (tgt := 1089) dL_isStep_1079 rfl (by omega) ?_
        refine AW.aload dL_isStep_1082 rfl ?_
        refine AW.iconst dL_isStep_1084 (by decide) ?_
        refine AW.aldIE dL_isStep_1085 J.T.a4 (by omega) (by omega) (by exact V.s.g1) ?_
        refine AW.goto (tgt := 1091) dL_isStep_1086 rfl ?_
        refine AW.istore dL_isStep_1091 rfl ?_
        refine AW.iload dL_isStep_1093 rfl ?_
        refine AW.if_ltF (tgt := 1188) dL_isStep_1095 rfl (by omega) ?_
        refine AW.iload dL_isStep_1098 rfl ?_
        refine AW.if_neT (tgt := 1116) dL_isStep_1100 rfl (by omega) ?_
        refine AW.iconst dL_isStep_1116 (by decide) ?_
        refine AW.goto (tgt := 1121) dL_isStep_1117 rfl ?_
        refine AW.istore dL_isStep_1121 rfl ?_
        refine AW.aload_n dL_isStep_1123 rfl ?_
        refine AW.iload dL_isStep_1124 rfl ?_
        refine AW.aldIE dL_isStep_1126 J.T.a3 (by omega) (by omega) (by exact V.s.f (f := f0) (by omega)) ?_
        refine AW.iconst dL_isStep_1127 (by decide) ?_
        refine AW.idiv dL_isStep_1128 (by omega) ?_
        refine AW.top fd1 ?_
        refine AW.pcs (pc2 := 1129) rfl ?_
        refine AW.aload_n dL_isStep_1129 rfl ?_
        refine AW.iload dL_isStep_1130 rfl ?_
        refine AW.aldIE dL_isStep_1132 J.T.a3 (by omega) (by omega) (by exact V.s.f (f := f1) (by omega)) ?_
        refine AW.iconst dL_isStep_1133 (by decide) ?_
        refine AW.idiv dL_isStep_1134 (by omega) ?_
        refine AW.top gd1 ?_
        refine AW.iload dL_isStep_1135 rfl ?_
        refine AW.callS (as := [vi _, vi _, vi _]) dL_isStep_1137 rfl rfl rfl okL_joined lkL_100 rfl rfl rfl (leb (by omega)) (leb (by omega)) rfl (kL_joined (by omega) (by omega) (by omega) (AW.k1 ?_))
        refine AW.istore dL_isStep_1140 rfl ?_
        refine AW.aload_n dL_isStep_1142 rfl ?_
        refine AW.aload_n dL_isStep_1143 rfl ?_
        refine AW.aload dL_isStep_1144 rfl ?_
        refine AW.iconst dL_isStep_1146 (by decide) ?_
        refine AW.iload dL_isStep_1147 rfl ?_
        refine AW.iload dL_isStep_1149 rfl ?_
        refine AW.iload dL_isStep_1151 rfl ?_
        refine AW.callS (as := [vq _, vq _, vq _, vi _, vi _, vi _, vi _]) dL_isStep_1153 rfl rfl rfl okL_begins lkL_141 rfl rfl rfl (leb (by omega)) (leb (by omega)) rfl (kL_begins (K := fun _ => 0) (d := a + 1) J.T V.s (by omega) (by omega) (by omega) (by omega) (by omega) (by omega) (by omega) (fun g1 F1 C1 => (AW.k0 ?_)))
        have C1 := C1.n hm
        have T1 := F1.1.T J.T
        refine AW.aload_n dL_isStep_1156 rfl ?_
        refine AW.aload dL_isStep_1157 rfl ?_
        refine AW.iload dL_isStep_1159 rfl ?_
        refine AW.callS (as := [vq _, vq _, vi _]) dL_isStep_1161 rfl rfl rfl okL_goes lkL_155 rfl rfl rfl (leb (by omega)) (leb (by omega)) rfl (kL_goes (f := f0) T1 C1 (by omega) (by omega) (fun g2 F2 C2 => (AW.k0 ?_)))
        have T2 := F2.1.T T1
        refine AW.aload_n dL_isStep_1164 rfl ?_
        refine AW.aload dL_isStep_1165 rfl ?_
        refine AW.iload dL_isStep_1167 rfl ?_
        refine AW.callS (as := [vq _, vq _, vi _]) dL_isStep_1169 rfl rfl rfl okL_goes lkL_155 rfl rfl rfl (leb (by omega)) (leb (by omega)) rfl (kL_goes (f := f1) T2 C2 (by omega) (by omega) (fun g3 F3 C3 => (AW.k0 ?_)))
        have T3 := F3.1.T T2
        refine AW.pcs (pc2 := 1172) rfl ?_
        refine AW.aload_n dL_isStep_1172 rfl ?_
        refine AW.aload_n dL_isStep_1173 rfl ?_
        refine AW.aload_n dL_isStep_1174 rfl ?_
        refine AW.aload dL_isStep_1175 rfl ?_
        refine AW.iload dL_isStep_1177 rfl ?_
        refine AW.iconst dL_isStep_1179 (by decide) ?_
        refine AW.iload dL_isStep_1180 rfl ?_
        refine AW.iload dL_isStep_1182 rfl ?_
        refine AW.iconst dL_isStep_1184 (by decide) ?_
        refine AW.callS (as := [vq _, vq _, vq _, vq _, vi _, vi _, vi _, vi _, vi _]) dL_isStep_1185 rfl rfl rfl okL_makes lkL_145 rfl rfl rfl (leb (by omega)) (leb (by omega)) rfl (kL_makes10 (m := m) T3 C3 (by omega) (by omega) (by omega) (by omega) ((if_neg (by omega)).trans ((if_neg (by omega)).trans (zdg_0 K (by omega) (by omega) (by omega)))) (by omega) (by omega) (by omega) (fun g4 F4 C4 => (AW.k0 ?_)))
        have FF := ((F1.tr F2).tr F3).tr F4
        refine AW.aload_n dL_isStep_1188 rfl ?_
        refine AW.iconst dL_isStep_1189 (by decide) ?_
        refine AW.iconst dL_isStep_1190 (by decide) ?_
        refine AW.iload dL_isStep_1191 rfl ?_
        refine AW.iload dL_isStep_1193 rfl ?_
        refine AW.iload dL_isStep_1195 rfl ?_
        refine AW.iload dL_isStep_1197 rfl ?_
        refine AW.callSH (as := [vq _, vi _, vi _, vi _, vi _, vi _, vi _]) dL_isStep_1199 rfl rfl rfl okL_does lkL_149 rfl rfl rfl (by omega) (by omega) rfl (q_joi (J.fl FF.1) (fun z => absurd z hE') (fun _ z => absurd hR' z) (fun _ _ z => absurd (hC.mpr hc) z) (fun _ _ _ g5 S5 I5 Fr5 => (AW.k1 ?_)))
        refine AW.iload dL_isStep_1202 rfl ?_
        refine AW.icmp_neF (tgt := 1211) dL_isStep_1204 rfl (by rfl) ?_
        refine AW.iconst dL_isStep_1207 (by decide) ?_
        refine AW.goto (tgt := 1212) dL_isStep_1208 rfl ?_
        refine AW.zret dL_isStep_1212 rfl ?_ ?_
        · omega
        have q := g_joi (nd := 1) J V FF hv ha hm (by omega) (by omega) (by omega) efi (by omega) ese (by omega) hne hc.1.1 hc.1.2 eO C4 (fun i hi => by show (if i = m then th + 1 + 32 else if i = f1 then 0 else if i = f0 then 0 else zdg Z (a + 1 - 1) i) = if i = m then th + 1 + 32 * 1 else if i = f0 then 0 else if i = f1 then 0 else zdg Z a i; by_cases y0 : i = m; (rw [if_pos y0, if_pos y0]; rfl); (rw [if_neg y0, if_neg y0]; by_cases y1 : i = f1; (rw [if_pos y1, if_neg (by omega), if_pos y1]); (rw [if_neg y1, if_neg y1]; rfl))) (by omega) ((if_pos rfl).trans (Int.zero_add _)) S5 I5 Fr5
        exact k _ _ q.1 q.2
    · refine AW.iload dL_isStep_1055 rfl ?_
      refine AW.if_neT (tgt := 1066) dL_isStep_1057 rfl (by omega) ?_
      refine AW.iload dL_isStep_1066 rfl ?_
      refine AW.if_neT (tgt := 1077) dL_isStep_1068 rfl (by omega) ?_
      refine AW.iload dL_isStep_1077 rfl ?_
      refine AW.if_eqT (tgt := 1089) dL_isStep_1079 rfl (by omega) ?_
      refine AW.bipush dL_isStep_1089 bp_m100 (by decide) ?_
      refine AW.istore dL_isStep_1091 rfl ?_
      refine AW.iload dL_isStep_1093 rfl ?_
      refine AW.if_ltT (tgt := 1188) dL_isStep_1095 rfl (by omega) ?_
      refine AW.aload_n dL_isStep_1188 rfl ?_
      refine AW.iconst dL_isStep_1189 (by decide) ?_
      refine AW.iconst dL_isStep_1190 (by decide) ?_
      refine AW.iload dL_isStep_1191 rfl ?_
      refine AW.iload dL_isStep_1193 rfl ?_
      refine AW.iload dL_isStep_1195 rfl ?_
      refine AW.iload dL_isStep_1197 rfl ?_
      refine AW.callSH (as := [vq _, vi _, vi _, vi _, vi _, vi _, vi _]) dL_isStep_1199 rfl rfl rfl okL_does lkL_149 rfl rfl rfl (by omega) (by omega) rfl (q_joi J (fun z => absurd z hE') (fun _ z => absurd (hO.mp hR) z) (fun _ _ _ => (AW.k1 ?_)) (fun _ _ z => absurd (hC.mp z) hc))
      refine AW.iload dL_isStep_1202 rfl ?_
      refine AW.icmp_neF (tgt := 1211) dL_isStep_1204 rfl (by rfl) ?_
      refine AW.iconst dL_isStep_1207 (by decide) ?_
      refine AW.goto (tgt := 1212) dL_isStep_1208 rfl ?_
      refine AW.zret dL_isStep_1212 rfl ?_ ?_
      · omega
      exact k _ _ J V
  · refine AW.iload dL_isStep_1003 rfl ?_
    refine AW.if_eqF (tgt := 1052) dL_isStep_1005 rfl (by omega) ?_
    refine AW.iload dL_isStep_1008 rfl ?_
    refine AW.if_eqT (tgt := 1052) dL_isStep_1010 rfl (by omega) ?_
    refine AW.iconst dL_isStep_1052 (by decide) ?_
    refine AW.istore dL_isStep_1053 rfl ?_
    refine AW.iload dL_isStep_1055 rfl ?_
    refine AW.if_neT (tgt := 1066) dL_isStep_1057 rfl (by omega) ?_
    refine AW.iload dL_isStep_1066 rfl ?_
    refine AW.if_neF (tgt := 1077) dL_isStep_1068 rfl (by omega) ?_
    refine AW.sipush dL_isStep_1071 sp_m200 (by decide) ?_
    refine AW.goto (tgt := 1091) dL_isStep_1074 rfl ?_
    refine AW.istore dL_isStep_1091 rfl ?_
    refine AW.iload dL_isStep_1093 rfl ?_
    refine AW.if_ltT (tgt := 1188) dL_isStep_1095 rfl (by omega) ?_
    refine AW.aload_n dL_isStep_1188 rfl ?_
    refine AW.iconst dL_isStep_1189 (by decide) ?_
    refine AW.iconst dL_isStep_1190 (by decide) ?_
    refine AW.iload dL_isStep_1191 rfl ?_
    refine AW.iload dL_isStep_1193 rfl ?_
    refine AW.iload dL_isStep_1195 rfl ?_
    refine AW.iload dL_isStep_1197 rfl ?_
    refine AW.callSH (as := [vq _, vi _, vi _, vi _, vi _, vi _, vi _]) dL_isStep_1199 rfl rfl rfl okL_does lkL_149 rfl rfl rfl (by omega) (by omega) rfl (q_joi J (fun z => absurd z hE') (fun _ _ => (AW.k1 ?_)) (fun _ z => absurd (hO.mpr z) hR) (fun _ z => absurd (hO.mpr z) hR))
    refine AW.pcs (pc2 := 1202) rfl ?_
    refine AW.iload dL_isStep_1202 rfl ?_
    refine AW.icmp_neF (tgt := 1211) dL_isStep_1204 rfl (by rfl) ?_
    refine AW.iconst dL_isStep_1207 (by decide) ?_
    refine AW.goto (tgt := 1212) dL_isStep_1208 rfl ?_
    refine AW.zret dL_isStep_1212 rfl ?_ ?_
    · omega
    exact k _ _ J V
set_option maxHeartbeats 4000000 in
theorem is_joi {one two three nm ot th fi se : Int} (J : IV L h Z c b) (V : JV h Z) (hv : Z 1 0 = (a : Int)) (ha : a ≤ 9) (h8 : Z 2 0 ≤ 8) (h1 : 0 ≤ one ∧ one < 10000) (h2 : 0 ≤ two ∧ two < 10000) (h3 : 0 ≤ three ∧ three < 10000) (hnm : 0 ≤ nm ∧ nm ≤ 5 ∨ nm = 26) (hot : 0 ≤ ot ∧ ot ≤ 6 ∨ ot = 26) (hth : 0 ≤ th ∧ th ≤ 6 ∨ th = 26) (efi : zfind Z 0 (Z 1 0) nm = fi) (ese : zfind Z 0 (Z 1 0) ot = se) (k : ∀ g Y, IV L g Y c b → JV g Y → Q g (.inl (some (vi 1)))) : AW mL_isStep fL_isStep loL_isStep 10 60 Q 10 60 127 h (lst 4 one two three nm ot th fi se) [] := by
  have K := J.K
  have b1 := K.b1
  have b2 := K.b2
  have zfi := zf_r K (a := Z 1 0) (n := nm)
  have zse := zf_r K (a := Z 1 0) (n := ot)
  rw [efi] at zfi
  rw [ese] at zse
  obtain ⟨m, hm⟩ := Int.eq_ofNat_of_zero_le b2.1
  obtain ⟨lt, elt⟩ : ∃ lt, zfind Z 0 (Z 1 0) th = lt := ⟨_, rfl⟩
  have elt' : zfind Z 0 (a : Int) th = lt := by rw [← hv]; exact elt
  have t7 : 0 ≤ three.tdiv 7 := by rw [tdv h3.1]; omega
  have t40 := tmr (x := three.tdiv 7) (n := 40) t7 (by decide)
  have t30 := tmr (x := three.tdiv 7) (n := 30) t7 (by decide)
  by_cases e40 : (three.tdiv 7).tmod 40 = 0
  · by_cases hf : fi = -1
    · refine AW.iload dL_isStep_127 rfl ?_
      refine AW.if_neT (tgt := 320) dL_isStep_129 rfl (by omega) ?_
      refine AW.iload dL_isStep_320 rfl ?_
      refine AW.iconst dL_isStep_322 (by decide) ?_
      refine AW.icmp_neT (tgt := 478) dL_isStep_323 rfl (by omega) ?_
      refine AW.iload dL_isStep_478 rfl ?_
      refine AW.if_ltT (tgt := 500) dL_isStep_480 rfl (by omega) ?_
      refine AW.iconst dL_isStep_500 (by decide) ?_
      refine AW.istore dL_isStep_501 rfl ?_
      refine AW.iload dL_isStep_503 rfl ?_
      refine AW.iconst dL_isStep_505 (by decide) ?_
      refine AW.icmp_neT (tgt := 644) dL_isStep_506 rfl (by omega) ?_
      refine AW.iload dL_isStep_644 rfl ?_
      refine AW.iconst dL_isStep_646 (by decide) ?_
      refine AW.icmp_neT (tgt := 912) dL_isStep_647 rfl (by omega) ?_
      refine AW.iload dL_isStep_912 rfl ?_
      refine AW.iconst dL_isStep_914 (by decide) ?_
      refine AW.icmp_neF (tgt := 1213) dL_isStep_915 rfl (by omega) ?_
      refine AW.iload dL_isStep_918 rfl ?_
      refine AW.bipush dL_isStep_920 bp_7 (by decide) ?_
      refine AW.idiv dL_isStep_922 (by omega) ?_
      refine AW.bipush dL_isStep_923 bp_40 (by decide) ?_
      refine AW.irem dL_isStep_925 (by omega) ?_
      refine AW.pcs (pc2 := 926) rfl ?_
      refine AW.if_neF (tgt := 933) dL_isStep_926 rfl (by exact e40) ?_
      refine AW.iconst dL_isStep_929 (by decide) ?_
      refine AW.goto (tgt := 943) dL_isStep_930 rfl ?_
      refine AW.istore dL_isStep_943 rfl ?_
      refine AW.aload_n dL_isStep_945 rfl ?_
      refine AW.aload dL_isStep_946 rfl ?_
      refine AW.aload dL_isStep_948 rfl ?_
      refine AW.iconst dL_isStep_950 (by decide) ?_
      refine AW.aldIE dL_isStep_951 J.T.a4 (by omega) (by omega) (by exact V.s.g0.trans hv) ?_
      refine AW.iload dL_isStep_952 rfl ?_
      refine AW.callS (as := [vq _, vq _, vi _, vi _]) dL_isStep_954 rfl rfl rfl okL_find lkL_123 rfl rfl rfl (leb (by omega)) (leb (by omega)) rfl (kL_find J.T V.s K (a := a) (by omega) (by omega) (AW.k1 ?_))
      refine AW.top elt' ?_
      refine AW.istore dL_isStep_957 rfl ?_
      exact AW.locs (lsp 4 0 1 lt one two three nm ot th fi se) ⟨rfl, rfl, rfl, rfl, rfl, rfl, rfl, rfl, rfl, rfl, rfl, rfl, rfl, rfl, rfl, rfl, rfl, trivial⟩ (is_joi1 J V hv ha h8 hnm hot hth (by omega) efi ese elt (fun z => absurd hf z) k)
    have hf' : ¬ zfind Z 0 (Z 1 0) nm = -1 := by rw [efi]; exact hf
    obtain ⟨f0, e0⟩ := Int.eq_ofNat_of_zero_le (show 0 ≤ fi by omega)
    subst e0
    have hp : ¬ Z 5 (48 * a + f0) = -1 := by
      have q := zf_x (Z := Z) (a := a) (n := nm) (by rw [← hv]; exact hf')
      rw [← hv, efi, Int.toNat_natCast] at q
      omega
    have hn25 : nm ≤ 25 := (zf_x (Z := Z) (a := a) (n := nm) (by rw [← hv]; exact hf')).2.2
    have kd0 := K.kd (f := f0) (by omega)
    obtain ⟨fd1, fd2⟩ := f_div K (f := f0) (by omega)
    by_cases e6 : Z 6 (48 * a + f0) = 0
    · have eB : bz (¬ Z 5 (48 * a + f0) = -1 ∧ ¬ Z 6 (48 * a + f0) = 0) = 0 := bz_0.mpr (fun z => z.2 e6)
      have eS : (0 : Int) = if Z 6 (48 * a + f0) = 0 then 0 else 32 := by rw [if_pos e6]
      refine AW.iload dL_isStep_127 rfl ?_
      refine AW.if_neT (tgt := 320) dL_isStep_129 rfl (by omega) ?_
      refine AW.iload dL_isStep_320 rfl ?_
      refine AW.iconst dL_isStep_322 (by decide) ?_
      refine AW.icmp_neT (tgt := 478) dL_isStep_323 rfl (by omega) ?_
      refine AW.iload dL_isStep_478 rfl ?_
      refine AW.if_ltF (tgt := 500) dL_isStep_480 rfl (by omega) ?_
      refine AW.aload_n dL_isStep_483 rfl ?_
      refine AW.aload dL_isStep_484 rfl ?_
      refine AW.iconst dL_isStep_486 (by decide) ?_
      refine AW.aldIE dL_isStep_487 J.T.a4 (by omega) (by omega) (by exact V.s.g0.trans hv) ?_
      refine AW.iload dL_isStep_488 rfl ?_
      refine AW.callS (as := [vq _, vi _, vi _]) dL_isStep_490 rfl rfl rfl okL_isNeeded lkL_103 rfl rfl rfl (leb (by omega)) (leb (by omega)) rfl (kL_isNd J.T V.s K (v := a) (f := f0) (by omega) (by omega) (AW.k1 ?_))
      refine AW.top (y := 0) eB ?_
      refine AW.if_eqT (tgt := 500) dL_isStep_493 rfl (by decide) ?_
      refine AW.iconst dL_isStep_500 (by decide) ?_
      refine AW.istore dL_isStep_501 rfl ?_
      refine AW.iload dL_isStep_503 rfl ?_
      refine AW.iconst dL_isStep_505 (by decide) ?_
      refine AW.icmp_neT (tgt := 644) dL_isStep_506 rfl (by omega) ?_
      refine AW.iload dL_isStep_644 rfl ?_
      refine AW.iconst dL_isStep_646 (by decide) ?_
      refine AW.icmp_neT (tgt := 912) dL_isStep_647 rfl (by omega) ?_
      refine AW.iload dL_isStep_912 rfl ?_
      refine AW.pcs (pc2 := 914) rfl ?_
      refine AW.iconst dL_isStep_914 (by decide) ?_
      refine AW.icmp_neF (tgt := 1213) dL_isStep_915 rfl (by omega) ?_
      refine AW.iload dL_isStep_918 rfl ?_
      refine AW.bipush dL_isStep_920 bp_7 (by decide) ?_
      refine AW.idiv dL_isStep_922 (by omega) ?_
      refine AW.bipush dL_isStep_923 bp_40 (by decide) ?_
      refine AW.irem dL_isStep_925 (by omega) ?_
      refine AW.if_neF (tgt := 933) dL_isStep_926 rfl (by exact e40) ?_
      refine AW.iconst dL_isStep_929 (by decide) ?_
      refine AW.goto (tgt := 943) dL_isStep_930 rfl ?_
      refine AW.istore dL_isStep_943 rfl ?_
      refine AW.aload_n dL_isStep_945 rfl ?_
      refine AW.aload dL_isStep_946 rfl ?_
      refine AW.aload dL_isStep_948 rfl ?_
      refine AW.iconst dL_isStep_950 (by decide) ?_
      refine AW.aldIE dL_isStep_951 J.T.a4 (by omega) (by omega) (by exact V.s.g0.trans hv) ?_
      refine AW.iload dL_isStep_952 rfl ?_
      refine AW.callS (as := [vq _, vq _, vi _, vi _]) dL_isStep_954 rfl rfl rfl okL_find lkL_123 rfl rfl rfl (leb (by omega)) (leb (by omega)) rfl (kL_find J.T V.s K (a := a) (by omega) (by omega) (AW.k1 ?_))
      refine AW.top elt' ?_
      refine AW.istore dL_isStep_957 rfl ?_
      exact AW.locs (lsp 4 0 1 lt one two three nm ot th (f0 : Int) se) ⟨rfl, rfl, rfl, rfl, rfl, rfl, rfl, rfl, rfl, rfl, rfl, rfl, rfl, rfl, rfl, rfl, rfl, trivial⟩ (is_joi1 J V hv ha h8 hnm hot hth (by omega) efi ese elt (fun _ => by rw [Int.toNat_natCast]; rw [if_pos e6]) k)
    · have eB : bz (¬ Z 5 (48 * a + f0) = -1 ∧ ¬ Z 6 (48 * a + f0) = 0) = 1 := bz_1.mpr ⟨hp, e6⟩
      have eS : (32 : Int) = if Z 6 (48 * a + f0) = 0 then 0 else 32 := by rw [if_neg e6]
      refine AW.iload dL_isStep_127 rfl ?_
      refine AW.if_neT (tgt := 320) dL_isStep_129 rfl (by omega) ?_
      refine AW.iload dL_isStep_320 rfl ?_
      refine AW.iconst dL_isStep_322 (by decide) ?_
      refine AW.icmp_neT (tgt := 478) dL_isStep_323 rfl (by omega) ?_
      refine AW.iload dL_isStep_478 rfl ?_
      refine AW.if_ltF (tgt := 500) dL_isStep_480 rfl (by omega) ?_
      refine AW.aload_n dL_isStep_483 rfl ?_
      refine AW.aload dL_isStep_484 rfl ?_
      refine AW.iconst dL_isStep_486 (by decide) ?_
      refine AW.aldIE dL_isStep_487 J.T.a4 (by omega) (by omega) (by exact V.s.g0.trans hv) ?_
      refine AW.iload dL_isStep_488 rfl ?_
      refine AW.callS (as := [vq _, vi _, vi _]) dL_isStep_490 rfl rfl rfl okL_isNeeded lkL_103 rfl rfl rfl (leb (by omega)) (leb (by omega)) rfl (kL_isNd J.T V.s K (v := a) (f := f0) (by omega) (by omega) (AW.k1 ?_))
      refine AW.top (y := 1) eB ?_
      refine AW.if_eqF (tgt := 500) dL_isStep_493 rfl (by decide) ?_
      refine AW.iconst dL_isStep_496 (by decide) ?_
      refine AW.goto (tgt := 501) dL_isStep_497 rfl ?_
      refine AW.istore dL_isStep_501 rfl ?_
      refine AW.iload dL_isStep_503 rfl ?_
      refine AW.iconst dL_isStep_505 (by decide) ?_
      refine AW.icmp_neT (tgt := 644) dL_isStep_506 rfl (by omega) ?_
      refine AW.iload dL_isStep_644 rfl ?_
      refine AW.iconst dL_isStep_646 (by decide) ?_
      refine AW.icmp_neT (tgt := 912) dL_isStep_647 rfl (by omega) ?_
      refine AW.pcs (pc2 := 912) rfl ?_
      refine AW.iload dL_isStep_912 rfl ?_
      refine AW.iconst dL_isStep_914 (by decide) ?_
      refine AW.icmp_neF (tgt := 1213) dL_isStep_915 rfl (by omega) ?_
      refine AW.iload dL_isStep_918 rfl ?_
      refine AW.bipush dL_isStep_920 bp_7 (by decide) ?_
      refine AW.idiv dL_isStep_922 (by omega) ?_
      refine AW.bipush dL_isStep_923 bp_40 (by decide) ?_
      refine AW.irem dL_isStep_925 (by omega) ?_
      refine AW.if_neF (tgt := 933) dL_isStep_926 rfl (by exact e40) ?_
      refine AW.iconst dL_isStep_929 (by decide) ?_
      refine AW.goto (tgt := 943) dL_isStep_930 rfl ?_
      refine AW.istore dL_isStep_943 rfl ?_
      refine AW.aload_n dL_isStep_945 rfl ?_
      refine AW.aload dL_isStep_946 rfl ?_
      refine AW.aload dL_isStep_948 rfl ?_
      refine AW.iconst dL_isStep_950 (by decide) ?_
      refine AW.aldIE dL_isStep_951 J.T.a4 (by omega) (by omega) (by exact V.s.g0.trans hv) ?_
      refine AW.iload dL_isStep_952 rfl ?_
      refine AW.callS (as := [vq _, vq _, vi _, vi _]) dL_isStep_954 rfl rfl rfl okL_find lkL_123 rfl rfl rfl (leb (by omega)) (leb (by omega)) rfl (kL_find J.T V.s K (a := a) (by omega) (by omega) (AW.k1 ?_))
      refine AW.top elt' ?_
      refine AW.istore dL_isStep_957 rfl ?_
      exact AW.locs (lsp 4 1 1 lt one two three nm ot th (f0 : Int) se) ⟨rfl, rfl, rfl, rfl, rfl, rfl, rfl, rfl, rfl, rfl, rfl, rfl, rfl, rfl, rfl, rfl, rfl, trivial⟩ (is_joi1 J V hv ha h8 hnm hot hth (by omega) efi ese elt (fun _ => by rw [Int.toNat_natCast]; rw [if_neg e6]) k)
  · by_cases hf : fi = -1
    · refine AW.iload dL_isStep_127 rfl ?_
      refine AW.if_neT (tgt := 320) dL_isStep_129 rfl (by omega) ?_
      refine AW.iload dL_isStep_320 rfl ?_
      refine AW.iconst dL_isStep_322 (by decide) ?_
      refine AW.icmp_neT (tgt := 478) dL_isStep_323 rfl (by omega) ?_
      refine AW.iload dL_isStep_478 rfl ?_
      refine AW.if_ltT (tgt := 500) dL_isStep_480 rfl (by omega) ?_
      refine AW.iconst dL_isStep_500 (by decide) ?_
      refine AW.istore dL_isStep_501 rfl ?_
      refine AW.iload dL_isStep_503 rfl ?_
      refine AW.iconst dL_isStep_505 (by decide) ?_
      refine AW.icmp_neT (tgt := 644) dL_isStep_506 rfl (by omega) ?_
      refine AW.iload dL_isStep_644 rfl ?_
      refine AW.iconst dL_isStep_646 (by decide) ?_
      refine AW.icmp_neT (tgt := 912) dL_isStep_647 rfl (by omega) ?_
      refine AW.iload dL_isStep_912 rfl ?_
      refine AW.iconst dL_isStep_914 (by decide) ?_
      refine AW.icmp_neF (tgt := 1213) dL_isStep_915 rfl (by omega) ?_
      refine AW.iload dL_isStep_918 rfl ?_
      refine AW.bipush dL_isStep_920 bp_7 (by decide) ?_
      refine AW.idiv dL_isStep_922 (by omega) ?_
      refine AW.bipush dL_isStep_923 bp_40 (by decide) ?_
      refine AW.irem dL_isStep_925 (by omega) ?_
      refine AW.pcs (pc2 := 926) rfl ?_
      refine AW.if_neT (tgt := 933) dL_isStep_926 rfl (by exact e40) ?_
      refine AW.iconst dL_isStep_933 (by decide) ?_
      refine AW.iload dL_isStep_934 rfl ?_
      refine AW.bipush dL_isStep_936 bp_7 (by decide) ?_
      refine AW.idiv dL_isStep_938 (by omega) ?_
      refine AW.bipush dL_isStep_939 bp_30 (by decide) ?_
      refine AW.irem dL_isStep_941 (by omega) ?_
      refine AW.iaddB dL_isStep_942 (by omega) ?_
      refine AW.istore dL_isStep_943 rfl ?_
      refine AW.aload_n dL_isStep_945 rfl ?_
      refine AW.aload dL_isStep_946 rfl ?_
      refine AW.aload dL_isStep_948 rfl ?_
      refine AW.iconst dL_isStep_950 (by decide) ?_
      refine AW.aldIE dL_isStep_951 J.T.a4 (by omega) (by omega) (by exact V.s.g0.trans hv) ?_
      refine AW.iload dL_isStep_952 rfl ?_
      refine AW.callS (as := [vq _, vq _, vi _, vi _]) dL_isStep_954 rfl rfl rfl okL_find lkL_123 rfl rfl rfl (leb (by omega)) (leb (by omega)) rfl (kL_find J.T V.s K (a := a) (by omega) (by omega) (AW.k1 ?_))
      refine AW.top elt' ?_
      refine AW.istore dL_isStep_957 rfl ?_
      exact AW.locs (lsp 4 0 (2 + (three.tdiv 7).tmod 30) lt one two three nm ot th fi se) ⟨rfl, rfl, rfl, rfl, rfl, rfl, rfl, rfl, rfl, rfl, rfl, rfl, rfl, rfl, rfl, rfl, rfl, trivial⟩ (is_joi1 J V hv ha h8 hnm hot hth (by omega) efi ese elt (fun z => absurd hf z) k)
    have hf' : ¬ zfind Z 0 (Z 1 0) nm = -1 := by rw [efi]; exact hf
    obtain ⟨f0, e0⟩ := Int.eq_ofNat_of_zero_le (show 0 ≤ fi by omega)
    subst e0
    have hp : ¬ Z 5 (48 * a + f0) = -1 := by
      have q := zf_x (Z := Z) (a := a) (n := nm) (by rw [← hv]; exact hf')
      rw [← hv, efi, Int.toNat_natCast] at q
      omega
    have hn25 : nm ≤ 25 := (zf_x (Z := Z) (a := a) (n := nm) (by rw [← hv]; exact hf')).2.2
    have kd0 := K.kd (f := f0) (by omega)
    obtain ⟨fd1, fd2⟩ := f_div K (f := f0) (by omega)
    by_cases e6 : Z 6 (48 * a + f0) = 0
    · have eB : bz (¬ Z 5 (48 * a + f0) = -1 ∧ ¬ Z 6 (48 * a + f0) = 0) = 0 := bz_0.mpr (fun z => z.2 e6)
      have eS : (0 : Int) = if Z 6 (48 * a + f0) = 0 then 0 else 32 := by rw [if_pos e6]
      refine AW.iload dL_isStep_127 rfl ?_
      refine AW.if_neT (tgt := 320) dL_isStep_129 rfl (by omega) ?_
      refine AW.iload dL_isStep_320 rfl ?_
      refine AW.iconst dL_isStep_322 (by decide) ?_
      refine AW.icmp_neT (tgt := 478) dL_isStep_323 rfl (by omega) ?_
      refine AW.iload dL_isStep_478 rfl ?_
      refine AW.if_ltF (tgt := 500) dL_isStep_480 rfl (by omega) ?_
      refine AW.aload_n dL_isStep_483 rfl ?_
      refine AW.aload dL_isStep_484 rfl ?_
      refine AW.iconst dL_isStep_486 (by decide) ?_
      refine AW.aldIE dL_isStep_487 J.T.a4 (by omega) (by omega) (by exact V.s.g0.trans hv) ?_
      refine AW.iload dL_isStep_488 rfl ?_
      refine AW.callS (as := [vq _, vi _, vi _]) dL_isStep_490 rfl rfl rfl okL_isNeeded lkL_103 rfl rfl rfl (leb (by omega)) (leb (by omega)) rfl (kL_isNd J.T V.s K (v := a) (f := f0) (by omega) (by omega) (AW.k1 ?_))
      refine AW.top (y := 0) eB ?_
      refine AW.if_eqT (tgt := 500) dL_isStep_493 rfl (by decide) ?_
      refine AW.iconst dL_isStep_500 (by decide) ?_
      refine AW.istore dL_isStep_501 rfl ?_
      refine AW.iload dL_isStep_503 rfl ?_
      refine AW.iconst dL_isStep_505 (by decide) ?_
      refine AW.icmp_neT (tgt := 644) dL_isStep_506 rfl (by omega) ?_
      refine AW.iload dL_isStep_644 rfl ?_
      refine AW.iconst dL_isStep_646 (by decide) ?_
      refine AW.icmp_neT (tgt := 912) dL_isStep_647 rfl (by omega) ?_
      refine AW.iload dL_isStep_912 rfl ?_
      refine AW.pcs (pc2 := 914) rfl ?_
      refine AW.iconst dL_isStep_914 (by decide) ?_
      refine AW.icmp_neF (tgt := 1213) dL_isStep_915 rfl (by omega) ?_
      refine AW.iload dL_isStep_918 rfl ?_
      refine AW.bipush dL_isStep_920 bp_7 (by decide) ?_
      refine AW.idiv dL_isStep_922 (by omega) ?_
      refine AW.bipush dL_isStep_923 bp_40 (by decide) ?_
      refine AW.irem dL_isStep_925 (by omega) ?_
      refine AW.if_neT (tgt := 933) dL_isStep_926 rfl (by exact e40) ?_
      refine AW.iconst dL_isStep_933 (by decide) ?_
      refine AW.iload dL_isStep_934 rfl ?_
      refine AW.bipush dL_isStep_936 bp_7 (by decide) ?_
      refine AW.idiv dL_isStep_938 (by omega) ?_
      refine AW.bipush dL_isStep_939 bp_30 (by decide) ?_
      refine AW.irem dL_isStep_941 (by omega) ?_
      refine AW.iaddB dL_isStep_942 (by omega) ?_
      refine AW.istore dL_isStep_943 rfl ?_
      refine AW.aload_n dL_isStep_945 rfl ?_
      refine AW.aload dL_isStep_946 rfl ?_
      refine AW.aload dL_isStep_948 rfl ?_
      refine AW.iconst dL_isStep_950 (by decide) ?_
      refine AW.aldIE dL_isStep_951 J.T.a4 (by omega) (by omega) (by exact V.s.g0.trans hv) ?_
      refine AW.iload dL_isStep_952 rfl ?_
      refine AW.callS (as := [vq _, vq _, vi _, vi _]) dL_isStep_954 rfl rfl rfl okL_find lkL_123 rfl rfl rfl (leb (by omega)) (leb (by omega)) rfl (kL_find J.T V.s K (a := a) (by omega) (by omega) (AW.k1 ?_))
      refine AW.top elt' ?_
      refine AW.istore dL_isStep_957 rfl ?_
      exact AW.locs (lsp 4 0 (2 + (three.tdiv 7).tmod 30) lt one two three nm ot th (f0 : Int) se) ⟨rfl, rfl, rfl, rfl, rfl, rfl, rfl, rfl, rfl, rfl, rfl, rfl, rfl, rfl, rfl, rfl, rfl, trivial⟩ (is_joi1 J V hv ha h8 hnm hot hth (by omega) efi ese elt (fun _ => by rw [Int.toNat_natCast]; rw [if_pos e6]) k)
    · have eB : bz (¬ Z 5 (48 * a + f0) = -1 ∧ ¬ Z 6 (48 * a + f0) = 0) = 1 := bz_1.mpr ⟨hp, e6⟩
      have eS : (32 : Int) = if Z 6 (48 * a + f0) = 0 then 0 else 32 := by rw [if_neg e6]
      refine AW.iload dL_isStep_127 rfl ?_
      refine AW.if_neT (tgt := 320) dL_isStep_129 rfl (by omega) ?_
      refine AW.iload dL_isStep_320 rfl ?_
      refine AW.iconst dL_isStep_322 (by decide) ?_
      refine AW.icmp_neT (tgt := 478) dL_isStep_323 rfl (by omega) ?_
      refine AW.iload dL_isStep_478 rfl ?_
      refine AW.if_ltF (tgt := 500) dL_isStep_480 rfl (by omega) ?_
      refine AW.aload_n dL_isStep_483 rfl ?_
      refine AW.aload dL_isStep_484 rfl ?_
      refine AW.iconst dL_isStep_486 (by decide) ?_
      refine AW.aldIE dL_isStep_487 J.T.a4 (by omega) (by omega) (by exact V.s.g0.trans hv) ?_
      refine AW.iload dL_isStep_488 rfl ?_
      refine AW.callS (as := [vq _, vi _, vi _]) dL_isStep_490 rfl rfl rfl okL_isNeeded lkL_103 rfl rfl rfl (leb (by omega)) (leb (by omega)) rfl (kL_isNd J.T V.s K (v := a) (f := f0) (by omega) (by omega) (AW.k1 ?_))
      refine AW.top (y := 1) eB ?_
      refine AW.if_eqF (tgt := 500) dL_isStep_493 rfl (by decide) ?_
      refine AW.iconst dL_isStep_496 (by decide) ?_
      refine AW.goto (tgt := 501) dL_isStep_497 rfl ?_
      refine AW.istore dL_isStep_501 rfl ?_
      refine AW.iload dL_isStep_503 rfl ?_
      refine AW.iconst dL_isStep_505 (by decide) ?_
      refine AW.icmp_neT (tgt := 644) dL_isStep_506 rfl (by omega) ?_
      refine AW.iload dL_isStep_644 rfl ?_
      refine AW.iconst dL_isStep_646 (by decide) ?_
      refine AW.icmp_neT (tgt := 912) dL_isStep_647 rfl (by omega) ?_
      refine AW.pcs (pc2 := 912) rfl ?_
      refine AW.iload dL_isStep_912 rfl ?_
      refine AW.iconst dL_isStep_914 (by decide) ?_
      refine AW.icmp_neF (tgt := 1213) dL_isStep_915 rfl (by omega) ?_
      refine AW.iload dL_isStep_918 rfl ?_
      refine AW.bipush dL_isStep_920 bp_7 (by decide) ?_
      refine AW.idiv dL_isStep_922 (by omega) ?_
      refine AW.bipush dL_isStep_923 bp_40 (by decide) ?_
      refine AW.irem dL_isStep_925 (by omega) ?_
      refine AW.if_neT (tgt := 933) dL_isStep_926 rfl (by exact e40) ?_
      refine AW.iconst dL_isStep_933 (by decide) ?_
      refine AW.iload dL_isStep_934 rfl ?_
      refine AW.bipush dL_isStep_936 bp_7 (by decide) ?_
      refine AW.idiv dL_isStep_938 (by omega) ?_
      refine AW.bipush dL_isStep_939 bp_30 (by decide) ?_
      refine AW.irem dL_isStep_941 (by omega) ?_
      refine AW.iaddB dL_isStep_942 (by omega) ?_
      refine AW.istore dL_isStep_943 rfl ?_
      refine AW.aload_n dL_isStep_945 rfl ?_
      refine AW.aload dL_isStep_946 rfl ?_
      refine AW.aload dL_isStep_948 rfl ?_
      refine AW.iconst dL_isStep_950 (by decide) ?_
      refine AW.aldIE dL_isStep_951 J.T.a4 (by omega) (by omega) (by exact V.s.g0.trans hv) ?_
      refine AW.iload dL_isStep_952 rfl ?_
      refine AW.callS (as := [vq _, vq _, vi _, vi _]) dL_isStep_954 rfl rfl rfl okL_find lkL_123 rfl rfl rfl (leb (by omega)) (leb (by omega)) rfl (kL_find J.T V.s K (a := a) (by omega) (by omega) (AW.k1 ?_))
      refine AW.top elt' ?_
      refine AW.pcs (pc2 := 957) rfl ?_
      refine AW.istore dL_isStep_957 rfl ?_
      exact AW.locs (lsp 4 1 (2 + (three.tdiv 7).tmod 30) lt one two three nm ot th (f0 : Int) se) ⟨rfl, rfl, rfl, rfl, rfl, rfl, rfl, rfl, rfl, rfl, rfl, rfl, rfl, rfl, rfl, rfl, rfl, trivial⟩ (is_joi1 J V hv ha h8 hnm hot hth (by omega) efi ese elt (fun _ => by rw [Int.toNat_natCast]; rw [if_neg e6]) k)
end D7
