/-! ===== the face: text ===== -/
section T6
variable {Q : AH → AO → Prop} {h g : AH} {Z : ZT} {c b s : Nat}
theorem nSB_l {x y z : Nat} (hx : ¬ x = 96) : nSB b (x, y, z) := fun w => by
  rcases w with w | w
  · exact hx (congrArg (fun n : Nm => n.1) w)
  · exact hx (congrArg (fun n : Nm => n.1) w)
theorem SV.sb96 (S : SV h Z s) (b1 : Z 1 s ≤ 23) (F : Fr (nSB b) h g) : SV g Z s :=
  S.fr3 b1 F (fun x _ => nSB_l (by decide)) (fun v _ => ⟨nSB_l (by decide), nSB_l (by decide), nSB_l (by decide)⟩)
theorem cfn_f {P : Nm → Prop} (F : Fr P h g) (P0 : P (4, s, 0)) (PV : ∀ v : Nat, P (4, s, 100 + v)) {v n : Int} : cfn g s v n = cfn h s v n := by
  unfold cfn
  rw [F.I P0, F.I (PV _)]
theorem HG_f (S : SV h Z s) (K : ZS Z s) (hw : 0 ≤ hI h (4, s, 0) 1 ∧ hI h (4, s, 0) 1 ≤ 46) {v : Int} (F0 : Fr (nSB b) h g) : ∀ G, Fr (nSB b) g G → SchW G s ∧ SB G s ∧ ∀ n, cfn G s v n = cfn g s v n := fun G F => by
  have S1 := S.sb96 K.b1.2 (F0.tr F)
  exact ⟨S1.1, S1.sb K (by rw [(F0.tr F).I (nSB_l (by decide))]; exact hw), fun n => cfn_f F (nSB_l (by decide)) (fun _ => nSB_l (by decide))⟩
/-- a name in a version, as text tells it -/
theorem TN_f (S : SV h Z s) (K : ZS Z s) {v L : Nat} {f : Int} {T : Nat → Int} (hv : (v : Int) ≤ Z 1 s) (hf : -1 ≤ f ∧ f < Z 2 s) (hp : ¬ f = -1 → ¬ Z 5 (48 * (24 * s + v) + f.toNat) = -1)
    (t : ¬ f = -1 → T L = 32 ∧ T (L + 1) = 97 + Z 5 (48 * (24 * s + v) + f.toNat)) : TN h s (v : Int) f L T := by
  intro hne
  have b1 := K.b1
  have b2 := K.b2
  have b5 := K.2.2.1 v f.toNat (by omega) (by omega)
  have e5 := hp hne
  obtain ⟨t1, t2⟩ := t hne
  have nm := fun n hn => S.2.2.2.1 v n hv hn
  have hn26 : (Z 5 (48 * (24 * s + v) + f.toNat)).toNat < 26 := by omega
  have ec : ∀ n : Nat, n < 26 → cfn h s (v : Int) (n : Int) = hI h (4, s, 100 + v) n := fun n hn => by
    unfold cfn
    rw [S.hd, if_pos ⟨by omega, by omega⟩, Int.toNat_natCast, Int.toNat_natCast]
  refine ⟨(Z 5 (48 * (24 * s + v) + f.toNat)).toNat, hn26, ?_, fun j hj => ?_, t1, by rw [t2]; omega⟩
  · rw [ec _ hn26, ((nm _ hn26).2 f.toNat (by omega)).mpr (by omega)]; omega
  · rw [ec j (by omega)]
    intro z
    have := ((nm j (by omega)).2 f.toNat (by omega)).mp (by omega)
    omega
set_option maxHeartbeats 4000000 in
theorem sX7_text {s a i : Int} (S : SIM h Z c) (I : ZI Z) (hW7 : WW h) (f0 : hT h (nSb b) = none) (f1 : hT h (nVb b) = none)
    (k1 : zcTxt Z s a i = 1 → ∀ g, Fr (nSB b) h g → Q g (.inr eIx)) (k0 : zcTxt Z s a i = 0 → ∀ g, Fr (nSB b) h g → Q g (.inl (some (vi (zsgn Z s a i))))) :
    AC mX7_text fX7_text loX7_text 4 32 h [vr mF, vi s, vi a, vi i] Q := by
  obtain ⟨A, S⟩ := S
  have W := S.1.1
  have C := S.1.2.1
  have eC := S.1.2.2.1.1
  have zz := S.zz
  refine AC.mk (by decide) (Nat.le_of_ble_eq_true rfl) ?_
  by_cases hs : ¬ (0 ≤ s ∧ s < Z 0 0)
  · have e1 : zcTxt Z s a i = 1 := bz_1.mpr (fun z => hs z.1.1)
    refine AW.aload_n dX7_text_0 rfl ?_
    refine AW.iload_n dX7_text_1 rfl ?_
    refine AW.callV (as := [vi _]) dX7_text_2 rfl rfl rfl okX7_schemaAt lkX7_58 W.o rfl rfl rfl rfl rfl rfl rfl (kX7_schemaAt W C (fun _ => k1 e1 h Fr.rf) (fun z => absurd (eC ▸ z) hs))
  have hs := Classical.not_not.mp hs
  obtain ⟨s, rfl⟩ := Int.eq_ofNat_of_zero_le hs.1
  obtain ⟨S1, K, SQ1⟩ := S.sc hs.2
  have SQ1 := SQ1 (by omega)
  have b1 := K.b1
  have b2 := K.b2
  have W5 := S1.1
  have hw : 0 ≤ hI h (4, s, 0) 1 ∧ hI h (4, s, 0) 1 ≤ 46 := by rw [SQ1.1]; exact SQ1.2.1
  have B5 := S1.sb K hw
  refine AW.aload_n dX7_text_0 rfl ?_
  refine AW.iload_n dX7_text_1 rfl ?_
  refine AW.callV (as := [vi _]) dX7_text_2 rfl rfl rfl okX7_schemaAt lkX7_58 W.o rfl rfl rfl rfl rfl rfl rfl (kX7_schemaN W C (by rw [eC]; exact hs.2) (AW.k1 ?_))
  refine AW.astore dX7_text_5 rfl ?_
  refine AW.aload dX7_text_7 rfl ?_
  refine AW.iload_n dX7_text_9 rfl ?_
  by_cases ha : ¬ (1 ≤ a ∧ a ≤ Z 1 s)
  · have e1 : zcTxt Z (s : Int) a i = 1 := bz_1.mpr (fun z => ha ⟨by omega, z.1.2.2⟩)
    have en : (if 0 ≤ a ∧ a ≤ hI h (4, s, 0) 0 then hR h (4, s, 5) a.toNat else none) = none := by
      rw [S1.hd]
      by_cases y : 0 ≤ a ∧ a ≤ Z 1 s
      · rw [if_pos y, show a.toNat = 0 by omega, S1.s0]
      · rw [if_neg y]
    refine AW.callV (as := [vi _]) dX7_text_10 rfl rfl rfl okX4_stepTo lkX7_193 W5.o rfl rfl rfl rfl rfl rfl rfl (kX4_stepTo W5 B5 (AW.k1 ?_))
    rw [en]
    refine AW.astore dX7_text_13 rfl ?_
    refine AW.aload dX7_text_15 rfl ?_
    refine AW.ifnonnull (tgt := 30) dX7_text_17 rfl (fun _ z => by cases z) (fun _ => ?_)
    exact AW.throwS dX7_text_20 dX7_text_23 dX7_text_24 dX7_text_26 dX7_text_29 rfl okTX7_186 strX7_188 rfl rfl rfl rfl rfl (k1 e1 h Fr.rf)
  have ha := Classical.not_not.mp ha
  obtain ⟨a, rfl⟩ := Int.eq_ofNat_of_zero_le (show 0 ≤ a by omega)
  have a1 : 1 ≤ a := by omega
  have a2 : (a : Int) ≤ Z 1 s := ha.2
  obtain ⟨st1, PW, p7, -, p8, p8', p9, p9'⟩ := S1.st a1 a2
  obtain ⟨⟨z1, z2, z3, z4⟩, zk, zq, zf0, zf1, -⟩ := K.zp a1 a2
  have en : (if 0 ≤ (a : Int) ∧ (a : Int) ≤ hI h (4, s, 0) 0 then hR h (4, s, 5) (a : Int).toNat else none) = some (5, 24 * s + a, 0) := by
    rw [S1.hd, if_pos ⟨by omega, a2⟩, Int.toNat_natCast]; exact st1
  refine AW.callV (as := [vi _]) dX7_text_10 rfl rfl rfl okX4_stepTo lkX7_193 W5.o rfl rfl rfl rfl rfl rfl rfl (kX4_stepTo W5 B5 (AW.k1 ?_))
  rw [en]
  refine AW.astore dX7_text_13 rfl ?_
  refine AW.aload dX7_text_15 rfl ?_
  refine AW.ifnonnull (tgt := 30) dX7_text_17 rfl (fun _ _ => ?_) (fun z => by cases z)
  -- the letters
  have kd : 0 ≤ Z 7 (24 * s + a) ∧ Z 7 (24 * s + a) ≤ 6 := by
    rcases zk with k | k | k | k | k | k <;> omega
  obtain ⟨w, hw6, ew⟩ : ∃ w : Nat, w < 7 ∧ Z 7 (24 * s + a) = (w : Int) := ⟨(Z 7 (24 * s + a)).toNat, by omega, by omega⟩
  have ep : (24 * (s : Int) + (a : Int)).toNat = 24 * s + a := by omega
  have e7 : Z 7 (24 * (s : Int) + (a : Int)).toNat = (w : Int) := by rw [ep]; exact ew
  have q8 : zfr Z (24 * (s : Int) + (a : Int)) 0 = Z 8 (2 * (24 * s + a)) := by unfold zfr; congr 1
  have q8' : zfr Z (24 * (s : Int) + (a : Int)) 1 = Z 8 (2 * (24 * s + a) + 1) := by unfold zfr; congr 1
  have q9 : zbe Z (24 * (s : Int) + (a : Int)) 0 = Z 9 (2 * (24 * s + a)) := by unfold zbe; congr 1
  have q9' : zbe Z (24 * (s : Int) + (a : Int)) 1 = Z 9 (2 * (24 * s + a) + 1) := by unfold zbe; congr 1
  have sF := I.1.2.2.2.2.2.2.2 (s : Int) (a : Int) (by omega) (by omega) (by omega) (by rw [Int.toNat_natCast]; exact a2)
  have N := I.1.2.2.2.2.2.1
  obtain ⟨u0, u1⟩ := zsg1_f (Z := Z) (s := (s : Int)) (a := (a : Int)) sF.1
  obtain ⟨u2, u3⟩ := zsg2_b (Z := Z) (s := (s : Int)) (a := (a : Int)) sF.2
  have fv := (zfn_v (Z := Z) sF.1).2
  have bv := zbn_v (Z := Z) (p := 24 * (s : Int) + (a : Int))
  have nz := zsgn_nz N (i := i) e7
  have lw := zlen_w hw6
  rw [lw] at nz
  simp only [q8, q8'] at u0 u1 fv
  simp only [q9, q9'] at u2 u3 bv
  have Tr : ∀ d : Nat, zsgn Z (s : Int) (a : Int) ((wln.getD w 0 + d : Nat) : Int) = zsg1 Z (s : Int) (a : Int) (24 * (s : Int) + (a : Int)) (d : Int) := fun d => by
    have := zsgn_r (s := (s : Int)) (a := (a : Int)) (d := (d : Int)) e7 (by omega)
    rw [lw] at this
    rw [← this]; congr 1
  have hlen : wln.getD w 0 < 7 := wln_b
  have cf : cnt2 (Z 8 (2 * (24 * s + a))) + cnt2 (Z 8 (2 * (24 * s + a) + 1)) ≤ 4 ∧ cnt2 (Z 9 (2 * (24 * s + a))) + cnt2 (Z 9 (2 * (24 * s + a) + 1)) ≤ 4 := by
    unfold cnt2
    (repeat' split) <;> omega
  have csum : wln.getD w 0 + (cnt2 (Z 8 (2 * (24 * s + a))) + cnt2 (Z 8 (2 * (24 * s + a) + 1))) + 5 ≤ 16 ∧ wln.getD w 0 + (cnt2 (Z 8 (2 * (24 * s + a))) + cnt2 (Z 8 (2 * (24 * s + a) + 1))) + 1 + 4 ≤ 16 := by omega
  have B4 : StpW h (24 * s + a) := PW
  have e4 : hI h (5, 24 * s + a, 0) 0 = (w : Int) := by rw [p7]; exact ew
  -- the builder
  refine AW.new (nSb b) f0 dX7_text_30 rfl inC0 lkX7_197 insJ4 iniJ4 rfl rfl ?_
  refine AW.dup dX7_text_33 rfl ?_
  have n0 : hT (aN h (nSb b) 0 0) (nSb b) = some (0, 0) := by rw [hT_aN, if_pos rfl]
  have n1 : hT (aN h (nSb b) 0 0) (nVb b) = none := by rw [hT_aN, if_neg (fun z => nSb_v z.symm)]; exact f1
  refine AW.callI (as := []) dX7_text_34 rfl rfl rfl okJ4_init_da8c8 lkX7_199 rfl rfl rfl rfl rfl (kJ4_init n0 n1 (AW.k0 ?_))
  have F1 : Fr (nSB b) h (sI (sR (aN (aN h (nSb b) 0 0) (nVb b) 30 16) (nSb b) 0 (some (nVb b))) (nSb b) 1 0) := (((Fr.rf.nw (fun z => z (Or.inl rfl))).nw (fun z => z (Or.inr rfl))).wR (fun z => z (Or.inl rfl))).wI (fun z => z (Or.inl rfl))
  have X1 : SbW (sI (sR (aN (aN h (nSb b) 0 0) (nVb b) 30 16) (nSb b) 0 (some (nVb b))) (nSb b) 1 0) b := by
    refine ⟨?_, ?_, ?_, ?_⟩
    · rw [hT_sI, hT_sR, hT_aN, if_neg nSb_v]; exact n0
    · rw [hR_sI, hR_sR, if_pos ⟨rfl, rfl⟩]
    · rw [hT_sI, hT_sR, hT_aN, if_pos rfl]
    · rw [hI_sI, if_pos ⟨rfl, rfl⟩]
  have X0 : hI (sI (sR (aN (aN h (nSb b) 0 0) (nVb b) 30 16) (nSb b) 0 (some (nVb b))) (nSb b) 1 0) (nSb b) 3 = 0 := by
    rw [hI_sI, if_neg (fun z => by omega), hI_sR, hI_aN, if_neg nSb_v, hI_aN, if_pos rfl]
  refine AW.gen (P := fun g => Fr (nSB b) h g ∧ SbW g b ∧ hI g (nSb b) 3 = 0) ⟨F1, X1, X0⟩ (fun g1 ⟨F1, X1, X0⟩ => ?_)
  have hW1 : WW g1 := fun j hj => by rw [F1.T (nSB_l (by decide)), F1.T (nSB_l (by decide))]; exact hW7 j hj
  refine AW.astore dX7_text_37 rfl ?_
  refine AW.aload dX7_text_39 rfl ?_
  refine AW.aload dX7_text_41 rfl ?_
  refine AW.getIE (x := (w : Int)) (j := 0) (kc := 7) (len := 0) (by rw [F1.T (nSB_l (by decide))]; exact B4.1) dX7_text_43 lkX7_200 rfl rfl inC7 rfl (by rw [F1.I (nSB_l (by decide))]; exact e4) ?_
  refine AW.callS (as := [vi _]) dX7_text_46 rfl rfl rfl okX7_wordOf lkX7_203 rfl rfl rfl rfl rfl rfl (kX7_wordOf hW1 (by omega) (AW.k1 ?_))
  rw [Int.toNat_natCast]
  refine AW.callV (as := [vr _]) dX7_text_49 rfl rfl rfl okJ4_append_15ec4 lkX7_207 X1.1 rfl rfl rfl rfl rfl rfl rfl (kJ4_appendS hw6 hW1 X1 X0 (AW.k1 ?_))
  refine AW.pop dX7_text_52 rfl ?_
  have F2 : Fr (nSB b) h (sI (hfl g1 (nVb b) (wlt w) (wln.getD w 0)) (nSb b) 3 (0 + ((wln.getD w 0 : Nat) : Int))) := F1.tr ((Fr.rf.fl (fun z => z (Or.inr rfl))).wI (fun z => z (Or.inl rfl)))
  have X2 : SbT (sI (hfl g1 (nVb b) (wlt w) (wln.getD w 0)) (nSb b) 3 (0 + ((wln.getD w 0 : Nat) : Int))) b (wln.getD w 0) (fun j => zsgn Z (s : Int) (a : Int) (j : Int)) := by
    obtain ⟨x1, x2, x3, x4⟩ := X1
    refine ⟨⟨x1, x2, x3, ?_⟩, ?_, by omega, fun j hj => ?_⟩
    · rw [hI_sI, if_neg (fun z => by omega), hI_hfl, if_neg (fun z => nSb_v z.1)]; exact x4
    · rw [hI_sI, if_pos ⟨rfl, rfl⟩]; omega
    · have e : zsgn Z (s : Int) (a : Int) (j : Int) = wlt w j := by
        rw [zsgn_l e7 (by omega) (by rw [lw]; omega)]; exact zlet_w hw6 hj
      rw [hI_sI, if_neg (fun z => nSb_v z.1.symm), hI_hfl, if_pos ⟨rfl, hj⟩]
      dsimp only
      rw [e]
      exact ⟨rfl, wlt_b⟩
  refine AW.gen (P := fun g => Fr (nSB b) h g ∧ SbT g b (wln.getD w 0) (fun j => zsgn Z (s : Int) (a : Int) (j : Int))) ⟨F2, X2⟩ (fun g2 ⟨F2, X2⟩ => ?_)
  clear F1 X1 X0 hW1
  refine AW.aload dX7_text_53 rfl ?_
  refine AW.aload dX7_text_55 rfl ?_
  refine AW.iload_n dX7_text_57 rfl ?_
  refine AW.iconst dX7_text_58 (by decide) ?_
  refine AW.isubB dX7_text_59 (by omega) ?_
  refine AW.aload dX7_text_60 rfl ?_
  refine AW.getRE (o := some (6, 24 * s + a, 0)) (j := 1) (kc := 7) (len := 0) (by rw [F2.T (nSB_l (by decide))]; exact B4.1) dX7_text_62 lkX7_211 rfl rfl inC7 rfl (by rw [F2.R (nSB_l (by decide))]; exact B4.2.1) ?_
  have SG2 := S1.sb96 b1.2 F2
  have ea : ((a : Int) - 1) = (((a - 1 : Nat)) : Int) := by omega
  have t8 : TN g2 s ((a : Int) - 1) (Z 8 (2 * (24 * s + a))) (wln.getD w 0) (fun j => zsgn Z (s : Int) (a : Int) (j : Int)) := by
    rw [ea]
    refine TN_f SG2 K (by omega) z1 (fun z => ?_) (fun z => ?_)
    · have := zf0 z; rwa [show 48 * (24 * s + a - 1) = 48 * (24 * s + (a - 1)) by omega] at this
    · obtain ⟨y1, y2⟩ := u0 z
      have r0 := Tr 0
      have r1 := Tr 1
      rw [Nat.add_zero] at r0
      refine ⟨r0.trans y1, r1.trans (y2.trans ?_)⟩
      congr 2; omega
  have t8' : TN g2 s ((a : Int) - 1) (Z 8 (2 * (24 * s + a) + 1)) (wln.getD w 0 + cnt2 (Z 8 (2 * (24 * s + a)))) (fun j => zsgn Z (s : Int) (a : Int) (j : Int)) := by
    rw [ea]
    by_cases z0 : Z 8 (2 * (24 * s + a)) = -1
    · have := sF.1 (by rw [q8]; exact z0)
      rw [q8'] at this
      exact fun z => absurd this z
    refine TN_f SG2 K (by omega) z2 (fun z => ?_) (fun z => ?_)
    · have := zf1 z; rwa [show 48 * (24 * s + a - 1) = 48 * (24 * s + (a - 1)) by omega] at this
    · obtain ⟨y1, y2⟩ := u1 z
      have ec : cnt2 (Z 8 (2 * (24 * s + a))) = 2 := if_neg z0
      rw [ec]
      refine ⟨(Tr 2).trans y1, (Tr 3).trans (y2.trans ?_)⟩
      congr 2; omega
  refine AW.callS (as := [vr _, vr _, vi _, vr _]) dX7_text_65 rfl rfl rfl okX7_tellNames lkX7_215 rfl rfl rfl rfl rfl rfl (kX7_tellNames (HG_f S1 K hw F2) (nSB_l (by decide)) (by rw [F2.T (nSB_l (by decide))]; exact B4.2.2.2.1) (by rw [F2.I (nSB_l (by decide))]; exact p8) (by rw [F2.I (nSB_l (by decide))]; exact p8') X2 (by omega) t8 t8' (fun g3 F3 X3 => AW.k0 ?_))
  have F3 := F2.tr F3
  clear t8 t8' SG2 X2 F2
  have L3 : wln.getD w 0 + cnt2 (Z 8 (2 * (24 * s + a))) + cnt2 (Z 8 (2 * (24 * s + a) + 1)) = wln.getD w 0 + (cnt2 (Z 8 (2 * (24 * s + a))) + cnt2 (Z 8 (2 * (24 * s + a) + 1))) := by omega
  rw [L3] at X3
  generalize hcF : cnt2 (Z 8 (2 * (24 * s + a))) + cnt2 (Z 8 (2 * (24 * s + a) + 1)) = cF at *
  generalize hcB : cnt2 (Z 9 (2 * (24 * s + a))) + cnt2 (Z 9 (2 * (24 * s + a) + 1)) = cB at *
  have tm : (fun j : Nat => zsgn Z (s : Int) (a : Int) (j : Int)) (wln.getD w 0 + cF) = 62 := by
    refine (Tr cF).trans ?_
    rw [← fv]; exact zsg1_m
  refine AW.aload dX7_text_68 rfl ?_
  refine AW.bipush dX7_text_70 bp_62 (by decide) ?_
  obtain ⟨X4, F4⟩ := X3.app (c := 62) (by omega) (by decide) tm
  refine AW.callV (as := [vi _]) dX7_text_72 rfl rfl rfl okJ4_append_cf468 lkX7_219 X3.1.1 rfl rfl rfl rfl rfl rfl rfl (kJ4_appendC X3.1 X3.2.1 (by omega) (by decide) (AW.k1 ?_))
  refine AW.pop dX7_text_75 rfl ?_
  have F4 := F3.tr F4
  refine AW.gen (P := fun g => Fr (nSB b) h g ∧ SbT g b (wln.getD w 0 + cF + 1) (fun j => zsgn Z (s : Int) (a : Int) (j : Int))) ⟨F4, X4⟩ (fun g4 ⟨F4, X4⟩ => ?_)
  clear F3 X3
  refine AW.aload dX7_text_76 rfl ?_
  refine AW.aload dX7_text_78 rfl ?_
  refine AW.iload_n dX7_text_80 rfl ?_
  refine AW.aload dX7_text_81 rfl ?_
  refine AW.getRE (o := some (7, 24 * s + a, 0)) (j := 2) (kc := 7) (len := 0) (by rw [F4.T (nSB_l (by decide))]; exact B4.1) dX7_text_83 lkX7_222 rfl rfl inC7 rfl (by rw [F4.R (nSB_l (by decide))]; exact B4.2.2.1) ?_
  have SG4 := S1.sb96 b1.2 F4
  have Tb : ∀ d : Nat, zsgn Z (s : Int) (a : Int) ((wln.getD w 0 + cF + 1 + d : Nat) : Int) = zsg2 Z (s : Int) (a : Int) (24 * (s : Int) + (a : Int)) (d : Int) := fun d => by
    have := Tr (cF + 1 + d)
    rw [show wln.getD w 0 + (cF + 1 + d) = wln.getD w 0 + cF + 1 + d by omega] at this
    refine this.trans ?_
    have := zsg1_2 (Z := Z) (s := (s : Int)) (a := (a : Int)) (p := 24 * (s : Int) + (a : Int)) (d := (d : Int)) (by omega)
    rw [fv] at this
    refine Eq.trans ?_ this
    congr 1
  have pr : ∀ f : Int, 0 ≤ f → f < Z 2 s → (f = Z 9 (2 * (24 * s + a)) ∨ f = Z 9 (2 * (24 * s + a) + 1)) → ¬ Z 5 (48 * (24 * s + a) + f.toNat) = -1 := fun f f0 fl fe => (zq f.toNat (by omega)).mpr (Or.inr (by omega))
  have t9 : TN g4 s (a : Int) (Z 9 (2 * (24 * s + a))) (wln.getD w 0 + cF + 1) (fun j => zsgn Z (s : Int) (a : Int) (j : Int)) := by
    refine TN_f SG4 K (by omega) z3 (fun z => pr _ (by omega) z3.2 (Or.inl rfl)) (fun z => ?_)
    obtain ⟨y1, y2⟩ := u2 z
    refine ⟨(Tb 0).trans y1, (Tb 1).trans (y2.trans ?_)⟩
    congr 2; omega
  have t9' : TN g4 s (a : Int) (Z 9 (2 * (24 * s + a) + 1)) (wln.getD w 0 + cF + 1 + cnt2 (Z 9 (2 * (24 * s + a)))) (fun j => zsgn Z (s : Int) (a : Int) (j : Int)) := by
    by_cases z0 : Z 9 (2 * (24 * s + a)) = -1
    · have := sF.2 (by rw [q9]; exact z0)
      rw [q9'] at this
      exact fun z => absurd this z
    refine TN_f SG4 K (by omega) z4 (fun z => pr _ (by omega) z4.2 (Or.inr rfl)) (fun z => ?_)
    obtain ⟨y1, y2⟩ := u3 z
    have ec : cnt2 (Z 9 (2 * (24 * s + a))) = 2 := if_neg z0
    rw [ec]
    refine ⟨(Tb 2).trans y1, (Tb 3).trans (y2.trans ?_)⟩
    congr 2; omega
  refine AW.callS (as := [vr _, vr _, vi _, vr _]) dX7_text_86 rfl rfl rfl okX7_tellNames lkX7_215 rfl rfl rfl rfl rfl rfl (kX7_tellNames (HG_f S1 K hw F4) (nSB_l (by decide)) (by rw [F4.T (nSB_l (by decide))]; exact B4.2.2.2.2) (by rw [F4.I (nSB_l (by decide))]; exact p9) (by rw [F4.I (nSB_l (by decide))]; exact p9') X4 (by omega) t9 t9' (fun g5 F5 X5 => AW.k0 ?_))
  have F5 := F4.tr F5
  clear t9 t9' SG4 X4 F4
  rw [show wln.getD w 0 + cF + 1 + cnt2 (Z 9 (2 * (24 * s + a))) + cnt2 (Z 9 (2 * (24 * s + a) + 1)) = wln.getD w 0 + cF + 1 + cB by omega] at X5
  have nz2 : (¬ zsgn Z (s : Int) (a : Int) i = 0) ↔ (0 ≤ i ∧ i < ((wln.getD w 0 + cF + 1 + cB : Nat) : Int)) := by
    rw [nz, fv, bv]
    exact ⟨fun z => ⟨z.1, by have := z.2; omega⟩, fun z => ⟨z.1, by have := z.2; omega⟩⟩
  have tw : (0 ≤ i ∧ i < ((wln.getD w 0 + cF + 1 + cB : Nat) : Int)) → zcTxt Z (s : Int) (a : Int) i = 0 := fun z => bz_0.mpr (fun y => y ⟨⟨hs, by omega, by rw [Int.toNat_natCast]; exact a2⟩, by omega, nz2.mpr z⟩)
  have tn : ¬ (0 ≤ i ∧ i < ((wln.getD w 0 + cF + 1 + cB : Nat) : Int)) → zcTxt Z (s : Int) (a : Int) i = 1 := fun z => bz_1.mpr (fun y => z (nz2.mp y.2.2))
  refine AW.iload_n dX7_text_89 rfl ?_
  refine AW.if_lt (tgt := 102) dX7_text_90 rfl (fun c1 => ?_) (fun c1 => ?_)
  · exact AW.throwS dX7_text_102 dX7_text_105 dX7_text_106 dX7_text_108 dX7_text_111 rfl okTX7_186 strX7_229 rfl rfl rfl rfl rfl (k1 (tn (fun z => by omega)) g5 F5)
  refine AW.iload_n dX7_text_93 rfl ?_
  refine AW.aload dX7_text_94 rfl ?_
  refine AW.callV (as := []) dX7_text_96 rfl rfl rfl okJ4_length_8abf5 lkX7_225 X5.1.1 rfl rfl rfl rfl rfl rfl rfl (kJ4_length X5.1 X5.2.1 (AW.k1 ?_))
  refine AW.icmp_lt (tgt := 112) dX7_text_99 rfl (fun c2 => ?_) (fun c2 => ?_)
  · have lt := X5.2.2.2 i.toNat (by omega)
    dsimp only at lt
    rw [show ((i.toNat : Nat) : Int) = i by omega] at lt
    refine AW.aload dX7_text_112 rfl ?_
    refine AW.iload_n dX7_text_114 rfl ?_
    refine AW.callV (as := [vi _]) dX7_text_115 rfl rfl rfl okJ4_charAt_5068e lkX7_231 X5.1.1 rfl rfl rfl rfl rfl rfl rfl (kJ4_charAt X5.1 X5.2.1 X5.2.2.1 c1 c2 (by rw [lt.1]; exact lt.2) (AW.k1 ?_))
    refine AW.top lt.1 ?_
    exact AW.cret dX7_text_118 rfl ⟨lt.2.1, by have := lt.2.2; omega⟩ (k0 (tw ⟨c1, c2⟩) g5 F5)
  · exact AW.throwS dX7_text_102 dX7_text_105 dX7_text_106 dX7_text_108 dX7_text_111 rfl okTX7_186 strX7_229 rfl rfl rfl rfl rfl (k1 (tn (fun z => by omega)) g5 F5)
end T6
