/-! ===== the relation: the face: undo ===== -/
section K9
variable {Q : AH → AO → Prop} {h g H G : AH} {Z Y X : ZT} {c q s a b r x m v k t : Nat} {A : Nat → Nat}
set_option maxHeartbeats 1000000 in
theorem X_und (S : SIMq A 9 h Z c) (NQ0 : NQ Z) (hm : (m : Int) < Z 28 0) (ht : (t : Int) < Z 32 0) (er : Z 34 t = (r : Int)) (hr : (r : Int) < Z 19 0) (el : hI h (9, r, 0) 2 = (t : Int)) (em : Z 31 m = (t : Int)) :
    SIMq A 9 (sI (sI (ccp h 13 r 14 t) (9, r, 0) 2 (hI h (11, t, 0) 2)) (10, m, 0) 2 (Z 33 t)) (zUnd Z m t) c ∧ Fr nMo h (sI (sI (ccp h 13 r 14 t) (9, r, 0) 2 (hI h (11, t, 0) 2)) (10, m, 0) 2 (Z 33 t)) := by
  have zz := S.zz
  have z19 := S.c19
  have cc := S.1.2.2.2.2.2
  obtain ⟨RWr, r2, R3, r4, r5, r6, r7⟩ := S.2.2.2.2.1 r hr
  obtain ⟨k1, k2, k3, k4, k5, k6, k7, k8, k9, k10, k11⟩ := S.2.2.2.2.2.2 t ht
  rw [er, Int.toNat_natCast] at k8 k9 k10
  obtain ⟨s, es⟩ := Int.eq_ofNat_of_zero_le r2.1
  have eS : (Z 20 r).toNat = s := by omega
  rw [eS] at RWr R3 r7 k9 k10
  have hs : (s : Int) < Z 0 0 := by omega
  obtain ⟨S1, K, -⟩ := S.sc hs
  have b1 := K.b1
  have r7 := r7 (by omega)
  rw [el, Int.toNat_natCast] at r7
  have J := r7.2
  have hA := J.1
  have hVV : Z 21 r + Z 37 t = 2 * (A t : Int) - 1 := by have := J.2.1; rw [R3.1.1, k10.2.1.1] at this; exact this
  have ea : zundA Z (r : Int) (t : Int) = ((A t : Nat) : Int) := by
    have := k10.2.1.2.1
    unfold zundA
    rw [Int.toNat_natCast, Int.toNat_natCast]
    split <;> omega
  obtain ⟨U, UX⟩ := UR_und (m := (m : Int)) (t := t) K hA.1 hA.2 er es ea
  have q : (Z 7 (24 * s + A t) = 3 ∨ Z 7 (24 * s + A t) = 4) → ∀ i j, i < 2 → j < 2 → ¬ Z 9 (2 * (24 * s + A t) + j) = -1 → ¬ Z 9 (2 * (24 * s + A t) + j) = Z 8 (2 * (24 * s + A t) + i) := NQ0 s (A t) (by omega) hA.1 hA.2
  have W13 : StaW (ccp h 13 r 14 t) 13 r := R3.2.1
  have CS : cpS h (ccp h 13 r 14 t) 14 t 13 r := ccp_I (by decide)
  have o := fun (j : Nat) hj => zUnd_o (Z := Z) (m := (m : Int)) (t := (t : Int)) (j := j) hj
  have R9 : RW (ccp h 13 r 14 t) (zUnd Z m t) s 13 r r := U_rw rfl hA.1 hA.2 K q R3 J k10 W13 CS U (by rw [o 1 rfl]) (o 5 rfl) (o 7 rfl)
  have y26 : ∀ x, zUnd Z (m : Int) (t : Int) 26 x = if x = r then Z 36 t else Z 26 x := fun x => by
    unfold zUnd
    rw [Int.toNat_natCast, er, Int.toNat_natCast]
    refine zs_ne rfl ?_
    rw [zs_if, zUnd2_o rfl]
  have y31 : ∀ x, zUnd Z (m : Int) (t : Int) 31 x = if x = m then Z 33 t else Z 31 x := fun x => by
    unfold zUnd
    rw [Int.toNat_natCast, Int.toNat_natCast, zs_if, er, Int.toNat_natCast]
    congr 1
    exact zs_ne rfl (by rw [zUnd2_o rfl])
  have y20 : zUnd Z (m : Int) (t : Int) 20 = Z 20 := o 20 rfl
  generalize zUnd Z (m : Int) (t : Int) = Yf at *
  have F1 : Fr (nRw s r) h (ccp h 13 r 14 t) := Fr.rf.kccp (fun j z => z.2.1 ⟨rfl, rfl⟩)
  have F2 : Fr (nRw s r) h (sI (ccp h 13 r 14 t) (9, r, 0) 2 (hI h (11, t, 0) 2)) := F1.wI (fun z => z.2.2.1 rfl)
  have F13 : Fr (fun n => ¬ (n.1 = 13 ∧ n.2.1 = r)) h (ccp h 13 r 14 t) := Fr.rf.kccp (fun j z => z ⟨rfl, rfl⟩)
  have F9 : Fr (fun n => ¬ n = (9, r, 0)) (ccp h 13 r 14 t) (sI (ccp h 13 r 14 t) (9, r, 0) 2 (hI h (11, t, 0) 2)) := Fr.rf.wI (fun z => z rfl)
  refine ⟨?_, ((F2.mo (fun n z => ⟨fun w => ?_, fun w => ?_, fun w => ?_, fun w => ?_⟩)).wI (fun z => ?_))⟩
  · obtain ⟨Y2, eY2⟩ : ∃ Y2 : ZT, Y2 = fun j => if j = 31 then Z j else Yf j := ⟨_, rfl⟩
    have w1 : ∀ j, ¬ j = 31 → Y2 j = Yf j := fun j hj => by rw [eY2]; exact if_neg hj
    have w31 : Y2 31 = Z 31 := by rw [eY2]; exact if_pos rfl
    clear eY2
    have oo : ∀ j, rwj j = false → Y2 j = Z j := fun j hj => by
      by_cases e : j = 31
      · subst e; exact w31
      · rw [w1 j e]
        refine o j ?_
        unfold rwj at hj
        simp only [Bool.or_eq_false_iff, beq_eq_false_iff_ne] at hj
        simp only [Bool.and_eq_true, bne_iff_ne, ne_eq]
        omega
    have S2 : SIMq A 9 (sI (ccp h 13 r 14 t) (9, r, 0) 2 (hI h (11, t, 0) 2)) Y2 c := by
      refine S.rw (s := s) (r := r) F2 hs hr ?_ ?_ oo (fun x hx => ⟨?_, fun hx2 => ⟨?_, ?_⟩⟩) ?_ (Nat.le_refl _) ?_
      · exact (S.1.2.2.2.1.f F13 (fun j => by simp)).f F9 (fun j => by simp)
      · have Ws := S1.1
        unfold SchW at *
        exact Ws
      · rw [w1 20 (by decide), y20]
      · rw [w1 26 (by decide), y26, if_neg hx2]
      · have a := UX x (Ne.symm hx2)
        unfold zRw at a ⊢
        rw [w1 21 (by decide), w1 22 (by decide), w1 23 (by decide), w1 24 (by decide), w1 25 (by decide)]
        exact a
      · rw [w1 27 (by decide), o 27 rfl]; have := S.1.2.2.2.2.2.1; omega
      · unfold RR
        rw [w1 20 (by decide), w1 26 (by decide), w1 27 (by decide), w1 34 (by decide), oo 0 rfl, oo 32 rfl, y20, eS, y26, if_pos rfl, o 27 rfl, o 34 rfl, hI_e (n := (9, r, 0)) (i := 2) (j := 2) (x := hI h (11, t, 0) 2) rfl rfl]
        refine ⟨?_, by omega, ?_, by omega, k7.2, k8.cc (by rw [oo 32 rfl]) (oo 34 rfl) (oo 35 rfl), fun z => ?_⟩
        · exact RWr
        · exact RW.f F9 (fun j => by simp) (R9.zc (by rw [w1 1 (by decide)]) (w1 5 (by decide)) (w1 7 (by decide)) (by rw [w1 21 (by decide)]) (fun _ _ => by rw [w1 22 (by decide)]) (by rw [w1 23 (by decide)]) (fun _ _ => by rw [w1 24 (by decide)]) (fun _ _ => by rw [w1 25 (by decide)]))
        · obtain ⟨l1, J2⟩ := k9 z
          have hA2 := J2.1
          refine ⟨l1, ?_⟩
          have C2 : cpS h (sI (ccp h 13 r 14 t) (9, r, 0) 2 (hI h (11, t, 0) 2)) 14 t 13 r := by
            obtain ⟨⟨c0, c1⟩, c2, c3, c4⟩ := CS
            unfold cpS
            refine ⟨⟨?_, ?_⟩, fun i hi => ?_, fun i hi => ?_, fun i hi => ?_⟩
            · rw [F9.I (by simp)]; exact c0
            · rw [F9.I (by simp)]; exact c1
            · rw [F9.I (by simp)]; exact c2 i hi
            · rw [F9.I (by simp)]; exact c3 i hi
            · rw [F9.I (by simp)]; exact c4 i hi
          have J3 : JJ A (sI (ccp h 13 r 14 t) (9, r, 0) 2 (hI h (11, t, 0) 2)) Z s 13 r (hI h (11, t, 0) 2).toNat := JJ.cp C2 (fun j i => by rw [F9.I (by simp), F13.I (by simp)]) (by omega) J2
          have sv : zSv Y2 Z := fun j hj => oo j (by
            simp only [Bool.or_eq_true, beq_iff_eq] at hj
            rcases hj with ((((((((h | h) | h) | h) | h) | h) | h) | h) | h) | h <;> subst h <;> rfl)
          exact J3.f (P := fun _ => True) Fr.rf (fun _ => trivial) (fun _ => trivial) sv.sc
    refine X_mvl S2 ?_ ?_ (fun j hj => (w1 j hj).symm) (fun x => ?_)
    · rw [oo 28 rfl]; exact hm
    · rw [oo 32 rfl]; omega
    · rw [w31]; exact y31 x
  · rcases z with z | z <;> omega
  · rcases z with z | z <;> omega
  · rw [w] at z; rcases z with z | z <;> simp at z
  · have := w.1; rcases z with z | z <;> omega
  · rcases z with z | z <;> simp at z
theorem kX7_moveN (W : FmW h) (C : FmC h) (ht : (t : Int) < hI h (3, 0, 0) 10) (k : Q h (.inl (some (vr (11, t, 0))))) : AC mX7_moveAt fX7_moveAt loX7_moveAt 0 0 h [vr (3, 0, 0), vi (t : Int)] Q :=
  kX7_moveAt W C (fun z => absurd ⟨by omega, ht⟩ z) (fun _ => by rw [Int.toNat_natCast]; exact k)
theorem kX7_moveZ {x : Int} (W : FmW h) (C : FmC h) (hx : ¬ 0 ≤ x) (k : Q h (.inl (some (vq none)))) : AC mX7_moveAt fX7_moveAt loX7_moveAt 0 0 h [vr (3, 0, 0), vi x] Q :=
  kX7_moveAt W C (fun _ => k) (fun z => absurd z.1 hx)
set_option maxHeartbeats 1000000 in
theorem sX7_undo {m : Int} (S : SIM h Z c) (NQ0 : NQ Z) (k1 : zcUnd Z m = 1 → Q h (.inr eIx)) (k2 : zcUnd Z m = 2 → Q h (.inr eIs))
    (k0 : zcUnd Z m = 0 → ∀ g, SIM g (zUnd Z m (Z 31 m.toNat)) c → Fr nMo h g → Q g (.inl (some (vi (Z 34 (Z 31 m.toNat).toNat))))) : AC mX7_undo fX7_undo loX7_undo 6 36 h [vr mF, vi m] Q := by
  obtain ⟨A, S⟩ := S
  have W := S.1.1
  have C := S.1.2.1
  have e9 := S.1.2.2.1.2.2.2.1
  have e8 := S.1.2.2.1.2.2.1
  have e10 := S.1.2.2.1.2.2.2.2
  have zz := S.zz
  have z28 := S.c28
  have z19 := S.c19
  refine AC.mk (by decide) (Nat.le_of_ble_eq_true rfl) ?_
  by_cases hm : ¬ (0 ≤ m ∧ m < Z 28 0)
  · have e1 : zcUnd Z m = 1 := cd2_1 (fun z => hm ⟨z.1, by omega⟩)
    refine AW.aload_n dX7_undo_0 rfl ?_
    refine AW.iload_n dX7_undo_1 rfl ?_
    refine AW.callV (as := [vi _]) dX7_undo_2 rfl rfl rfl okX7_moverAt lkX7_361 W.o rfl rfl rfl rfl rfl rfl rfl (kX7_moverAt W C (fun _ => k1 e1) (fun z => absurd (e9 ▸ z) hm))
    skip
  have hm := Classical.not_not.mp hm
  obtain ⟨m, rfl⟩ := Int.eq_ofNat_of_zero_le hm.1
  obtain ⟨WM, m1, m2, m3, m4⟩ := S.2.2.2.2.2.1 m hm.2
  have hm' : ¬ ¬ (0 ≤ (m : Int) ∧ (m : Int) ≤ Z 28 0 - 1) := fun z => z ⟨by omega, by omega⟩
  rw [Int.toNat_natCast] at k0
  by_cases hx : Z 31 m = -1
  · have e2 : zcUnd Z (m : Int) = 2 := cd2_2 hm' (Or.inl hx)
    refine AW.aload_n dX7_undo_0 rfl ?_
    refine AW.iload_n dX7_undo_1 rfl ?_
    refine AW.callV (as := [vi _]) dX7_undo_2 rfl rfl rfl okX7_moverAt lkX7_361 W.o rfl rfl rfl rfl rfl rfl rfl (kX7_moverN W C (by rw [e9]; exact hm.2) (AW.k1 ?_))
    refine AW.astore_n dX7_undo_5 rfl ?_
    refine AW.aload_n dX7_undo_6 rfl ?_
    refine AW.aload_n dX7_undo_7 rfl ?_
    refine AW.getIE (j := 2) WM.o dX7_undo_8 lkX7_374 rfl rfl inC3 rfl (by exact m3) ?_
    refine AW.callV (as := [vi _]) dX7_undo_11 rfl rfl rfl okX7_moveAt lkX7_388 W.o rfl rfl rfl rfl rfl rfl rfl (kX7_moveZ W C (by rw [hx]; omega) (AW.k1 ?_))
    refine AW.astore_n dX7_undo_14 rfl ?_
    refine AW.aload_n dX7_undo_15 rfl ?_
    refine AW.ifnonnull (tgt := 30) dX7_undo_16 rfl (fun n_16 c_16 => ?_) (fun c_16 => ?_)
    · exact absurd c_16 (by simp)
    · refine AW.throwW dX7_undo_19 dX7_undo_22 dX7_undo_23 dX7_undo_26 dX7_undo_29 rfl okTX7_50 strX7_392 rfl rfl rfl rfl rfl ?_
      exact k2 e2
  obtain ⟨t, et⟩ := Int.eq_ofNat_of_zero_le (a := Z 31 m) (by omega)
  have ht : (t : Int) < Z 32 0 := by omega
  have kt := S.2.2.2.2.2.2 t ht
  have kM := kt.1
  have k2' := kt.2.1
  have k3 := kt.2.2.1
  have k4 := kt.2.2.2.1
  have k11 := kt.2.2.2.2.2.2.2.2.2.2
  have V14 := kM.2.2
  obtain ⟨r, er⟩ := Int.eq_ofNat_of_zero_le k2'.1
  have hr : (r : Int) < Z 19 0 := by omega
  have Rr := S.2.2.2.2.1 r hr
  have RWr := Rr.1
  have V13 := Rr.2.2.1.2.1
  have LLr := Rr.2.2.2.2.2.1 t ht er
  have tt : (Z 31 m).toNat = t := by omega
  have rr : (Z 34 t).toNat = r := by omega
  have zc : zcUnd Z (m : Int) = cd2 (¬ (0 ≤ (m : Int) ∧ (m : Int) ≤ Z 28 0 - 1)) (Z 31 m = -1 ∨ ¬ Z 26 r = Z 35 t) := by
    unfold zcUnd; rw [Int.toNat_natCast, tt, rr]
  rw [et, Int.toNat_natCast] at k0
  have er3 : hI h (11, t, 0) 0 = (r : Int) := k3.trans er
  have em3 : hI h (10, m, 0) 2 = (t : Int) := m3.trans et
  by_cases hl : hI h (9, r, 0) 2 = (t : Int)
  · have e0 : zcUnd Z (m : Int) = 0 := by
      rw [zc]
      exact cd2_z hm' (fun w => w.elim hx (fun w => w (LLr.mpr hl)))
    have F13 : Fr (fun n => ¬ (n.1 = 13 ∧ n.2.1 = r)) h (ccp h 13 r 14 t) := Fr.rf.kccp (fun j z => z ⟨rfl, rfl⟩)
    have P := X_und S NQ0 hm.2 ht er hr hl et
    have er4 : hI (sI (sI (ccp h 13 r 14 t) (9, r, 0) 2 (hI h (11, t, 0) 2)) (10, m, 0) 2 (Z 33 t)) (11, t, 0) 0 = Z 34 t := by rw [hI_n1 rfl (hI_n1 rfl rfl), F13.I (by simp)]; exact k3
    have er5 : hI (sI (ccp h 13 r 14 t) (9, r, 0) 2 (hI h (11, t, 0) 2)) (11, t, 0) 1 = Z 33 t := by rw [hI_n1 rfl rfl, F13.I (by simp)]; exact k4
    have er6 : hI (ccp h 13 r 14 t) (11, t, 0) 2 = hI h (11, t, 0) 2 := F13.I (by simp) _
    refine AW.aload_n dX7_undo_0 rfl ?_
    refine AW.iload_n dX7_undo_1 rfl ?_
    refine AW.callV (as := [vi _]) dX7_undo_2 rfl rfl rfl okX7_moverAt lkX7_361 W.o rfl rfl rfl rfl rfl rfl rfl (kX7_moverN W C (by rw [e9]; exact hm.2) (AW.k1 ?_))
    refine AW.astore_n dX7_undo_5 rfl ?_
    refine AW.aload_n dX7_undo_6 rfl ?_
    refine AW.aload_n dX7_undo_7 rfl ?_
    refine AW.getIE (j := 2) WM.o dX7_undo_8 lkX7_374 rfl rfl inC3 rfl (by exact em3) ?_
    refine AW.callV (as := [vi _]) dX7_undo_11 rfl rfl rfl okX7_moveAt lkX7_388 W.o rfl rfl rfl rfl rfl rfl rfl (kX7_moveN W C (by rw [e10]; exact ht) (AW.k1 ?_))
    refine AW.astore_n dX7_undo_14 rfl ?_
    refine AW.aload_n dX7_undo_15 rfl ?_
    refine AW.ifnonnull (tgt := 30) dX7_undo_16 rfl (fun n_16 c_16 => ?_) (fun c_16 => ?_)
    · refine AW.aload_n dX7_undo_30 rfl ?_
      refine AW.aload_n dX7_undo_31 rfl ?_
      refine AW.getIE (j := 0) kM.o dX7_undo_32 lkX7_394 rfl rfl inC2 rfl (by exact er3) ?_
      refine AW.callV (as := [vi _]) dX7_undo_35 rfl rfl rfl okX7_rowAt lkX7_298 W.o rfl rfl rfl rfl rfl rfl rfl (kX7_rowN W C (by rw [e8]; exact hr) (AW.k1 ?_))
      refine AW.astore dX7_undo_38 rfl ?_
      refine AW.aload dX7_undo_40 rfl ?_
      refine AW.getIE (j := 2) RWr.o dX7_undo_42 lkX7_332 rfl rfl inC4 rfl (by exact hl) ?_
      refine AW.aload_n dX7_undo_45 rfl ?_
      refine AW.getIE (j := 2) WM.o dX7_undo_46 lkX7_374 rfl rfl inC3 rfl (by exact em3) ?_
      refine AW.icmp_eq (tgt := 63) dX7_undo_49 rfl (fun c_49 => ?_) (fun c_49 => ?_)
      · refine AW.aload dX7_undo_63 rfl ?_
        refine AW.getRE (j := 1) RWr.o dX7_undo_65 lkX7_320 rfl rfl inC4 rfl RWr.r1 ?_
        refine AW.aload_n dX7_undo_68 rfl ?_
        refine AW.getRE (j := 3) kM.o dX7_undo_69 lkX7_378 rfl rfl inC2 rfl kM.r3 ?_
        refine AW.callV (as := [vq _]) dX7_undo_72 rfl rfl rfl okX5_copyFrom lkX7_328 V13.o rfl rfl rfl rfl rfl rfl rfl (kX5_copyFrom V13 V14 rfl k11 (AW.k0 ?_))
        refine AW.aload dX7_undo_75 rfl ?_
        refine AW.aload_n dX7_undo_77 rfl ?_
        refine AW.getIE (j := 2) (show MovW (ccp h 13 r 14 t) t from kM).o dX7_undo_78 lkX7_399 rfl rfl inC2 rfl (by exact er6) ?_
        refine AW.putI (j := 2) dX7_undo_81 (show RowW (ccp h 13 r 14 t) r (Z 20 r).toNat from RWr).o rfl rfl inC4 lkX7_332 rfl (Or.inl rfl) (Or.inl rfl) ?_
        refine AW.aload_n dX7_undo_84 rfl ?_
        refine AW.aload_n dX7_undo_85 rfl ?_
        refine AW.getIE (j := 1) (show MovW (sI (ccp h 13 r 14 t) (9, r, 0) 2 (hI h (11, t, 0) 2)) t from kM).o dX7_undo_86 lkX7_402 rfl rfl inC2 rfl (by exact er5) ?_
        refine AW.putI (j := 2) dX7_undo_89 (show MvrW (sI (ccp h 13 r 14 t) (9, r, 0) 2 (hI h (11, t, 0) 2)) m (Z 29 m).toNat from WM).o rfl rfl inC3 lkX7_374 rfl (Or.inl rfl) (Or.inl rfl) ?_
        refine AW.aload_n dX7_undo_92 rfl ?_
        refine AW.getIE (j := 0) (show MovW (sI (sI (ccp h 13 r 14 t) (9, r, 0) 2 (hI h (11, t, 0) 2)) (10, m, 0) 2 (Z 33 t)) t from kM).o dX7_undo_93 lkX7_394 rfl rfl inC2 rfl (by exact er4) ?_
        refine AW.iret dX7_undo_96 rfl ?_
        exact k0 e0 _ ⟨A, P.1⟩ P.2
      · exact absurd rfl c_49
    · exact absurd c_16 (by simp)
  · have e2 : zcUnd Z (m : Int) = 2 := by
      rw [zc]
      exact cd2_2 hm' (Or.inr (fun w => hl (LLr.mp w)))
    refine AW.aload_n dX7_undo_0 rfl ?_
    refine AW.iload_n dX7_undo_1 rfl ?_
    refine AW.callV (as := [vi _]) dX7_undo_2 rfl rfl rfl okX7_moverAt lkX7_361 W.o rfl rfl rfl rfl rfl rfl rfl (kX7_moverN W C (by rw [e9]; exact hm.2) (AW.k1 ?_))
    refine AW.astore_n dX7_undo_5 rfl ?_
    refine AW.aload_n dX7_undo_6 rfl ?_
    refine AW.aload_n dX7_undo_7 rfl ?_
    refine AW.getIE (j := 2) WM.o dX7_undo_8 lkX7_374 rfl rfl inC3 rfl (by exact em3) ?_
    refine AW.callV (as := [vi _]) dX7_undo_11 rfl rfl rfl okX7_moveAt lkX7_388 W.o rfl rfl rfl rfl rfl rfl rfl (kX7_moveN W C (by rw [e10]; exact ht) (AW.k1 ?_))
    refine AW.astore_n dX7_undo_14 rfl ?_
    refine AW.aload_n dX7_undo_15 rfl ?_
    refine AW.ifnonnull (tgt := 30) dX7_undo_16 rfl (fun n_16 c_16 => ?_) (fun c_16 => ?_)
    · refine AW.aload_n dX7_undo_30 rfl ?_
      refine AW.aload_n dX7_undo_31 rfl ?_
      refine AW.getIE (j := 0) kM.o dX7_undo_32 lkX7_394 rfl rfl inC2 rfl (by exact er3) ?_
      refine AW.callV (as := [vi _]) dX7_undo_35 rfl rfl rfl okX7_rowAt lkX7_298 W.o rfl rfl rfl rfl rfl rfl rfl (kX7_rowN W C (by rw [e8]; exact hr) (AW.k1 ?_))
      refine AW.astore dX7_undo_38 rfl ?_
      refine AW.aload dX7_undo_40 rfl ?_
      refine AW.getIE (j := 2) RWr.o dX7_undo_42 lkX7_332 rfl rfl inC4 rfl (by (repeat first | apply hI_n1 rfl | apply hI_n3 rfl | apply hI_e (by omega) | apply hI_m (by omega)); exact rfl) ?_
      refine AW.aload_n dX7_undo_45 rfl ?_
      refine AW.getIE (j := 2) WM.o dX7_undo_46 lkX7_374 rfl rfl inC3 rfl (by exact em3) ?_
      refine AW.icmp_eq (tgt := 63) dX7_undo_49 rfl (fun c_49 => ?_) (fun c_49 => ?_)
      · exact absurd c_49 hl
      · refine AW.throwW dX7_undo_52 dX7_undo_55 dX7_undo_56 dX7_undo_59 dX7_undo_62 rfl okTX7_50 strX7_397 rfl rfl rfl rfl rfl ?_
        exact k2 e2
    · exact absurd c_16 (by simp)
end K9
