/-! ===== the relation: a step made ===== -/
section K5
variable {Q : AH → AO → Prop} {h g H G gc : AH} {Z Y X : ZT} {c q s a b r x m v k : Nat} {A : Nat → Nat}
set_option maxHeartbeats 1000000 in
theorem X_stp {u : Int} (S : SIMq A 9 h Z c) (BZ : BB Z) (hc : c < 512) (em : Z 32 0 = (k : Int)) (hr : (r : Int) < Z 19 0) (hm : (m : Int) < Z 28 0) (ev : zstA' Z (r : Int) (m : Int) = (v : Int)) (es : Z 20 r = (s : Int)) (hv : 1 ≤ v ∧ (v : Int) ≤ Z 1 s) (eu : u = bz (Z 21 r < Z 30 m)) (hV : Z 21 r = if u = 0 then (v : Int) else (v : Int) - 1)
    (F : Fr (fun n => ¬ (n.1 = 11 ∧ n.2.1 = k) ∧ ¬ (n.1 = 14 ∧ n.2.1 = k)) h g) (W : MovW g k) (i0 : hI g (11, k, 0) 0 = (r : Int)) (i1 : hI g (11, k, 0) 1 = Z 31 m) (i2 : hI g (11, k, 0) 2 = hI h (9, r, 0) 2) (CS : cpS h g 13 r 14 k)
    (Fc : Fr (nOf s 13 r) (sR g (3, 5, 0) k (some (11, k, 0))) gc) (Vc : SV gc Z s) (Rc : RW gc (zmv (zStp2 Z r (24 * (s : Int) + (v : Int)) (24 * (r : Int) + (v : Int)) m) r s v u) s 13 r r) (Qc : CQ Z s 13 r v (sR g (3, 5, 0) k (some (11, k, 0))) gc) :
    SIMq (fun j => if j = k then v else A j) 9 (sI (sI (sI gc (10, m, 0) 2 (k : Int)) (9, r, 0) 2 (k : Int)) (3, 0, 0) 10 ((k : Int) + 1)) (zStp Z r m) (c + 1) ∧ Fr nMo h (sI (sI (sI gc (10, m, 0) 2 (k : Int)) (9, r, 0) 2 (k : Int)) (3, 0, 0) 10 ((k : Int) + 1)) := by
  have hk := S.1.2.2.2.2.2.2.2
  have zz := S.zz
  have z19 := S.c19
  have z28 := S.c28
  have Rr := S.2.2.2.2.1 r hr
  have kk := S.2.2.2.2.2.2
  have hs : (s : Int) < Z 0 0 := by have := Rr.2.1; omega
  have eS : (Z 20 r).toNat = s := by omega
  have hu : u = 0 ∨ u = 1 := by rw [eu]; exact (bz01 _)
  have N := YN_stp S hc em ev es hs hv
  have S1 := X_mvn S hc N em hr hm ⟨hv.1, by rw [eS]; exact hv.2⟩ (by rcases hu with e | e <;> rw [hV, e] <;> simp) F W i0 i1 i2 CS
  have b1 := (S.sc hs).2.1.b1
  -- the model's fields
  have yc : ∀ j, (j != 33 && j != 34 && j != 35 && j != 36 && j != 37 && j != 38 && j != 39 && j != 40 && j != 41 && j != 42 && j != 48 && j != 31 && j != 32 && j != 26 && j != 27) = true → zStp Z (r : Int) (m : Int) j = zmv (zStp2 Z r (24 * (s : Int) + (v : Int)) (24 * (r : Int) + (v : Int)) m) r s v u j := fun j hj => by
    rw [zStp_o hj, Int.toNat_natCast, Int.toNat_natCast, es, ev, eu]
  have yo : ∀ j, ntk j = false → rwj j = false → ¬ j = 31 → zStp Z (r : Int) (m : Int) j = Z j := fun j h1 h2 h31 => by
    unfold ntk at h1
    unfold rwj at h2
    simp only [Bool.or_eq_false_iff, beq_eq_false_iff_ne] at h1 h2
    rw [yc j (by simp only [Bool.and_eq_true, bne_iff_ne, ne_eq]; omega), zmv_o (by unfold offR; simp only [Bool.and_eq_true, bne_iff_ne, ne_eq]; omega), zStp2_o (by simp only [Bool.and_eq_true, bne_iff_ne, ne_eq]; omega)]
  have y20 : zStp Z (r : Int) (m : Int) 20 = Z 20 := by rw [yc 20 rfl, zmv_o rfl, zStp2_o rfl]
  have BX : BB (zStp2 Z r (24 * (s : Int) + (v : Int)) (24 * (r : Int) + (v : Int)) m) := BB_c (zStp2_o rfl) (zStp2_o rfl) BZ
  have yR : ∀ x, ¬ r = x → zRw (zStp Z (r : Int) (m : Int)) Z x := fun x hx => by
    have a1 : zRw (zStp2 Z r (24 * (s : Int) + (v : Int)) (24 * (r : Int) + (v : Int)) m) Z x := zRw.fn (fun j hj => by
      simp only [Bool.or_eq_true, beq_iff_eq] at hj
      rcases hj with (((hj | hj) | hj) | hj) | hj <;> subst hj <;> exact zStp2_o rfl)
    have a2 := zRw.mv (s := (s : Int)) (v := (v : Int)) (u := u) BX hx ⟨by omega, by omega⟩
    have a3 : zRw (zStp Z (r : Int) (m : Int)) (zmv (zStp2 Z r (24 * (s : Int) + (v : Int)) (24 * (r : Int) + (v : Int)) m) r s v u) x := zRw.fn (fun j hj => by
      simp only [Bool.or_eq_true, beq_iff_eq] at hj
      rcases hj with (((hj | hj) | hj) | hj) | hj <;> subst hj <;> exact yc _ rfl)
    exact (a1.tr a2).tr a3
  have y26 : ∀ x, zStp Z (r : Int) (m : Int) 26 x = if x = r then Z 27 0 + 1 else Z 26 x := fun x => by
    have z27 : zmv (zStp2 Z r (24 * Z 20 (r : Int).toNat + zstA' Z r m) (24 * (r : Int) + zstA' Z r m) m) r (Z 20 (r : Int).toNat) (zstA' Z r m) (bz (Z 21 (r : Int).toNat < Z 30 (m : Int).toNat)) 27 0 = Z 27 0 := by rw [zmv_o rfl, zStp2_o rfl]
    unfold zStp zStp3 zcnt
    refine zs_ne rfl (zs_ne rfl (zs_ne rfl ?_))
    rw [zcnt_27 S hc z27, zs_if, Int.toNat_natCast]
    congr 1
    refine zs_ne rfl ?_
    rw [zmv_o rfl, zStp2_o rfl]
  have y31 : ∀ x, zStp Z (r : Int) (m : Int) 31 x = if x = m then (k : Int) else Z 31 x := fun x => by
    unfold zStp
    refine zs_ne rfl ?_
    rw [zs_if, em, Int.toNat_natCast]
    congr 1
    unfold zStp3 zcnt
    refine zs_ne rfl (zs_ne rfl (zs_ne rfl ?_))
    rw [zmv_o rfl, zStp2_o rfl]
  have nt := N.1
  obtain ⟨-, n27, n32, nk, -, ⟨-, n34, n35, -, -, -, -⟩, -, -⟩ := N
  have z1 : ∀ j, ntk j = true → zY1 Z (zStp Z (r : Int) (m : Int)) j = zStp Z (r : Int) (m : Int) j := fun j hj => if_pos hj
  have z0 : ∀ j, ntk j = false → zY1 Z (zStp Z (r : Int) (m : Int)) j = Z j := fun j hj => if_neg (by rw [hj]; decide)
  generalize eY : zStp Z (r : Int) (m : Int) = Yf at *
  generalize eY1 : zY1 Z Yf = Y1 at *
  -- the heap
  have Fh : Fr (fun n => (¬ (n.1 = 11 ∧ n.2.1 = k) ∧ ¬ (n.1 = 14 ∧ n.2.1 = k)) ∧ ¬ n.1 = 3 ∧ nOf s 13 r n) h gc := ((F.mo (fun n z => z.1)).tr ((Fr.rf.wR (fun z => z.2.1 rfl)))).tr (Fc.mo (fun n z => z.2.2))
  have F1 : Fr (nRw s r) (sR g (3, 5, 0) k (some (11, k, 0))) (sI gc (9, r, 0) 2 (k : Int)) := (Fc.mo (fun n z => ⟨z.2.1, z.2.2.2⟩)).wI (fun z => z.2.2.1 rfl)
  have F2 : Fr (nRw s r) (sI (sR g (3, 5, 0) k (some (11, k, 0))) (3, 0, 0) 10 ((k : Int) + 1)) (sI (sI gc (9, r, 0) 2 (k : Int)) (3, 0, 0) 10 ((k : Int) + 1)) := F1.sI2
  have eG : sI (sI (sI gc (10, m, 0) 2 (k : Int)) (9, r, 0) 2 (k : Int)) (3, 0, 0) 10 ((k : Int) + 1) = sI (sI (sI gc (9, r, 0) 2 (k : Int)) (3, 0, 0) 10 ((k : Int) + 1)) (10, m, 0) 2 (k : Int) := by
    rw [sI_comm (n := (10, m, 0)) (n' := (9, r, 0)) (by simp), sI_comm (n := (10, m, 0)) (n' := (3, 0, 0)) (by simp)]
  have F3 : Fr (fun n => ¬ n = (9, r, 0) ∧ ¬ n.1 = 3) gc (sI (sI gc (9, r, 0) 2 (k : Int)) (3, 0, 0) 10 ((k : Int) + 1)) := (Fr.rf.wI (fun z => z.1 rfl)).wI (fun z => z.2 rfl)
  have p92 : hI (sI (sI gc (9, r, 0) 2 (k : Int)) (3, 0, 0) 10 ((k : Int) + 1)) (9, r, 0) 2 = (k : Int) := hI_n1 rfl (hI_e rfl rfl)
  have tG : hT (sI (sI gc (9, r, 0) 2 (k : Int)) (3, 0, 0) 10 ((k : Int) + 1)) = hT gc := rfl
  have rG : hR (sI (sI gc (9, r, 0) 2 (k : Int)) (3, 0, 0) 10 ((k : Int) + 1)) = hR gc := rfl
  have S12 := S.1.2.2.2.1
  have Fg3 : Fr (fun n => ¬ n.1 = 3) g (sR g (3, 5, 0) k (some (11, k, 0))) := Fr.rf.wR (fun z => z rfl)
  have noS : ∀ x y z : Nat, ¬ x = 4 → ¬ x = 13 → nOf s 13 r (x, y, z) := fun x y z h4 h13 => ⟨fun w => h13 w.1, fun w => h4 w.1⟩
  refine ⟨?_, ?_⟩
  · rw [eG]
    obtain ⟨Y2, eY2⟩ : ∃ Y2 : ZT, Y2 = fun j => if j = 31 then Z j else Yf j := ⟨_, rfl⟩
    have w1 : ∀ j, ¬ j = 31 → Y2 j = Yf j := fun j hj => by rw [eY2]; exact if_neg hj
    have w31 : Y2 31 = Z 31 := by rw [eY2]; exact if_pos rfl
    clear eY2
    have S2 : SIMq (fun j => if j = k then v else A j) 9 (sI (sI gc (9, r, 0) 2 (k : Int)) (3, 0, 0) 10 ((k : Int) + 1)) Y2 (c + 1) := by
      refine S1.rw (s := s) (r := r) F2 (by rw [z0 0 rfl]; exact hs) (by rw [z0 19 rfl]; exact hr) ?_ ?_ (fun j hj => ?_) (fun x hx => ⟨?_, fun hx2 => ⟨?_, ?_⟩⟩) ?_ (Nat.le_refl _) ?_
      · have W12 : StaW gc 12 0 := S12.f Fh (fun j => ⟨⟨by simp, by simp⟩, by simp, noS _ _ _ (by decide) (by decide)⟩)
        exact W12.f F3 (fun j => by simp)
      · have Ws := Vc.1
        unfold SchW at *
        rw [tG, rG]; exact Ws
      · by_cases e : j = 31
        · subst e; rw [z0 31 rfl]; exact w31
        · rw [w1 j e]
          by_cases n : ntk j = true
          · rw [z1 j n]
          · rw [z0 j (by simpa using n)]
            exact yo j (by simpa using n) hj e
      · rw [w1 20 (by decide), z0 20 rfl, y20]
      · rw [w1 26 (by decide), z0 26 rfl, y26, if_neg hx2]
      · have a := yR x (Ne.symm hx2)
        unfold zRw at a ⊢
        rw [w1 21 (by decide), w1 22 (by decide), w1 23 (by decide), w1 24 (by decide), w1 25 (by decide), z0 21 rfl, z0 22 rfl, z0 23 rfl, z0 24 rfl, z0 25 rfl]
        exact a
      · rw [w1 27 (by decide), ← z1 27 rfl, n27]
        have := S.1.2.2.2.2.2.1
        omega
      · have g34 := z1 34 rfl
        have g35 := z1 35 rfl
        have g32 := z1 32 rfl
        have g27 := z1 27 rfl
        unfold RR
        rw [w1 20 (by decide), w1 26 (by decide), w1 27 (by decide), w1 0 (by decide), w1 32 (by decide), w1 34 (by decide), y20, eS, y26, if_pos rfl, ← g27, n27, ← g32, n32, p92, yo 0 rfl rfl (by decide)]
        refine ⟨?_, by omega, ?_, by omega, Int.le_refl _, ?_, fun _ => ⟨?_, ?_⟩⟩
        · have Wr := Rr.1
          rw [eS] at Wr
          have Wg : RowW gc r s := Wr.f Fh ⟨⟨by simp, by simp⟩, by simp, noS _ _ _ (by decide) (by decide)⟩
          unfold RowW at *
          rw [tG, rG]; exact Wg
        · refine RW.f F3 (fun j => by simp) (Rc.zc ?_ ?_ ?_ ?_ (fun f _ => ?_) ?_ (fun w _ => ?_) (fun j _ => ?_))
          · rw [w1 1 (by decide), yc 1 rfl]
          · rw [w1 5 (by decide), yc 5 rfl]
          · rw [w1 7 (by decide), yc 7 rfl]
          · rw [w1 21 (by decide), yc 21 rfl]
          · rw [w1 22 (by decide), yc 22 rfl]
          · rw [w1 23 (by decide), yc 23 rfl]
          · rw [w1 24 (by decide), yc 24 rfl]
          · rw [w1 25 (by decide), yc 25 rfl]
        · intro k' hk1 hk2
          rw [w1 32 (by decide), ← g32, n32] at hk1
          rw [w1 34 (by decide), ← g34] at hk2
          rw [w1 35 (by decide), ← g35]
          by_cases e : k' = k
          · rw [e, n35]; simp
          · rw [nk 35 k' (by omega) e]
            have := (kk k' (by omega)).2.2.2.2.2.2.1
            constructor <;> intro <;> omega
        · rw [Int.toNat_natCast, ← g34]; exact n34
        · rw [Int.toNat_natCast]
          have cc14 : ∀ j i, hI (sI (sI gc (9, r, 0) 2 (k : Int)) (3, 0, 0) 10 ((k : Int) + 1)) (14, k, j) i = hI g (14, k, j) i := fun j i => by
            rw [F3.I ⟨by simp, by simp⟩, Fc.I (noS _ _ _ (by decide) (by decide)), hI_sR]
          have cc13 : ∀ j i, hI (sI (sI gc (9, r, 0) 2 (k : Int)) (3, 0, 0) 10 ((k : Int) + 1)) (13, r, j) i = hI gc (13, r, j) i := fun j i => F3.I ⟨by simp, by simp⟩ i
          have ccg : ∀ j i, hI (sR g (3, 5, 0) k (some (11, k, 0))) (13, r, j) i = hI h (13, r, j) i := fun j i => by rw [hI_sR, F.I ⟨by simp, by simp⟩]
          obtain ⟨⟨c0, c1⟩, c2, c3, c4⟩ := CS
          obtain ⟨q1, q2⟩ := Qc
          unfold JJ
          simp only [if_true]
          rw [w1 1 (by decide), w1 7 (by decide), w1 8 (by decide), w1 9 (by decide), yo 1 rfl rfl (by decide), yo 7 rfl rfl (by decide), yo 8 rfl rfl (by decide), yo 9 rfl rfl (by decide)]
          refine ⟨hv, ?_, fun f hf z => ?_, fun w hw hne => ⟨fun j hj => ?_, fun j hj => ?_⟩⟩
          · rw [cc13, cc14, c0, Rr.2.2.1.1.1, hV, Rc.1.1]
            have e21 := zmv_21 (Z := zStp2 Z r (24 * (s : Int) + (v : Int)) (24 * (r : Int) + (v : Int)) m) (r := (r : Int)) (s := (s : Int)) (a := (v : Int)) (u := u)
            rw [Int.toNat_natCast] at e21
            rw [e21]
            split <;> omega
          · rw [cc13, cc14, c2 f hf, q1 f hf z, ccg]
          · rw [cc13, cc14, c3 _ (by omega), (q2 w hw hne).1 j hj, ccg]
          · rw [cc13, cc14, c4 _ (by omega), (q2 w hw hne).2 j hj, ccg]
    refine X_mvl S2 ?_ ?_ (fun j hj => (w1 j hj).symm) (fun x => ?_)
    · rw [w1 28 (by decide), yo 28 rfl rfl (by decide)]; exact hm
    · rw [w1 32 (by decide), ← z1 32 rfl, n32]; omega
    · rw [w31]; exact y31 x
  · refine (((Fh.mo (fun n z => ?_)).wI (fun z => ?_)).wI (fun z => ?_)).wI (fun z => ?_)
    · refine ⟨⟨fun w => ?_, fun w => ?_⟩, fun w => ?_, fun w => ?_, fun w => ?_⟩
      · rcases z with z | z <;> omega
      · rcases z with z | z <;> omega
      · rcases z with z | z <;> omega
      · rcases z with z | z <;> omega
      · have := w.1; rcases z with z | z <;> omega
    · rcases z with z | z <;> simp at z
    · rcases z with z | z <;> simp at z
    · rcases z with z | z <;> simp at z
end K5
