/-! ===== the model stays sound: rows touched ===== -/
section P2
variable {Z Y : ZT} {h g : AH} {A : Nat → Nat} {c r : Nat}
theorem ZI.rw (I : ZI Z) (S : SIMq A 9 g Y c) (o : ∀ j, rwj j = false → Y j = Z j) (ox : ∀ x : Nat, x < 20 → Z 19 0 ≤ (x : Int) → Y 20 x = Z 20 x ∧ zRw Y Z x) : ZI Y := by
  obtain ⟨⟨b1, ⟨d1, d2⟩, b3, b4, b5, b6, b7, b8⟩, n, q⟩ := I
  have zz := S.zz
  refine ⟨⟨b1.o (fun j hj => o j ?_), ⟨by rw [o 19 rfl]; exact d1, fun x hx => ?_⟩, b3.o (o 1 rfl) (o 7 rfl) (o 9 rfl) (o 10 rfl), b4.o (o 1 rfl) (o 28 rfl) (o 29 rfl) (o 30 rfl), b5.o (o 31 rfl) (o 34 rfl) (o 37 rfl), b6.o (o 5 rfl), b7.o (o 3 rfl), SF.o (o 1 rfl) (o 8 rfl) (o 9 rfl) b8⟩, ?_, q.o (o 1 rfl) (o 7 rfl) (o 8 rfl) (o 9 rfl)⟩
  · unfold bij at hj
    unfold rwj
    simp only [Bool.or_eq_true, beq_iff_eq] at hj
    simp only [Bool.or_eq_false_iff, beq_eq_false_iff_ne]
    omega
  · by_cases hy : (x : Int) < Z 19 0
    · have R := S.2.2.2.2.1 x (by rw [o 19 rfl]; exact hy)
      have r2 := R.2.1
      have r3 := R.2.2.1.1
      omega
    · obtain ⟨e20, e21, -⟩ := ox x hx (by omega)
      rw [e20, e21, o 1 rfl]; exact d2 x hx
  · unfold NZ at *
    rw [o 0 rfl, o 1 rfl, o 2 rfl, o 5 rfl, o 11 rfl, o 13 rfl, o 16 rfl, o 17 rfl, o 19 rfl]
    refine ⟨n.1, n.2.1, fun x hx hy => ?_⟩
    obtain ⟨-, -, e23, -, e24, -⟩ := ox x hx hy
    rw [e23]
    exact ⟨(n.2.2 x hx hy).1, fun w hw => by rw [e24 w hw]; exact (n.2.2 x hx hy).2 w hw⟩
/-- a row seen -/
theorem ZI.see {v : Int} (I : ZI Z) (S : SIMq A 9 g (zsee (zs Z 48 0 0) r v) c) (hr : r < 20) (h21 : 0 ≤ Z 21 r ∧ Z 21 r ≤ 23) (hv : 0 ≤ v ∧ v ≤ 23) : ZI (zsee (zs Z 48 0 0) r v) := by
  have BZ := I.1.1.2.2.1
  refine I.rw S (fun j hj => ?_) (fun x hx _ => ⟨?_, ?_⟩)
  · unfold rwj at hj
    simp only [Bool.or_eq_false_iff, beq_eq_false_iff_ne] at hj
    rw [zsee_o (by unfold offR; simp only [Bool.and_eq_true, bne_iff_ne, ne_eq]; omega), zs_oj (beq_ne (by omega))]
  · exact zsee_20x (by omega)
  · have a1 : zRw (zsee (zs Z 48 0 0) r v) (zs Z 48 0 0) x := zsee_x (BB_zs rfl BZ) (by omega) hv (by have : zs Z 48 0 0 21 r = Z 21 r := rfl; rw [this]; omega)
    have a0 : zRw (zs Z 48 0 0) Z x := zRw.o rfl
    exact a0.tr a1
/-- a row written -/
theorem ZI.wri {s : Nat} {v vr x F : Int} (I : ZI Z) (hr : (r : Int) < Z 19 0) (hr20 : r < 20) (h21 : 0 ≤ Z 21 r ∧ Z 21 r ≤ 23) (hv : 0 ≤ v ∧ v ≤ 23) (hvr : 0 ≤ vr ∧ vr ≤ 23) (hF : 0 ≤ F ∧ F < 46)
    (S : SIMq A 9 g (zcnt (zcpy (zmt (zs (zsee (zs Z 48 0 0) r v) 22 (48 * 20 + F.toNat) x) ((20 : Nat) : Int) s vr) 20 r) (r : Int)) c) : ZI (zcnt (zcpy (zmt (zs (zsee (zs Z 48 0 0) r v) 22 (48 * 20 + F.toNat) x) ((20 : Nat) : Int) s vr) 20 r) (r : Int)) := by
  have BZ := I.1.1.2.2.1
  have yc : ∀ (Y : ZT) j, ¬ j = 26 → ¬ j = 27 → zcnt Y (r : Int) j = Y j := fun Y j h26 h27 => by unfold zcnt; rw [zs_oj (beq_ne h26), zs_oj (beq_ne h27)]
  refine I.rw S (fun j hj => ?_) (fun x' hx hy => ?_)
  · unfold rwj at hj
    simp only [Bool.or_eq_false_iff, beq_eq_false_iff_ne] at hj
    have hof : (j != 20 && offR j) = true := by unfold offR; simp only [Bool.and_eq_true, bne_iff_ne, ne_eq]; omega
    have hj2 : offR j = true := by rw [Bool.and_eq_true] at hof; exact hof.2
    rw [yc _ j (by omega) (by omega), zcpy_o hof, zmt_o hj2, zs_oj (beq_ne (by omega)), zsee_o hof, zs_oj (beq_ne (by omega))]
  · have z : ¬ x' = r := by omega
    have a1 : zRw (zsee (zs Z 48 0 0) r v) (zs Z 48 0 0) x' := zsee_x (BB_zs rfl BZ) (by omega) hv (by have : zs Z 48 0 0 21 r = Z 21 r := rfl; rw [this]; omega)
    have a0 : zRw (zs Z 48 0 0) Z x' := zRw.o rfl
    have a2 : zRw (zs (zsee (zs Z 48 0 0) r v) 22 (48 * 20 + F.toNat) x) (zsee (zs Z 48 0 0) r v) x' := zRw.z22 (fun f hf => by omega)
    have a3 : zRw (zmt (zs (zsee (zs Z 48 0 0) r v) 22 (48 * 20 + F.toNat) x) ((20 : Nat) : Int) s vr) (zs (zsee (zs Z 48 0 0) r v) 22 (48 * 20 + F.toNat) x) x' := by
      refine zRw.mt (q := 20) (BB_zs rfl (BB_c (zsee_o rfl) (zsee_o rfl) (BB_zs rfl BZ))) (by omega) hvr ?_
      have : zs (zsee (zs Z 48 0 0) r v) 22 (48 * 20 + F.toNat) x 21 20 = v := (zs_ne rfl (zsee_21 (Z := zs Z 48 0 0) (r := r) (v := v)))
      rw [this]; exact hv
    have u0 : zmt (zs (zsee (zs Z 48 0 0) r v) 22 (48 * 20 + F.toNat) x) ((20 : Nat) : Int) s vr 20 x' = Z 20 x' := by
      rw [zmt_o rfl]
      exact zs_ne rfl (zsee_20x (by omega))
    refine ⟨?_, ?_⟩
    · rw [yc _ 20 (by decide) (by decide), (zcpy_x z).1, u0]
    · exact ((((a0.tr a1).tr a2).tr a3).tr (zRw.cy z)).tr (zRw.fn (fun j hj => yc _ j (fun e => by subst e; exact absurd hj (by decide)) (fun e => by subst e; exact absurd hj (by decide))))
end P2
