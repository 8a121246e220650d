/-! ===== the model stays sound: mover, row, take ===== -/
section P1
variable {Z Y : ZT} {h : AH} {A : Nat → Nat} {c : Nat}
theorem ZI.mov {s : Nat} {t : Int} (I : ZI Z) (hs : (s : Int) < Z 0 0) (ht : 0 ≤ t ∧ t ≤ Z 1 s) (h8 : ¬ Z 28 0 = 8) : ZI (zMov Z s t) := by
  obtain ⟨⟨b1, b2, b3, ⟨d1, d2⟩, ⟨d3, d4⟩, b6, b7, b8⟩, n, q⟩ := I
  have c1 := b1.1.1
  obtain ⟨m, em⟩ := Int.eq_ofNat_of_zero_le d1.1
  have e : ∀ j, (j == 28 || j == 29 || j == 30 || j == 31 || j == 48) = false → zMov Z s t j = Z j := fun j hj => by
    simp only [Bool.or_eq_false_iff, beq_eq_false_iff_ne] at hj
    obtain ⟨⟨⟨⟨h28, h29⟩, h30⟩, h31⟩, h48⟩ := hj
    unfold zMov; rw [zs_oj (beq_ne h28), zs_oj (beq_ne h31), zs_oj (beq_ne h30), zs_oj (beq_ne h29), zs_oj (beq_ne h48)]
  have y28 : zMov Z s t 28 0 = (m : Int) + 1 := by unfold zMov; rw [zs_eq rfl rfl, em]
  have y29 : ∀ x, zMov Z s t 29 x = if x = m then (s : Int) else Z 29 x := fun x => by
    unfold zMov
    rw [em, Int.toNat_natCast]
    refine zs_ne rfl (zs_ne rfl (zs_ne rfl ?_))
    rw [zs_if]; rfl
  have y30 : ∀ x, zMov Z s t 30 x = if x = m then t else Z 30 x := fun x => by
    unfold zMov
    rw [em, Int.toNat_natCast]
    refine zs_ne rfl (zs_ne rfl ?_)
    rw [zs_if]; rfl
  have y31 : ∀ x, zMov Z s t 31 x = if x = m then -1 else Z 31 x := fun x => by
    unfold zMov
    rw [em, Int.toNat_natCast]
    refine zs_ne rfl ?_
    rw [zs_if]; rfl
  generalize zMov Z s t = Y at *
  refine ⟨⟨b1.o (fun j hj => e j ?_), b2.o (e 1 rfl) (e 19 rfl) (e 20 rfl) (e 21 rfl), b3.o (e 1 rfl) (e 7 rfl) (e 9 rfl) (e 10 rfl), ⟨by rw [y28]; omega, fun g hg => ?_⟩, ⟨fun g hg => ?_, by rw [e 34 rfl, e 37 rfl]; exact d4⟩, b6.o (e 5 rfl), b7.o (e 3 rfl), SF.o (e 1 rfl) (e 8 rfl) (e 9 rfl) b8⟩, ?_, q.o (e 1 rfl) (e 7 rfl) (e 8 rfl) (e 9 rfl)⟩
  · unfold bij at hj
    simp only [Bool.or_eq_true, beq_iff_eq] at hj
    simp only [Bool.or_eq_false_iff, beq_eq_false_iff_ne]
    omega
  · rw [y29, y30, e 1 rfl]
    by_cases z : g = m
    · rw [if_pos z, if_pos z, Int.toNat_natCast]; omega
    · rw [if_neg z, if_neg z]; exact d2 g hg
  · rw [y31]
    have := d3 g hg
    split <;> omega
  · unfold NZ at *
    rw [e 0 rfl, e 1 rfl, e 2 rfl, e 5 rfl, e 11 rfl, e 13 rfl, e 16 rfl, e 17 rfl, e 19 rfl, e 23 rfl, e 24 rfl]; exact n
theorem ZI.row {s v : Nat} (I : ZI Z) (S : SIMq A 9 h Z c) (hc : c < 512) (hs : (s : Int) < Z 0 0) (hv : (v : Int) ≤ Z 1 s) (h20 : ¬ Z 19 0 = 20) : ZI (zRow Z s v) := by
  obtain ⟨⟨b1, ⟨d1, d2⟩, b3, b4, b5, b6, b7, b8⟩, n, q⟩ := I
  have c1 := b1.1.1
  obtain ⟨m, em⟩ := Int.eq_ofNat_of_zero_le d1.1
  have y19 := zRow_19 (Z := Z) (t := s) (v := v)
  have y20 := fun x => zRow_20 (Z := Z) (t := s) (v := v) (x := x) em
  have y21 := fun x => zRow_21 (Z := Z) (t := s) (v := v) (x := x) em
  have e : ∀ j, roj j = false → zRow Z s v j = Z j := fun j hj => zRow_o hj
  generalize zRow Z s v = Y at *
  refine ⟨⟨b1.o (fun j hj => e j ?_), ⟨by rw [y19]; omega, fun g hg => ?_⟩, b3.o (e 1 rfl) (e 7 rfl) (e 9 rfl) (e 10 rfl), b4.o (e 1 rfl) (e 28 rfl) (e 29 rfl) (e 30 rfl), b5.o (e 31 rfl) (e 34 rfl) (e 37 rfl), b6.o (e 5 rfl), b7.o (e 3 rfl), SF.o (e 1 rfl) (e 8 rfl) (e 9 rfl) b8⟩, ?_, q.o (e 1 rfl) (e 7 rfl) (e 8 rfl) (e 9 rfl)⟩
  · unfold bij at hj
    unfold roj
    simp only [Bool.or_eq_true, beq_iff_eq] at hj
    simp only [Bool.or_eq_false_iff, beq_eq_false_iff_ne]
    omega
  · rw [y20, y21, e 1 rfl]
    by_cases z : g = m
    · rw [if_pos z, if_pos z, Int.toNat_natCast]; omega
    · rw [if_neg z, if_neg z]; exact d2 g hg
  · unfold NZ at *
    rw [y19, e 0 rfl, e 1 rfl, e 2 rfl, e 5 rfl, e 11 rfl, e 13 rfl, e 16 rfl, e 17 rfl, e 23 rfl, e 24 rfl]
    exact ⟨n.1, n.2.1, fun r hr h => n.2.2 r hr (by omega)⟩
theorem ZI.tak {k : Nat} {nm w : Int} (I : ZI Z) (hk : (k : Int) < Z 13 0) (hF : 0 ≤ zinF Z (k : Int) nm ∧ zinF Z (k : Int) nm < 48) (hw : w = 0 ∨ w = 1) : ZI (zTak Z k nm w) := by
  obtain ⟨⟨b1, b2, b3, b4, b5, b6, b7, b8⟩, n, q⟩ := I
  have e : ∀ j, (j == 17 || j == 18 || j == 48) = false → zTak Z k nm w j = Z j := fun j hj => by
    simp only [Bool.or_eq_false_iff, beq_eq_false_iff_ne] at hj
    obtain ⟨⟨h17, h18⟩, h48⟩ := hj
    unfold zTak; rw [zs_oj (beq_ne h18), zs_oj (beq_ne h17), zs_oj (beq_ne h48)]
  have y17 : ∀ x, zTak Z k nm w 17 x = if x = (48 * (k : Int) + zinF Z k nm).toNat then 1 else Z 17 x := fun x => by
    unfold zTak
    refine zs_ne rfl ?_
    rw [zs_if]; rfl
  have y18 : ∀ x, zTak Z k nm w 18 x = if x = (48 * (k : Int) + zinF Z k nm).toNat then w else Z 18 x := fun x => by
    unfold zTak
    rw [zs_if]
    congr 1
  generalize zTak Z k nm w = Y at *
  obtain ⟨⟨c1, c2⟩, c3, c4, ⟨c5, c6⟩, c7, c8⟩ := b1
  refine ⟨⟨⟨⟨by rw [e 0 rfl]; exact c1, fun s hs => by rw [e 1 rfl, e 2 rfl, e 11 rfl]; exact c2 s hs⟩, fun j hj i => ?_, fun i => by rw [e 8 rfl, e 9 rfl]; exact c4 i, ⟨by rw [e 13 rfl]; exact c5, fun g hg => by rw [e 14 rfl, e 15 rfl, e 1 rfl]; exact c6 g hg⟩, fun i => by rw [e 12 rfl]; exact c7 i, fun s hs => by rw [e 1 rfl, e 2 rfl]; exact c8 s hs⟩, b2.o (e 1 rfl) (e 19 rfl) (e 20 rfl) (e 21 rfl), b3.o (e 1 rfl) (e 7 rfl) (e 9 rfl) (e 10 rfl), b4.o (e 1 rfl) (e 28 rfl) (e 29 rfl) (e 30 rfl), b5.o (e 31 rfl) (e 34 rfl) (e 37 rfl), b6.o (e 5 rfl), b7.o (e 3 rfl), SF.o (e 1 rfl) (e 8 rfl) (e 9 rfl) b8⟩, ?_, q.o (e 1 rfl) (e 7 rfl) (e 8 rfl) (e 9 rfl)⟩
  · by_cases z17 : j = 17
    · subst z17; rw [y17]; split
      · exact Or.inr rfl
      · exact c3 17 hj i
    · by_cases z18 : j = 18
      · subst z18; rw [y18]; split
        · exact hw
        · exact c3 18 hj i
      · have h48 : ¬ j = 48 := by rintro rfl; exact absurd hj (by decide)
        rw [e j (by simp [z17, z18, h48])]; exact c3 j hj i
  · unfold NZ at *
    rw [e 0 rfl, e 1 rfl, e 2 rfl, e 5 rfl, e 11 rfl, e 13 rfl, e 16 rfl, e 19 rfl, e 23 rfl, e 24 rfl]
    exact ⟨n.1, fun g hg h => ⟨(n.2.1 g hg h).1, fun f hf => by rw [y17, if_neg (by omega)]; exact (n.2.1 g hg h).2 f hf⟩, n.2.2⟩
end P1
