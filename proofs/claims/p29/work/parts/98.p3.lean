/-! ===== the model stays sound: undo, step ===== -/
section P3
variable {Z Y : ZT} {h g : AH} {A : Nat → Nat} {c r : Nat}
/-- steps' notes too -/
theorem ZI.st (I : ZI Z) (S : SIMq A 9 g Y c) (hc : c ≤ 512) (o : ∀ j, rwj j = false → ntk j = false → ¬ j = 31 → Y j = Z j) (ox : ∀ x : Nat, x < 20 → Z 19 0 ≤ (x : Int) → Y 20 x = Z 20 x ∧ zRw Y Z x) (ok : ∀ t : Nat, Y 32 0 ≤ (t : Int) → Y 34 t = Z 34 t ∧ Y 37 t = Z 37 t) (o31 : ∀ m : Nat, Z 28 0 ≤ (m : Int) → Y 31 m = Z 31 m) : ZI Y := by
  obtain ⟨⟨b1, ⟨d1, d2⟩, b3, b4, ⟨l1, l2⟩, b6, b7, b8⟩, n, q⟩ := I
  have zz := S.zz
  have o' := fun j (h1 : rwj j = false) (h2 : ntk j = false) (h3 : (j == 31) = false) => o j h1 h2 (by simpa using h3)
  have c32 := S.1.2.2.2.2.2.2.2
  refine ⟨⟨b1.o (fun j hj => ?_), ⟨by rw [o' 19 rfl rfl rfl]; exact d1, fun x hx => ?_⟩, b3.o (o' 1 rfl rfl rfl) (o' 7 rfl rfl rfl) (o' 9 rfl rfl rfl) (o' 10 rfl rfl rfl), b4.o (o' 1 rfl rfl rfl) (o' 28 rfl rfl rfl) (o' 29 rfl rfl rfl) (o' 30 rfl rfl rfl), ⟨fun m hm => ?_, fun t ht => ?_⟩, b6.o (o' 5 rfl rfl rfl), b7.o (o' 3 rfl rfl rfl), SF.o (o' 1 rfl rfl rfl) (o' 8 rfl rfl rfl) (o' 9 rfl rfl rfl) b8⟩, ?_, q.o (o' 1 rfl rfl rfl) (o' 7 rfl rfl rfl) (o' 8 rfl rfl rfl) (o' 9 rfl rfl rfl)⟩
  · unfold bij at hj
    simp only [Bool.or_eq_true, beq_iff_eq] at hj
    refine o j ?_ ?_ (by omega)
    · unfold rwj; simp only [Bool.or_eq_false_iff, beq_eq_false_iff_ne]; omega
    · unfold ntk; simp only [Bool.or_eq_false_iff, beq_eq_false_iff_ne]; omega
  · by_cases hy : (x : Int) < Z 19 0
    · have R := S.2.2.2.2.1 x (by rw [o' 19 rfl rfl rfl]; exact hy)
      have r2 := R.2.1
      have r3 := R.2.2.1.1
      omega
    · obtain ⟨e20, e21, -⟩ := ox x hx (by omega)
      rw [e20, e21, o' 1 rfl rfl rfl]; exact d2 x hx
  · by_cases hy : (m : Int) < Z 28 0
    · have := (S.2.2.2.2.2.1 m (by rw [o' 28 rfl rfl rfl]; exact hy)).2.2.2.2
      omega
    · rw [o31 m (by omega)]; exact l1 m hm
  · by_cases hy : (t : Int) < Y 32 0
    · obtain ⟨-, k2, -, -, -, -, -, -, -, k10, -⟩ := S.2.2.2.2.2.2 t hy
      have d3 : Y 19 0 ≤ 20 := by rw [o' 19 rfl rfl rfl]; omega
      have R2 := (S.2.2.2.2.1 (Y 34 t).toNat (by omega)).2.1
      obtain ⟨S1, K, -⟩ := S.sc (s := (Y 20 (Y 34 t).toNat).toNat) (by omega)
      have b1 := K.b1
      have a1 := k10.1
      have a2 := k10.2.1.2.1
      omega
    · obtain ⟨e34, e37⟩ := ok t (by omega)
      rw [e34, e37]; exact l2 t ht
  · unfold NZ at *
    rw [o' 0 rfl rfl rfl, o' 1 rfl rfl rfl, o' 2 rfl rfl rfl, o' 5 rfl rfl rfl, o' 11 rfl rfl rfl, o' 13 rfl rfl rfl, o' 16 rfl rfl rfl, o' 17 rfl rfl rfl, o' 19 rfl rfl rfl]
    refine ⟨n.1, n.2.1, fun x hx hy => ?_⟩
    obtain ⟨-, -, e23, -, e24, -⟩ := ox x hx hy
    rw [e23]
    exact ⟨(n.2.2 x hx hy).1, fun w hw => by rw [e24 w hw]; exact (n.2.2 x hx hy).2 w hw⟩
end P3
