/-! ===== the model stays sound: one version more ===== -/
section Q2
variable {Z Y : ZT} {h g : AH} {A : Nat → Nat} {c s d : Nat} {w a b cc e fc n2 : Int} {M D : Nat → Int}
theorem ZI.vs (I : ZI Z) (S : SIMq A 9 g Y c) (V : VS Z Y s d w a b cc e fc n2 M D) (hd : Z 1 s + 1 = (d : Int)) (hd2 : d < 24) (hs : (s : Int) < Z 0 0) (ra : RA Y) (hn2 : n2 ≤ Z 2 s + 2) (hq : w = 3 ∨ w = 4 → (¬ cc = a ∧ ¬ cc = b) ∧ (e = -1 ∨ (¬ e = a ∧ ¬ e = b))) : ZI Y := by
  have I2 := I
  obtain ⟨⟨⟨⟨c1, c2⟩, c3, c4, ⟨c5, c6⟩, c7, c8⟩, -⟩, n, q⟩ := I2
  obtain ⟨⟨v1, v2⟩, v3, v5, v5d, v7, ⟨x7, x10, x8, x8b, x9, x9b⟩, vz, vo⟩ := V
  have hs4 : s < 4 := by omega
  have o : ∀ j, vrj j = false → Y j = Z j := fun j hj => vo j (by
    unfold vrj at hj
    unfold inV
    simp only [Bool.or_eq_false_iff, beq_eq_false_iff_ne] at hj ⊢
    omega)
  refine I.ver2 S ra (fun s' h' => ?_) ?_ o (fun s' h' => ?_) (fun s' h' hy => ?_)
  · by_cases z : s' = s
    · subst z; have := c8 s' h'; omega
    · have y := (vz s' h' z).1
      have := c8 s' h'; omega
  · intro s' v h' hv1 hv2
    by_cases z : s' = s
    · subst z
      by_cases y : v = d
      · subst y
        rw [x7]
        intro w34
        obtain ⟨⟨q1, q2⟩, q3⟩ := hq w34
        intro i j hi hj
        rcases (show i = 0 ∨ i = 1 by omega) with ei | ei <;> rcases (show j = 0 ∨ j = 1 by omega) with ej | ej <;> subst ei <;> subst ej
        · rw [show 2 * (24 * s' + v) + 0 = 2 * (24 * s' + v) from rfl, x9, x8]; omega
        · rw [show 2 * (24 * s' + v) + 0 = 2 * (24 * s' + v) from rfl, x9b, x8]; omega
        · rw [show 2 * (24 * s' + v) + 0 = 2 * (24 * s' + v) from rfl, x9, x8b]; omega
        · rw [x9b, x8b]; omega
      · obtain ⟨⟨e7, -⟩, e8⟩ := v7 v (by omega) y
        rw [e7]
        intro w34 i j hi hj
        rw [(e8 i hi).1, (e8 j hj).2]
        exact q s' v h' hv1 (by omega) w34 i j hi hj
    · obtain ⟨⟨y1, -⟩, -, -, y7⟩ := vz s' h' z
      have b := c2 s' h'
      obtain ⟨⟨e7, -⟩, e8⟩ := y7 v (by omega)
      rw [e7]
      intro w34 i j hi hj
      rw [(e8 i hi).1, (e8 j hj).2]
      exact q s' v h' hv1 (by omega) w34 i j hi hj
  · by_cases z : s' = s
    · subst z; omega
    · have y := (vz s' h' z).1
      omega
  · have z : ¬ s' = s := by omega
    obtain ⟨⟨y1, y2⟩, -, y5, -⟩ := vz s' h' z
    exact ⟨y1, y2, by rw [vo 11 rfl], fun v f hv hf => (y5 v f hv hf).1⟩
end Q2
