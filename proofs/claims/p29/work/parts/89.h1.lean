/-! ===== the face: letGo, retire ===== -/
section H1
variable {Q : AH → AO → Prop} {h g G : AH} {Z Y : ZT} {c q : Nat} {A : Nat → Nat}
theorem foO {j : Nat} {Y Z : ZT} (k : ∀ j, ¬ j = 14 → ¬ j = 15 → ¬ j = 16 → ¬ j = 17 → ¬ j = 18 → ¬ j = 48 → Y j = Z j) : ∀ j, (j == 14 || j == 15 || j == 16 || j == 17 || j == 18 || j == 48) = false → Y j = Z j := fun j hj => by
  simp only [Bool.or_eq_false_iff, beq_eq_false_iff_ne] at hj
  obtain ⟨⟨⟨⟨⟨h1, h2⟩, h3⟩, h4⟩, h5⟩, h6⟩ := hj
  exact k j h1 h2 h3 h4 h5 h6
/-- what a call on a form k finds -/
theorem FF.fnd {k : Nat} {n : Int} (S : SIMq A 9 h Z c) (hk : (k : Int) < Z 13 0) (G : 0 ≤ Z 15 k ∧ Z 15 k ≤ Z 1 (Z 14 k).toNat) : zinF Z (k : Int) n = cfn h (Z 14 k).toNat (hI h (8, k, 0) 1) n := by
  have F := S.2.2.2.1 k hk
  obtain ⟨F1, F2, ⟨F3, F4⟩, F5⟩ := F
  obtain ⟨S1, K, -⟩ := S.sc (s := (Z 14 k).toNat) (by omega)
  unfold zinF
  rw [if_pos ⟨by omega, by omega⟩, Int.toNat_natCast, F3]
  have := S1.fnd K (v := Z 15 k) (n := n) G
  rw [show (((Z 14 k).toNat : Nat) : Int) = Z 14 k by omega] at this
  exact this
theorem bt_clr {x : Int64} {F : Int} {f : Nat} (hF : 0 ≤ F ∧ F < 64) (hf : f < 64) : bt (x &&& (bitI F ^^^ (-1))) f ↔ bt x f ∧ ¬ (f : Int) = F := by
  rw [bt_and, bt_not (by omega), bit_bt hF (by omega)]
theorem bt_set {x : Int64} {F : Int} {f : Nat} (hF : 0 ≤ F ∧ F < 64) (hf : f < 64) : bt (x ||| bitI F) f ↔ bt x f ∨ (f : Int) = F := by
  rw [bt_or, bit_bt hF (by omega)]
end H1
