/-! ===== the model's methods: small ones ===== -/
def bz (P : Prop) [Decidable P] : Int := if P then 1 else 0
theorem bz01 (P : Prop) [Decidable P] : bz P = 0 ∨ bz P = 1 := by unfold bz; split <;> simp
theorem bz_1 {P : Prop} [Decidable P] : bz P = 1 ↔ P := by unfold bz; split <;> simp_all
theorem bz_0 {P : Prop} [Decidable P] : bz P = 0 ↔ ¬ P := by unfold bz; split <;> simp_all
theorem bz_n0 {P : Prop} [Decidable P] : ¬ bz P = 0 ↔ P := by unfold bz; split <;> simp_all
section M1
variable {Q : AH → AO → Prop} {h : AH} {Z : ZT}
def zmost (s : Int) : Int := if s = 0 then 9999 else if s = 1 then 1 else 999
/-- the field of a version with a name -/
def zfA (Z : ZT) (s a n : Int) : Nat → Int
  | 0 => -1
  | k + 1 => if (0 ≤ n ∧ n ≤ 25) ∧ Z 5 (48 * (24 * s + a) + (k : Int)).toNat = n then (k : Int) else zfA Z s a n k
def zfind (Z : ZT) (s a n : Int) : Int := zfA Z s a n (Z 2 s.toNat).toNat
end M1
