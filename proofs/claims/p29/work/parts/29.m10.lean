/-! ===== the model: what a form holds ===== -/
section M10
variable {Q : AH → AO → Prop} {h : AH} {Z : ZT}
def zheA (Z : ZT) (g : Int) : Nat → Int
  | 0 => 0
  | i + 1 => zheA Z g i + (if Z 17 (48 * g + (i : Int)).toNat = 0 then 0 else 1)
theorem zheA_rng {g : Int} : ∀ i : Nat, 0 ≤ zheA Z g i ∧ zheA Z g i ≤ i
  | 0 => ⟨by show (0 : Int) ≤ 0; omega, by show (0 : Int) ≤ 0; omega⟩
  | i + 1 => by
    have := zheA_rng (g := g) i
    unfold zheA; split <;> omega
def zca (t : Nat → Int) : Nat → Int
  | 0 => 0
  | i + 1 => bz (¬ zca t i = 0 ∨ ¬ t i = 0)
def zcb (Z : ZT) (s : Int) (t : Nat → Int) : Nat → Int
  | 0 => 0
  | i + 1 => bz (¬ zcb Z s t i = 0 ∨ (¬ t i = 0 ∧ ¬ zwt Z s (i : Int) = 0))
def zct (Z : ZT) (g f : Int) : Int :=
  bz (¬ zca (zTr Z (Z 14 g.toNat) (Z 15 g.toNat) f) (Z 2 (Z 14 g.toNat).toNat).toNat = 0 ∧ zcb Z (Z 14 g.toNat) (zTr Z (Z 14 g.toNat) (Z 15 g.toNat) f) (Z 2 (Z 14 g.toNat).toNat).toNat = 0)
theorem zwA_c {Z' : ZT} {s f : Int} (e : Z' 12 = Z 12) : ∀ k, zwA Z' s f k = zwA Z s f k
  | 0 => rfl
  | k + 1 => by unfold zwA; rw [e, zwA_c e k]
theorem zwt_c {Z' : ZT} {s f : Int} (e : Z' 12 = Z 12) (e2 : Z' 11 = Z 11) : zwt Z' s f = zwt Z s f := by
  unfold zwt; rw [zwA_c e, e2]
end M10
