/-! ===== the model: head, field, forms ===== -/
section M9
variable {Q : AH → AO → Prop} {h : AH} {Z : ZT}
theorem zfA_c {Z' : ZT} {s a n : Int} (e : Z' 5 = Z 5) : ∀ k, zfA Z' s a n k = zfA Z s a n k
  | 0 => rfl
  | k + 1 => by unfold zfA; rw [e, zfA_c e k]
theorem zfind_c {Z' : ZT} {s a n : Int} (e : Z' 5 = Z 5) (e2 : Z' 2 = Z 2) : zfind Z' s a n = zfind Z s a n := by
  unfold zfind; rw [zfA_c e, e2]
def zcFie (Z : ZT) (s v n : Int) : Int := cd2 (¬ ((0 ≤ s ∧ s < Z 0 0) ∧ 0 ≤ v ∧ v ≤ Z 1 s.toNat)) (¬ (0 ≤ n ∧ n ≤ 25))
def zFie (Z : ZT) (s v n : Int) : Int := if zfind Z s v n = -1 then -1 else 10 * zfind Z s v n + (if Z 6 (48 * (24 * s + v) + zfind Z s v n).toNat = 0 then 0 else 3) + Z 3 (48 * s + zfind Z s v n).toNat
def zinF (Z : ZT) (g n : Int) : Int := if 0 ≤ g ∧ g ≤ Z 13 0 - 1 then zfind Z (Z 14 g.toNat) (Z 15 g.toNat) n else -1
theorem zinF_rng (B : BI Z) {g n : Int} : zinF Z g n = -1 ∨ ((0 ≤ g ∧ g < 8 ∧ g < Z 13 0) ∧ (0 ≤ Z 14 g.toNat ∧ Z 14 g.toNat < 4) ∧ (0 ≤ Z 15 g.toNat ∧ Z 15 g.toNat ≤ Z 1 (Z 14 g.toNat).toNat ∧ Z 15 g.toNat ≤ 23) ∧ 0 ≤ zinF Z g n ∧ zinF Z g n < Z 2 (Z 14 g.toNat).toNat ∧ zinF Z g n < 46) := by
  have G0 := B.2.2.2.1.1
  unfold zinF; split
  · next e =>
    have b := B.2.2.2.1.2 g.toNat (by omega)
    have bs := B.1.2 (Z 14 g.toNat).toNat (by omega)
    rcases zfind_rng (Z := Z) (s := Z 14 g.toNat) (a := Z 15 g.toNat) (n := n) (by omega) with q | ⟨q1, q2, -⟩
    · exact Or.inl q
    · exact Or.inr ⟨by omega, by omega, by omega, by omega, by omega, by omega⟩
  · exact Or.inl rfl
end M9
