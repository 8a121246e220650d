/-! ===== the model: the calls that make versions ===== -/
section M3
variable {Q : AH → AO → Prop} {h : AH} {Z : ZT}
def cd2 (a b : Prop) [Decidable a] [Decidable b] : Int := if a then 1 else if b then 2 else 0
def cd3 (a b c : Prop) [Decidable a] [Decidable b] [Decidable c] : Int := if a then 1 else if b then 2 else if c then 3 else 0
theorem cd2_0 {a b : Prop} [Decidable a] [Decidable b] : ¬ 0 < cd2 a b ↔ ¬ a ∧ ¬ b := by unfold cd2; (repeat' split) <;> simp_all
theorem cd3_0 {a b c : Prop} [Decidable a] [Decidable b] [Decidable c] : ¬ 0 < cd3 a b c ↔ ¬ a ∧ ¬ b ∧ ¬ c := by unfold cd3; (repeat' split) <;> simp_all
theorem zfA_rng {s a n : Int} : ∀ k, zfA Z s a n k = -1 ∨ (0 ≤ zfA Z s a n k ∧ zfA Z s a n k < k ∧ Z 5 (48 * (24 * s + a) + zfA Z s a n k).toNat = n ∧ 0 ≤ n ∧ n ≤ 25)
  | 0 => Or.inl rfl
  | k + 1 => by
    unfold zfA
    split
    · next e => exact Or.inr ⟨by omega, by omega, e.2, e.1⟩
    · rcases zfA_rng k with q | ⟨q1, q2, q3⟩
      · exact Or.inl q
      · exact Or.inr ⟨q1, by omega, q3⟩
theorem zfind_rng {s a n : Int} (hf : 0 ≤ Z 2 s.toNat) : zfind Z s a n = -1 ∨ (0 ≤ zfind Z s a n ∧ zfind Z s a n < Z 2 s.toNat ∧ Z 5 (48 * (24 * s + a) + zfind Z s a n).toNat = n ∧ 0 ≤ n ∧ n ≤ 25) := by
  rcases zfA_rng (Z := Z) (s := s) (a := a) (n := n) (Z 2 s.toNat).toNat with q | ⟨q1, q2, q3⟩
  · exact Or.inl q
  · exact Or.inr ⟨q1, by unfold zfind; omega, q3⟩
theorem zatH_rng (B : BS Z) {s n : Int} : zatH Z s n = -1 ∨ (0 ≤ s ∧ s < Z 0 0 ∧ s < 4 ∧ zatH Z s n = zfind Z s (Z 1 s.toNat) n ∧ 0 ≤ zatH Z s n ∧ zatH Z s n < Z 2 s.toNat ∧ zatH Z s n < 46) := by
  have B0 := B.1
  unfold zatH
  split
  · next e =>
    have b := B.2 s.toNat (by omega)
    rcases zfind_rng (Z := Z) (s := s) (a := Z 1 s.toNat) (n := n) (by omega) with q | ⟨q1, q2, q3⟩
    · exact Or.inl q
    · exact Or.inr ⟨e.1, e.2, by omega, rfl, q1, q2, by omega⟩
  · exact Or.inl rfl
theorem zbeg_o {s a f w : Int} {j i : Nat} {x : Int} (hj : (j != 1 && j != 5 && j != 6 && j != 7 && j != 8 && j != 9) = true) (k : Z j i = x) : zbeg Z s a f w j i = x := by
  simp only [Bool.and_eq_true, bne_iff_ne, ne_eq] at hj
  unfold zbeg zs
  simp only [hj.1.1.1.1.1, hj.1.1.1.1.2, hj.1.1.1.2, hj.1.1.2, hj.1.2, hj.2, false_and, if_false]
  exact zcp_o (by simp [hj.1.1.1.1.2, hj.1.1.1.2]) k
theorem zbeg_h {s a f w x : Int} (k : a = x) : zbeg Z s a f w 1 s.toNat = x := by
  unfold zbeg
  apply zs_ne rfl; apply zs_ne rfl; apply zs_ne rfl; apply zs_ne rfl; apply zs_ne rfl; exact zs_eq rfl k
theorem zbeg_6 {s a f w x : Int} {i : Int} (hs : 0 ≤ s) (ha : 0 < a) (hi : 0 ≤ i ∧ i < f) {q : Nat} (hq : q = (48 * (24 * s + a) + i).toNat) (k : Z 6 (48 * (24 * s + (a - 1)) + i).toNat = x) : zbeg Z s a f w 6 q = x := by
  unfold zbeg
  apply zs_ne rfl; apply zs_ne rfl; apply zs_ne rfl; apply zs_ne rfl; apply zs_ne rfl; apply zs_ne rfl
  unfold zcp
  rw [if_pos ⟨Or.inr rfl, by omega, by omega⟩, ← k]
  congr 1
  omega
theorem zmak_o {s a f n hw v nd : Int} {j i : Nat} {x : Int} (hj : (j != 2 && j != 3 && j != 4 && j != 5 && j != 6) = true) (k : Z j i = x) : zmak Z s a f n hw v nd j i = x := by
  simp only [Bool.and_eq_true, bne_iff_ne, ne_eq] at hj
  unfold zmak zs
  simp only [hj.1.1.1.1, hj.1.1.1.2, hj.1.1.2, hj.1.2, hj.2, false_and, if_false]
  exact k
theorem zmak_2 {s a f n hw v nd x : Int} (k : f + 1 = x) : zmak Z s a f n hw v nd 2 s.toNat = x := zs_eq rfl k
theorem zsF {c : Int} (F : BF Z) : ∀ i, zs Z 48 0 c 6 i = 0 ∨ zs Z 48 0 c 6 i = 1 := fun i => by
  rw [zs_ne (x := Z 6 i) rfl rfl]; exact F 6 rfl i
def zcAdd (Z : ZT) (s n hw v : Int) : Int := cd3 (¬ (0 ≤ s ∧ s < Z 0 0)) (¬ ((0 ≤ n ∧ n ≤ 25) ∧ (0 ≤ hw ∧ hw ≤ 2) ∧ 0 ≤ v ∧ v ≤ zmost hw)) (zatH Z s n ≠ -1 ∨ Z 1 s.toNat = 23)
def zAdd (Z : ZT) (s n hw v nd : Int) : ZT :=
  let a := Z 1 s.toNat + 1
  zs (zmak (zbeg (zs Z 48 0 0) s a (Z 2 s.toNat) 0) s a (Z 2 s.toNat) n hw v nd) 9 (2 * (24 * s + a)).toNat (Z 2 s.toNat)
def zcRen (Z : ZT) (s n o : Int) : Int := cd3 (zatH Z s n = -1) (¬ (0 ≤ o ∧ o ≤ 25)) (zatH Z s o ≠ -1 ∨ Z 1 s.toNat = 23)
def zRen (Z : ZT) (s n o : Int) : ZT :=
  let a := Z 1 s.toNat + 1
  let f := zatH Z s n
  zs (zs (zs (zbeg (zs Z 48 0 0) s a (Z 2 s.toNat) 1) 8 (2 * (24 * s + a)).toNat f) 9 (2 * (24 * s + a)).toNat f) 5 (48 * (24 * s + a) + f).toNat o
def zcTur (Z : ZT) (s n hw : Int) : Int := cd3 (zatH Z s n = -1) (¬ (0 ≤ hw ∧ hw ≤ 2)) (Z 3 (48 * s + zatH Z s n).toNat = hw ∨ ¬ zwt Z s (zatH Z s n) = 0 ∨ Z 1 s.toNat = 23)
def zTur (Z : ZT) (s n hw : Int) : ZT :=
  let a := Z 1 s.toNat + 1
  let f := zatH Z s n
  let nf := Z 2 s.toNat
  zs (zmak (zs (zs (zbeg (zs Z 48 0 0) s a nf 2) 5 (48 * (24 * s + a) + f).toNat (-1)) 8 (2 * (24 * s + a)).toNat f) s a nf n hw (ztur (Z 4 (48 * s + f).toNat) (Z 3 (48 * s + f).toNat) hw) (Z 6 (48 * (24 * s + Z 1 s.toNat) + f).toNat)) 9 (2 * (24 * s + a)).toNat nf
def zcTog (Z : ZT) (s n : Int) : Int := cd2 (zatH Z s n = -1) (Z 1 s.toNat = 23)
def zTog (Z : ZT) (s n : Int) : ZT :=
  let a := Z 1 s.toNat + 1
  let f := zatH Z s n
  zs (zs (zs (zbeg (zs Z 48 0 0) s a (Z 2 s.toNat) 6) 8 (2 * (24 * s + a)).toNat f) 9 (2 * (24 * s + a)).toNat f) 6 (48 * (24 * s + a) + f).toNat (bz (Z 6 (48 * (24 * s + Z 1 s.toNat) + f).toNat = 0))
end M3
