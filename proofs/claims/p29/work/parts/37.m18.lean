/-! ===== the model: write, set, value, replayed ===== -/
section M18
variable {Q : AH → AO → Prop} {h : AH} {Z : ZT}
theorem zcnt_z3 {t l w : Nat → Int} {r : Int} : zcnt (z3 Z t l w) r = z3 (zcnt Z r) t l w := by
  unfold zcnt
  rw [show z3 Z t l w 27 0 = Z 27 0 from rfl, zs_z3' rfl, zs_z3' rfl]
theorem beq_ne {j k : Nat} (h : ¬ j = k) : Nat.beq j k = false := by
  cases q : Nat.beq j k
  · rfl
  · exact absurd (Nat.eq_of_beq_eq_true q) h
theorem z3_ne {t l w : Nat → Int} {j i : Nat} {x : Int} (hj : (j != 43 && j != 44 && j != 45) = true) (k : Z j i = x) : z3 Z t l w j i = x := by
  simp only [Bool.and_eq_true, bne_iff_ne, ne_eq] at hj
  unfold z3
  exact zrow_ne (beq_ne hj.1.1) (zrow_ne (beq_ne hj.1.2) (zrow_ne (beq_ne hj.2) k))
/-- kinds lie in 0 to 2 -/
def BK (Z : ZT) : Prop := ∀ i, 0 ≤ Z 3 i ∧ Z 3 i ≤ 2
def zcWok (Z : ZT) (g r n x : Int) : Int := bz (¬ zhlc Z g n r = 0 ∧ Z 20 r.toNat = Z 14 g.toNat ∧ 0 ≤ x ∧ x ≤ zmost (Z 3 (48 * Z 14 g.toNat + zinF Z g n).toNat))
def zcWri (Z : ZT) (g r n x : Int) : Int := cd3 (zhlc Z g n r = 0) (zcWok Z g r n x = 0) (Z 18 (48 * g + zinF Z g n).toNat = 0)
def zWri1 (Z : ZT) (g r n x : Int) : ZT := zs (zsee Z r (Z 15 g.toNat)) 22 (960 + zinF Z g n).toNat x
def zWri2 (Z : ZT) (g r n x : Int) : ZT := zmt (zWri1 Z g r n x) 20 (Z 20 r.toNat) (Z 21 r.toNat)
def zWri (Z : ZT) (g r n x : Int) : ZT := zcnt (zcpy (zWri2 Z g r n x) 20 r.toNat) r
theorem zWri1_o {g r n x : Int} {j : Nat} (hj : (j != 20 && offR j) = true) : zWri1 Z g r n x j = Z j := by
  unfold zWri1
  have h22 : Nat.beq j 22 = false := by
    cases q : Nat.beq j 22
    · rfl
    · have := Nat.eq_of_beq_eq_true q; subst this; exact absurd hj (by decide)
  rw [zs_oj h22, zsee_o hj]
def zinR (Z : ZT) (r n : Int) : Int := if 0 ≤ r ∧ r ≤ Z 19 0 - 1 then zfind Z (Z 20 r.toNat) (Z 21 r.toNat) n else -1
theorem zinR_rng (B : BI Z) (R : BR Z) {r n : Int} : zinR Z r n = -1 ∨ ((0 ≤ r ∧ r < 20 ∧ r < Z 19 0) ∧ (0 ≤ Z 20 r.toNat ∧ Z 20 r.toNat < 4) ∧ (0 ≤ Z 21 r.toNat ∧ Z 21 r.toNat ≤ Z 1 (Z 20 r.toNat).toNat ∧ Z 21 r.toNat ≤ 23) ∧ 0 ≤ zinR Z r n ∧ zinR Z r n < Z 2 (Z 20 r.toNat).toNat ∧ zinR Z r n < 46) := by
  have R0 := R.1
  unfold zinR; split
  · next e =>
    have b := R.2 r.toNat (by omega)
    have bs := B.1.2 (Z 20 r.toNat).toNat (by omega)
    rcases zfind_rng (Z := Z) (s := Z 20 r.toNat) (a := Z 21 r.toNat) (n := n) (by omega) with q | ⟨q1, q2, -⟩
    · exact Or.inl q
    · exact Or.inr ⟨by omega, by omega, by omega, by omega, by omega, by omega⟩
  · exact Or.inl rfl
def zcSok (Z : ZT) (r n x : Int) : Int := bz (¬ zinR Z r n = -1 ∧ ((0 ≤ x ∧ x ≤ zmost (Z 3 (48 * Z 20 r.toNat + zinR Z r n).toNat)) ∨ (x = -1 ∧ Z 6 (48 * (24 * Z 20 r.toNat + Z 21 r.toNat) + zinR Z r n).toNat = 0)))
def zcSet (Z : ZT) (r n x : Int) : Int := cd2 (zinR Z r n = -1) (zcSok Z r n x = 0)
def zSet (Z : ZT) (r n x : Int) : ZT := zcnt (zs (zs Z 48 0 0) 22 (48 * r + zinR Z r n).toNat x) r
def zcVal (Z : ZT) (r v n : Int) : Int := if (0 ≤ r ∧ r ≤ Z 19 0 - 1) ∧ ((0 ≤ Z 20 r.toNat ∧ Z 20 r.toNat < Z 0 0) ∧ 0 ≤ v ∧ v ≤ Z 1 (Z 20 r.toNat).toNat) then zfind Z (Z 20 r.toNat) v n else -1
end M18
