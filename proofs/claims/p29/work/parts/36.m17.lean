/-! ===== the model: rows ===== -/
section M17
variable {Q : AH → AO → Prop} {h : AH} {Z : ZT}
theorem zs_z3' {t l w : Nat → Int} {j i : Nat} {v : Int} (hj : (j != 43 && j != 44 && j != 45) = true) : zs (z3 Z t l w) j i v = z3 (zs Z j i v) t l w := by
  simp only [Bool.and_eq_true, bne_iff_ne, ne_eq] at hj
  have e : ∀ k, ¬ j = k → Nat.beq j k = false := fun k e => by
    cases q : Nat.beq j k
    · rfl
    · exact absurd (Nat.eq_of_beq_eq_true q) e
  exact zs_z3 (e _ hj.1.1) (e _ hj.1.2) (e _ hj.2)
theorem zcpy_z3 {t l w : Nat → Int} {a b : Nat} : zcpy (z3 Z t l w) a b = z3 (zcpy Z a b) t l w := by
  unfold zcpy zcp0
  rw [show z3 Z t l w 20 a = Z 20 a from rfl, show z3 Z t l w 21 a = Z 21 a from rfl, show z3 Z t l w 23 a = Z 23 a from rfl, zs_z3' rfl, zs_z3' rfl, zs_z3' rfl, zbl_z3 rfl rfl rfl, zbl_z3 rfl rfl rfl, zbl_z3 rfl rfl rfl]
theorem zcpy_o {a b j : Nat} (hj : (j != 20 && offR j) = true) : zcpy Z a b j = Z j := by
  unfold offR at hj
  simp only [Bool.and_eq_true, bne_iff_ne, ne_eq] at hj
  have e : ∀ k, ¬ j = k → Nat.beq j k = false := fun k e => by
    cases q : Nat.beq j k
    · rfl
    · exact absurd (Nat.eq_of_beq_eq_true q) e
  unfold zcpy zcp0
  rw [zbl_o (e _ hj.2.2), zbl_o (e _ hj.2.1.2), zbl_o (e _ hj.2.1.1.1.2), zs_oj (e _ hj.2.1.1.2), zs_oj (e _ hj.2.1.1.1.1), zs_oj (e _ hj.1)]
theorem zcpy_20 {a b : Nat} : zcpy Z a b 20 b = Z 20 a := zs_eq (j := 20) rfl rfl
theorem zcpy_21 {a b : Nat} : zcpy Z a b 21 b = Z 21 a := zs_eq (j := 21) rfl rfl
theorem zmt_21 {r s v : Int} : zmt Z r s v 21 r.toNat = v := by
  unfold zmt; rw [zmtD_21, zmtU_21]; omega
/-- bounds of the rows -/
def BR (Z : ZT) : Prop := (0 ≤ Z 19 0 ∧ Z 19 0 ≤ 20) ∧ ∀ r : Nat, r < 20 → 0 ≤ Z 20 r ∧ Z 20 r < 4 ∧ 0 ≤ Z 21 r ∧ Z 21 r ≤ Z 1 (Z 20 r).toNat
/-- all steps can be gone -/
def BT (Z : ZT) : Prop := ∀ s : Int, 0 ≤ s → s < 4 → stS Z s
theorem stS_c {Z' : ZT} {s : Int} (e1 : Z' 1 = Z 1) (e7 : Z' 7 = Z 7) (e9 : Z' 9 = Z 9) (e10 : Z' 10 = Z 10) (B : stS Z s) : stS Z' s := by
  unfold stS; rw [e1]; exact fun a h1 h2 => stp_c e7 e9 e10 (B a h1 h2)
def zsee (Z : ZT) (r v : Int) : ZT := zmt (zcpy Z r.toNat 20) 20 (Z 20 r.toNat) v
theorem zsee_o {r v : Int} {j : Nat} (hj : (j != 20 && offR j) = true) : zsee Z r v j = Z j := by
  unfold zsee
  rw [zmt_o (by rw [Bool.and_eq_true] at hj; exact hj.2), zcpy_o hj]
theorem zsee_20 {r v : Int} : zsee Z r v 20 20 = Z 20 r.toNat := by
  unfold zsee; rw [zmt_o rfl]; exact zcpy_20
theorem zsee_21 {r v : Int} : zsee Z r v 21 20 = v := zmt_21 (r := 20)
def zcnt (Z : ZT) (r : Int) : ZT := zs (zs Z 27 0 (wr (Z 27 0 + 1))) 26 r.toNat (wr (Z 27 0 + 1))
def zhld (Z : ZT) (g n r : Int) : Prop := (¬ zinF Z g n = -1 ∧ ¬ Z 17 (48 * g + zinF Z g n).toNat = 0) ∧ (0 ≤ r ∧ r ≤ Z 19 0 - 1)
abbrev zhlc (Z : ZT) (g n r : Int) : Int := bz ((¬ zinF Z g n = -1 ∧ ¬ Z 17 (48 * g + zinF Z g n).toNat = 0) ∧ (0 ≤ r ∧ r ≤ Z 19 0 - 1))
def zcRea (Z : ZT) (g r n : Int) : Int := cd2 (zhlc Z g n r = 0) (¬ Z 20 r.toNat = Z 14 g.toNat)
theorem BR_zs {j i : Nat} {v : Int} (hj : (j != 1 && j != 19 && j != 20 && j != 21) = true) (R : BR Z) : BR (zs Z j i v) := by
  simp only [Bool.and_eq_true, bne_iff_ne, ne_eq] at hj
  have e : ∀ k, ¬ j = k → Nat.beq k j = false := fun k e => by
    cases q : Nat.beq k j
    · rfl
    · exact absurd (Nat.eq_of_beq_eq_true q).symm e
  unfold BR
  rw [zs_oj (e 1 hj.1.1.1), zs_oj (e 19 hj.1.1.2), zs_oj (e 20 hj.1.2), zs_oj (e 21 hj.2)]
  exact R
theorem BT_c {Z' : ZT} (e1 : Z' 1 = Z 1) (e7 : Z' 7 = Z 7) (e9 : Z' 9 = Z 9) (e10 : Z' 10 = Z 10) (B : BT Z) : BT Z' := fun s h1 h2 => stS_c e1 e7 e9 e10 (B s h1 h2)
end M17
