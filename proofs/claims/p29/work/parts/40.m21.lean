/-! ===== the model: undo ===== -/
section M21
variable {Q : AH → AO → Prop} {h : AH} {Z : ZT} {mc ms bc bs : Nat}
def zUb (Y : ZT) (r p q t j : Int) : ZT := zv (zs Y 25 (2 * q + j).toNat (Y 40 (2 * t + j).toNat)) r (zon Y p 0 j) (Y 42 (2 * t + j).toNat)
def zUf (Y : ZT) (r p t a j : Int) : ZT := if Y 37 t.toNat < a ∨ ¬ Y 7 p.toNat = 6 then zv Y r (zon Y p 1 j) (Y 41 (2 * t + j).toNat) else Y
theorem zUb_o {r p q t j : Int} {i : Nat} (hi : (i != 22 && i != 25) = true) : zUb Z r p q t j i = Z i := by
  simp only [Bool.and_eq_true, bne_iff_ne, ne_eq] at hi
  unfold zUb; rw [zv_o (beq_ne hi.1), zs_oj (beq_ne hi.2)]
theorem zUf_o {r p t a j : Int} {i : Nat} (hi : (i != 22) = true) : zUf Z r p t a j i = Z i := by
  simp only [bne_iff_ne, ne_eq] at hi
  unfold zUf; split
  · rw [zv_o (beq_ne hi)]
  · rfl
def zundA (Z : ZT) (r t : Int) : Int := if Z 37 t.toNat < Z 21 r.toNat then Z 21 r.toNat else Z 37 t.toNat
def zUnd0 (Z : ZT) (r t : Int) : ZT := zs (zs (zs (zs Z 48 0 0) 21 r.toNat (Z 37 t.toNat)) 23 r.toNat (Z 38 t.toNat)) 24 (24 * r + zundA Z r t).toNat (Z 39 t.toNat)
def zUnd1 (Z : ZT) (r t : Int) : ZT := zUb (zUb (zUnd0 Z r t) r (24 * Z 20 r.toNat + zundA Z r t) (24 * r + zundA Z r t) t 0) r (24 * Z 20 r.toNat + zundA Z r t) (24 * r + zundA Z r t) t 1
def zUnd2 (Z : ZT) (r t : Int) : ZT := zUf (zUf (zUnd1 Z r t) r (24 * Z 20 r.toNat + zundA Z r t) t (zundA Z r t) 0) r (24 * Z 20 r.toNat + zundA Z r t) t (zundA Z r t) 1
def zUnd (Z : ZT) (m t : Int) : ZT := zs (zs (zUnd2 Z (Z 34 t.toNat) t) 26 (Z 34 t.toNat).toNat (Z 36 t.toNat)) 31 m.toNat (Z 33 t.toNat)
def zcUnd (Z : ZT) (m : Int) : Int := cd2 (¬ (0 ≤ m ∧ m ≤ Z 28 0 - 1)) (Z 31 m.toNat = -1 ∨ ¬ Z 26 (Z 34 (Z 31 m.toNat).toNat).toNat = Z 35 (Z 31 m.toNat).toNat)
/-- bounds of the steps' notes -/
def BL (Z : ZT) : Prop := (∀ m : Nat, m < 8 → -1 ≤ Z 31 m ∧ Z 31 m < 4096) ∧ ∀ t : Nat, t < 4096 → 0 ≤ Z 34 t ∧ Z 34 t < 20 ∧ 0 ≤ Z 37 t ∧ Z 37 t ≤ 23
theorem zUnd2_o {r t : Int} {i : Nat} (hi : (i != 22 && i != 25 && i != 21 && i != 23 && i != 24 && i != 48) = true) : zUnd2 Z r t i = Z i := by
  simp only [Bool.and_eq_true, bne_iff_ne, ne_eq] at hi
  obtain ⟨⟨⟨⟨⟨a1, a2⟩, a3⟩, a4⟩, a5⟩, a6⟩ := hi
  have q1 : (i != 22) = true := by simpa using a1
  have q2 : (i != 22 && i != 25) = true := by simp [a1, a2]
  unfold zUnd2 zUnd1 zUnd0
  rw [zUf_o q1, zUf_o q1, zUb_o q2, zUb_o q2, zs_oj (beq_ne a5), zs_oj (beq_ne a4), zs_oj (beq_ne a3), zs_oj (beq_ne a6)]
end M21
