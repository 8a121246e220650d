/-! ===== the model: step, undo ===== -/
section M20
variable {Q : AH → AO → Prop} {h : AH} {Z : ZT} {mc ms bc bs : Nat}
def zRec0 (Z : ZT) (r m q : Int) : ZT :=
  zs (zs (zs (zs (zs (zs Z 33 (Z 32 0).toNat (Z 31 m.toNat)) 34 (Z 32 0).toNat r) 36 (Z 32 0).toNat (Z 26 r.toNat)) 37 (Z 32 0).toNat (Z 21 r.toNat)) 38 (Z 32 0).toNat (Z 23 r.toNat)) 39 (Z 32 0).toNat (Z 24 q.toNat)
def zRecJ (Z : ZT) (r p q n j : Int) : ZT := zs (zs (zs Z 40 (2 * n + j).toNat (Z 25 (2 * q + j).toNat)) 41 (2 * n + j).toNat (zL Z r 1 p j)) 42 (2 * n + j).toNat (zL Z r 0 p j)
def zstA' (Z : ZT) (r m : Int) : Int := if Z 21 r.toNat < Z 30 m.toNat then Z 21 r.toNat + 1 else Z 21 r.toNat
def zStp2 (Z : ZT) (r p q m : Int) : ZT := zRecJ (zRecJ (zRec0 (zs Z 48 0 0) r m q) r p q (Z 32 0) 0) r p q (Z 32 0) 1
def zStp3 (Z : ZT) (r m : Int) : ZT := zcnt (zmv (zStp2 Z r (24 * Z 20 r.toNat + zstA' Z r m) (24 * r + zstA' Z r m) m) r (Z 20 r.toNat) (zstA' Z r m) (bz (Z 21 r.toNat < Z 30 m.toNat))) r
def zStp (Z : ZT) (r m : Int) : ZT := zs (zs (zs (zStp3 Z r m) 35 (Z 32 0).toNat (zStp3 Z r m 26 r.toNat)) 31 m.toNat (Z 32 0)) 32 0 (Z 32 0 + 1)
def zcStp (Z : ZT) (m : Int) : Int := cd2 (¬ (0 ≤ m ∧ m ≤ Z 28 0 - 1)) (znx Z m = -1)
theorem zStp2_o {r p q m : Int} {j : Nat} (hj : (j != 33 && j != 34 && j != 36 && j != 37 && j != 38 && j != 39 && j != 40 && j != 41 && j != 42 && j != 48) = true) : zStp2 Z r p q m j = Z j := by
  simp only [Bool.and_eq_true, bne_iff_ne, ne_eq] at hj
  obtain ⟨⟨⟨⟨⟨⟨⟨⟨⟨a1, a2⟩, a3⟩, a4⟩, a5⟩, a6⟩, a7⟩, a8⟩, a9⟩, a10⟩ := hj
  unfold zStp2 zRecJ zRec0
  rw [zs_oj (beq_ne a9), zs_oj (beq_ne a8), zs_oj (beq_ne a7), zs_oj (beq_ne a9), zs_oj (beq_ne a8), zs_oj (beq_ne a7), zs_oj (beq_ne a6), zs_oj (beq_ne a5), zs_oj (beq_ne a4), zs_oj (beq_ne a3), zs_oj (beq_ne a2), zs_oj (beq_ne a1), zs_oj (beq_ne a10)]
end M20
