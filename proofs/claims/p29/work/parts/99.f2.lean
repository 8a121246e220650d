/-! ===== a move taken back: the rows ===== -/
section F2
variable {h g G : AH} {Z Y X : ZT} {c b L r t k x i : Nat}
theorem zRw.p21 {v : Int} (hx : ¬ x = r) (z : zRw X Z x) : zRw (zs X 21 r v) Z x := ⟨(zs_miss hx rfl).trans z.1, (zs_ne rfl rfl).trans z.2.1, fun f hf => (zs_ne rfl rfl).trans (z.2.2.1 f hf), fun f hf => (zs_ne rfl rfl).trans (z.2.2.2.1 f hf), fun f hf => (zs_ne rfl rfl).trans (z.2.2.2.2 f hf)⟩
theorem zRw.p23 {v : Int} (hx : ¬ x = r) (z : zRw X Z x) : zRw (zs X 23 r v) Z x := ⟨(zs_ne rfl rfl).trans z.1, (zs_miss hx rfl).trans z.2.1, fun f hf => (zs_ne rfl rfl).trans (z.2.2.1 f hf), fun f hf => (zs_ne rfl rfl).trans (z.2.2.2.1 f hf), fun f hf => (zs_ne rfl rfl).trans (z.2.2.2.2 f hf)⟩
theorem zRw.p24 {v : Int} (hx : ¬ x = r) (hi : i < 24) (z : zRw X Z x) : zRw (zs X 24 (24 * r + i) v) Z x := ⟨(zs_ne rfl rfl).trans z.1, (zs_ne rfl rfl).trans z.2.1, fun f hf => (zs_ne rfl rfl).trans (z.2.2.1 f hf), fun f hf => (zs_miss (by omega) rfl).trans (z.2.2.2.1 f hf), fun f hf => (zs_ne rfl rfl).trans (z.2.2.2.2 f hf)⟩
theorem zRw.p25 {v : Int} (hx : ¬ x = r) (hi : i < 48) (z : zRw X Z x) : zRw (zs X 25 (48 * r + i) v) Z x := ⟨(zs_ne rfl rfl).trans z.1, (zs_ne rfl rfl).trans z.2.1, fun f hf => (zs_ne rfl rfl).trans (z.2.2.1 f hf), fun f hf => (zs_ne rfl rfl).trans (z.2.2.2.1 f hf), fun f hf => (zs_miss (by omega) rfl).trans (z.2.2.2.2 f hf)⟩
theorem zRw.p22 {f v : Int} (hx : ¬ x = r) (hf : -1 ≤ f ∧ f < 48) (z : zRw X Z x) : zRw (zv X (r : Int) f v) Z x := by
  unfold zv
  split
  · exact z
  · exact ⟨(zs_ne rfl rfl).trans z.1, (zs_ne rfl rfl).trans z.2.1, fun f' hf' => (zs_miss (by omega) rfl).trans (z.2.2.1 f' hf'), fun f hf => (zs_ne rfl rfl).trans (z.2.2.2.1 f hf), fun f hf => (zs_ne rfl rfl).trans (z.2.2.2.2 f hf)⟩
/-- a step's fields, wherever -/
def BO (Z : ZT) (p : Int) : Prop := ∀ u j : Int, -1 ≤ zon Z p u j ∧ zon Z p u j < 48
theorem BO.s {p v : Int} {j i : Nat} (B : BO Z p) (hj : (j != 7 && j != 8 && j != 9) = true) : BO (zs Z j i v) p := fun u j' => by
  have := B u j'
  simp only [Bool.and_eq_true, bne_iff_ne, ne_eq] at hj
  have o : ∀ a, ¬ a = j → zs Z j i v a = Z a := fun a ha => zs_oj (beq_ne ha)
  unfold zon zfr zbe at *
  rw [o 7 (by omega), o 8 (by omega), o 9 (by omega)]
  exact this
theorem BO.v {p q f w : Int} (B : BO Z p) : BO (zv Z q f w) p := by
  unfold zv
  split
  · exact B
  · exact B.s rfl
theorem zUnd_x {m : Int} (h34 : Z 34 t = (r : Int)) (hi : zundA Z (r : Int) (t : Int) = (i : Int)) (hi2 : i < 24) (B : BO Z (24 * Z 20 r + (i : Int))) (hx : ¬ x = r) : zRw (zUnd Z m (t : Int)) Z x ∧ zUnd Z m (t : Int) 26 x = Z 26 x := by
  have q : zRw (zUnd2 Z (r : Int) (t : Int)) Z x := by
    unfold zUnd2 zUnd1 zUnd0
    rw [hi, Int.toNat_natCast, Int.toNat_natCast]
    generalize 24 * Z 20 r + (i : Int) = p at *
    have e24 : (24 * (r : Int) + (i : Int)).toNat = 24 * r + i := by omega
    rw [e24]
    have z0 : zRw (zs (zs (zs (zs Z 48 0 0) 21 r (Z 37 t)) 23 r (Z 38 t)) 24 (24 * r + i) (Z 39 t)) Z x := (((zRw.o rfl : zRw (zs Z 48 0 0) Z x).p21 hx).p23 hx).p24 hx hi2
    have b0 : BO (zs (zs (zs (zs Z 48 0 0) 21 r (Z 37 t)) 23 r (Z 38 t)) 24 (24 * r + i) (Z 39 t)) p := (((B.s rfl).s rfl).s rfl).s rfl
    generalize zs (zs (zs (zs Z 48 0 0) 21 r (Z 37 t)) 23 r (Z 38 t)) 24 (24 * r + i) (Z 39 t) = X0 at *
    have ub : ∀ (X : ZT) (j : Int), (j = 0 ∨ j = 1) → zRw X Z x → BO X p → zRw (zUb X (r : Int) p (24 * (r : Int) + (i : Int)) (t : Int) j) Z x ∧ BO (zUb X (r : Int) p (24 * (r : Int) + (i : Int)) (t : Int) j) p := fun X j hj z b => by
      unfold zUb
      rw [show (2 * (24 * (r : Int) + (i : Int)) + j).toNat = 48 * r + (2 * i + j.toNat) by omega]
      have b1 : BO (zs X 25 (48 * r + (2 * i + j.toNat)) (X 40 (2 * (t : Int) + j).toNat)) p := b.s rfl
      exact ⟨(z.p25 hx (by omega)).p22 hx (b1 0 j), b1.v⟩
    have uf : ∀ (X : ZT) (j : Int), zRw X Z x → BO X p → zRw (zUf X (r : Int) p (t : Int) (i : Int) j) Z x ∧ BO (zUf X (r : Int) p (t : Int) (i : Int) j) p := fun X j z b => by
      unfold zUf
      split
      · exact ⟨z.p22 hx (b 1 j), b.v⟩
      · exact ⟨z, b⟩
    obtain ⟨z1, b1⟩ := ub _ 0 (Or.inl rfl) z0 b0
    obtain ⟨z2, b2⟩ := ub _ 1 (Or.inr rfl) z1 b1
    obtain ⟨z3, b3⟩ := uf _ 0 z2 b2
    exact (uf _ 1 z3 b3).1
  unfold zUnd
  rw [Int.toNat_natCast, h34, Int.toNat_natCast]
  refine ⟨⟨(zs_ne rfl (zs_ne rfl rfl)).trans q.1, (zs_ne rfl (zs_ne rfl rfl)).trans q.2.1, fun f hf => (zs_ne rfl (zs_ne rfl rfl)).trans (q.2.2.1 f hf), fun f hf => (zs_ne rfl (zs_ne rfl rfl)).trans (q.2.2.2.1 f hf), fun f hf => (zs_ne rfl (zs_ne rfl rfl)).trans (q.2.2.2.2 f hf)⟩, zs_ne rfl (zs_miss hx ?_)⟩
  rw [zUnd2_o rfl]
end F2
