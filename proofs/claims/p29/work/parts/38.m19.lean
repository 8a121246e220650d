/-! ===== the model: standing, row, mover, the next row ===== -/
section M19
variable {Q : AH → AO → Prop} {h : AH} {Z : ZT}
def zstA (Z : ZT) (r : Int) : Nat → Int
  | 0 => 0
  | i + 1 => zstA Z r i + (if 0 < Z 24 (24 * r + (i : Int)).toNat then 1 else 0)
theorem zstA_rng {r : Int} : ∀ i : Nat, 0 ≤ zstA Z r i ∧ zstA Z r i ≤ i
  | 0 => ⟨by show (0 : Int) ≤ 0; omega, by show (0 : Int) ≤ 0; omega⟩
  | i + 1 => by
    have := zstA_rng (r := r) i
    unfold zstA; split <;> omega
theorem zstA_c {Z' : ZT} {r : Int} (e : Z' 24 = Z 24) : ∀ k, zstA Z' r k = zstA Z r k
  | 0 => rfl
  | k + 1 => by unfold zstA; rw [e, zstA_c e k]
def zStd (Z : ZT) (r : Int) : Int := wr (10000 * Z 21 r.toNat + 100 * zstA Z r 24 + Z 23 r.toNat)
/-- the first n of a block -/
def zfl (Z : ZT) (j d : Nat) (f : Nat → Int) (n : Nat) : ZT := fun j' i => if j' = j ∧ d ≤ i ∧ i < d + n then f (i - d) else Z j' i
theorem zfl_0 {j d : Nat} {f : Nat → Int} : zfl Z j d f 0 = Z := by
  funext a b; unfold zfl; rw [if_neg]; rintro ⟨-, e1, e2⟩; omega
theorem zfl_ne {j d n j' i' : Nat} {f : Nat → Int} {x : Int} (hj : Nat.beq j' j = false) (k : Z j' i' = x) : zfl Z j d f n j' i' = x := by
  unfold zfl
  rw [if_neg, k]
  rintro ⟨rfl, -⟩
  simp at hj
theorem zfl_step {j d n i : Nat} {f : Nat → Int} {v : Int} (hi : i = d + n) (hv : v = f n) : zs (zfl Z j d f n) j i v = zfl Z j d f (n + 1) := by
  subst hi; subst hv
  funext a b
  unfold zs zfl
  by_cases e : a = j ∧ b = d + n
  · rw [if_pos e, if_pos ⟨e.1, by omega, by omega⟩, e.2]
    congr 1; omega
  · rw [if_neg e]
    by_cases e2 : a = j ∧ d ≤ b ∧ b < d + n
    · rw [if_pos e2, if_pos ⟨e2.1, by omega, by omega⟩]
    · rw [if_neg e2, if_neg]
      rintro ⟨z1, z2, z3⟩
      refine e2 ⟨z1, z2, ?_⟩
      have := fun z => e ⟨z1, z⟩
      omega
def zrwV (Z : ZT) (s v : Int) (i : Nat) : Int := if (i : Int) < Z 2 s.toNat ∧ ¬ Z 5 (48 * (24 * s + v) + (i : Int)).toNat = -1 ∧ ¬ Z 6 (48 * (24 * s + v) + (i : Int)).toNat = 0 then Z 4 (48 * s + (i : Int)).toNat else -1
def zcVer (Z : ZT) (s v : Int) (c : Prop) [Decidable c] : Int := cd2 (¬ ((0 ≤ s ∧ s < Z 0 0) ∧ 0 ≤ v ∧ v ≤ Z 1 s.toNat)) c
def zRow0 (Z : ZT) (s v : Int) : ZT := zs (zs (zs Z 48 0 0) 20 (Z 19 0).toNat s) 21 (Z 19 0).toNat v
def zRow (Z : ZT) (s v : Int) : ZT := zs (zcnt (zfl (zRow0 Z s v) 22 (48 * (Z 19 0).toNat) (zrwV Z s v) 48) (Z 19 0)) 19 0 (Z 19 0 + 1)
/-- bounds of the movers -/
def BM (Z : ZT) : Prop := (0 ≤ Z 28 0 ∧ Z 28 0 ≤ 8) ∧ ∀ m : Nat, m < 8 → 0 ≤ Z 29 m ∧ Z 29 m < 4 ∧ 0 ≤ Z 30 m ∧ Z 30 m ≤ Z 1 (Z 29 m).toNat
def zMov (Z : ZT) (s v : Int) : ZT := zs (zs (zs (zs (zs Z 48 0 0) 29 (Z 28 0).toNat s) 30 (Z 28 0).toNat v) 31 (Z 28 0).toNat (-1)) 28 0 (Z 28 0 + 1)
def zoff (Z : ZT) (r m : Int) : Int := if Z 21 r.toNat - Z 30 m.toNat < 0 then -(Z 21 r.toNat - Z 30 m.toNat) else Z 21 r.toNat - Z 30 m.toNat
def znxA (Z : ZT) (m : Int) : Nat → Int
  | 0 => -1
  | i + 1 => if (Z 20 (i : Int).toNat = Z 29 m.toNat ∧ 0 < zoff Z (i : Int) m) ∧ (znxA Z m i = -1 ∨ zoff Z (znxA Z m i) m < zoff Z (i : Int) m) then (i : Int) else znxA Z m i
def znx (Z : ZT) (m : Int) : Int := znxA Z m (Z 19 0).toNat
theorem znxA_rng {m : Int} : ∀ i : Nat, znxA Z m i = -1 ∨ (0 ≤ znxA Z m i ∧ znxA Z m i < i ∧ Z 20 (znxA Z m i).toNat = Z 29 m.toNat ∧ 0 < zoff Z (znxA Z m i) m)
  | 0 => Or.inl rfl
  | i + 1 => by
    have := znxA_rng (m := m) i
    unfold znxA; split
    · next e => exact Or.inr ⟨by omega, by omega, e.1.1, e.1.2⟩
    · rcases this with q | ⟨q1, q2, q3⟩
      · exact Or.inl q
      · exact Or.inr ⟨q1, by omega, q3⟩
end M19
