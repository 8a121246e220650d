/-! ===== the model: schemas ===== -/
section M2
variable {Q : AH → AO → Prop} {h : AH} {Z : ZT}
/-- bounds of the schemas' numbers -/
def BS (Z : ZT) : Prop := (0 ≤ Z 0 0 ∧ Z 0 0 ≤ 4) ∧ ∀ s : Nat, s < 4 → 0 ≤ Z 1 s ∧ Z 1 s ≤ 23 ∧ 0 ≤ Z 2 s ∧ Z 2 s ≤ 46 ∧ 0 ≤ Z 11 s ∧ Z 11 s ≤ 46
/-- flags are 0 or 1 -/
def BF (Z : ZT) : Prop := ∀ j, mkd j = 21 → ∀ i, Z j i = 0 ∨ Z j i = 1
def zatH (Z : ZT) (s n : Int) : Int := if 0 ≤ s ∧ s < Z 0 0 then zfind Z s (Z 1 s.toNat) n else -1
/-- the copy of the head's fields -/
def zcp (Z : ZT) (s a : Int) (i : Nat) : ZT := fun j q => if (j = 5 ∨ j = 6) ∧ 48 * (24 * s + a) ≤ (q : Int) ∧ (q : Int) < 48 * (24 * s + a) + i then Z j (q - 48) else Z j q
theorem zcp_step {s a : Int} (hs : 0 ≤ s ∧ s < 4) (ha : 0 < a ∧ a < 24) (i : Nat) (hi : i < 48) :
    zs (zs (zcp Z s a i) 5 (48 * (24 * s + a) + (i : Int)).toNat (Z 5 (48 * (24 * s + (a - 1)) + (i : Int)).toNat)) 6 (48 * (24 * s + a) + (i : Int)).toNat (Z 6 (48 * (24 * s + (a - 1)) + (i : Int)).toNat) = zcp Z s a (i + 1) := by
  funext j q
  unfold zs zcp
  by_cases e6 : j = 6 ∧ q = (48 * (24 * s + a) + (i : Int)).toNat
  · obtain ⟨rfl, rfl⟩ := e6
    rw [if_pos ⟨rfl, rfl⟩, if_pos ⟨Or.inr rfl, by omega, by omega⟩]
    congr 1; omega
  · rw [if_neg e6]
    by_cases e5 : j = 5 ∧ q = (48 * (24 * s + a) + (i : Int)).toNat
    · obtain ⟨rfl, rfl⟩ := e5
      rw [if_pos ⟨rfl, rfl⟩, if_pos ⟨Or.inl rfl, by omega, by omega⟩]
      congr 1; omega
    · rw [if_neg e5]
      by_cases e : (j = 5 ∨ j = 6) ∧ 48 * (24 * s + a) ≤ (q : Int) ∧ (q : Int) < 48 * (24 * s + a) + (i : Nat)
      · rw [if_pos e, if_pos ⟨e.1, by omega, by omega⟩]
      · rw [if_neg e, if_neg]
        rintro ⟨e1, e2, e3⟩
        refine e ⟨e1, e2, ?_⟩
        rcases e1 with rfl | rfl
        · have := fun z => e5 ⟨rfl, z⟩
          omega
        · have := fun z => e6 ⟨rfl, z⟩
          omega
theorem zcp_0 {s a : Int} : zcp Z s a 0 = Z := by
  funext j q
  unfold zcp
  rw [if_neg]
  rintro ⟨-, e1, e2⟩
  omega
theorem zcp_o {s a : Int} {i j q : Nat} {x : Int} (hj : (j != 5 && j != 6) = true) (k : Z j q = x) : zcp Z s a i j q = x := by
  unfold zcp
  rw [if_neg, k]
  rintro ⟨e | e, -⟩ <;> subst e <;> simp at hj
theorem zcp_l {s a : Int} {i j q : Nat} {x : Int} (hq : (q : Int) < 48 * (24 * s + a)) (k : Z j q = x) : zcp Z s a i j q = x := by
  unfold zcp
  rw [if_neg, k]
  rintro ⟨-, e, -⟩
  omega
/-- a new version a, of a head with f fields -/
def zbeg (Z : ZT) (s a f w : Int) : ZT :=
  zs (zs (zs (zs (zs (zs (zcp Z s a f.toNat) 1 s.toNat a) 7 (24 * s + a).toNat w) 8 (2 * (24 * s + a)).toNat (-1)) 8 (2 * (24 * s + a) + 1).toNat (-1)) 9 (2 * (24 * s + a)).toNat (-1)) 9 (2 * (24 * s + a) + 1).toNat (-1)
/-- a new field f of the head a -/
def zmak (Z : ZT) (s a f n hw v nd : Int) : ZT :=
  zs (zs (zs (zs (zs Z 3 (48 * s + f).toNat hw) 4 (48 * s + f).toNat v) 5 (48 * (24 * s + a) + f).toNat n) 6 (48 * (24 * s + a) + f).toNat nd) 2 s.toNat (f + 1)
/-- whether a drop waits -/
def zwA (Z : ZT) (s f : Int) : Nat → Int
  | 0 => 0
  | k + 1 => if zwA Z s f k = 0 then bz (Z 12 (48 * s + (k : Int)).toNat = f) else 1
def zwt (Z : ZT) (s f : Int) : Int := zwA Z s f (Z 11 s.toNat).toNat
theorem zwA_01 {s f : Int} : ∀ k, zwA Z s f k = 0 ∨ zwA Z s f k = 1
  | 0 => Or.inl rfl
  | k + 1 => by unfold zwA; split; exact bz01 _; exact Or.inr rfl
def ztur (v f t : Int) : Int := if v = -1 ∨ f = t then v else if f = 1 then v else if t = 1 then bz (0 < v) else if f = 0 then v.tdiv 10 else wr (10 * v)
def zfre (Z : ZT) (s f : Int) : Int := bz (Z 3 (48 * s + f).toNat = 0 ∧ zwt Z s f = 0 ∧ ¬ Z 1 s.toNat = 23)
def zjoi (a b f : Int) : Int := if a = -1 ∨ b = -1 then -1 else if 9999 < wr (wr (f * a) + b) then 9999 else wr (wr (f * a) + b)
end M2
