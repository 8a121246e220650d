/-! ===== the model: copies, counts, read ===== -/
section M16
variable {Q : AH → AO → Prop} {h : AH} {Z : ZT}
/-- the first n of a block laid over another -/
def zbl (Z : ZT) (j d s n : Nat) : ZT := fun j' i => if j' = j ∧ d ≤ i ∧ i < d + n then Z j (i - d + s) else Z j' i
theorem zbl_0 {j d s : Nat} : zbl Z j d s 0 = Z := by
  funext a b; unfold zbl; rw [if_neg]; rintro ⟨-, e1, e2⟩; omega
theorem zbl_ne {j d s n j' i' : Nat} {x : Int} (hj : Nat.beq j' j = false) (k : Z j' i' = x) : zbl Z j d s n j' i' = x := by
  unfold zbl
  rw [if_neg, k]
  rintro ⟨rfl, -⟩
  simp at hj
theorem zbl_out {j d s n i' : Nat} {x : Int} (hi : i' < d ∨ d + n ≤ i') (k : Z j i' = x) : zbl Z j d s n j i' = x := by
  unfold zbl
  rw [if_neg, k]
  rintro ⟨-, e1, e2⟩
  omega
theorem zbl_o {j d s n j' : Nat} (hj : Nat.beq j' j = false) : zbl Z j d s n j' = Z j' := by funext q; exact zbl_ne hj rfl
theorem zbl_step {j d s n i : Nat} {v : Int} (hi : i = d + n) (hv : v = Z j (n + s)) : zs (zbl Z j d s n) j i v = zbl Z j d s (n + 1) := by
  subst hi; subst hv
  funext a b
  unfold zs zbl
  by_cases e : a = j ∧ b = d + n
  · rw [if_pos e, if_pos ⟨e.1, by omega, by omega⟩, e.2]
    congr 1; omega
  · rw [if_neg e]
    by_cases e2 : a = j ∧ d ≤ b ∧ b < d + n
    · rw [if_pos e2, if_pos ⟨e2.1, by omega, by omega⟩]
    · rw [if_neg e2, if_neg]
      rintro ⟨z1, z2, z3⟩
      refine e2 ⟨z1, z2, ?_⟩
      have := fun z => e ⟨z1, z⟩
      omega
theorem zs_zbl {j d s n j' i : Nat} {v : Int} (hj : Nat.beq j' j = false) : zs (zbl Z j d s n) j' i v = zbl (zs Z j' i v) j d s n := by
  have hj' : ¬ j' = j := fun e => by subst e; simp at hj
  funext a b
  unfold zs zbl
  dsimp only
  by_cases e : a = j' ∧ b = i
  · rw [if_pos e, if_neg (fun z => hj' (e.1.symm.trans z.1)), if_pos e]
  · rw [if_neg e]
    by_cases e2 : a = j ∧ d ≤ b ∧ b < d + n
    · rw [if_pos e2, if_pos e2, if_neg (fun z => hj' z.1.symm)]
    · rw [if_neg e2, if_neg e2, if_neg e]
theorem cpy_step {d2 s2 d5 s5 i q q1 q2 : Nat} {v v1 v2 : Int} (hq : q = d2 + i) (hv : v = Z 24 (i + s2)) (hq1 : q1 = d5 + 2 * i) (hv1 : v1 = Z 25 (2 * i + s5)) (hq2 : q2 = d5 + (2 * i + 1)) (hv2 : v2 = Z 25 (2 * i + 1 + s5)) :
    zs (zs (zs (zbl (zbl Z 24 d2 s2 i) 25 d5 s5 (2 * i)) 24 q v) 25 q1 v1) 25 q2 v2 = zbl (zbl Z 24 d2 s2 (i + 1)) 25 d5 s5 (2 * (i + 1)) := by
  rw [zs_zbl rfl, zbl_step hq hv, zbl_step hq1 (hv1.trans (zbl_ne rfl rfl).symm), zbl_step hq2 (hv2.trans (zbl_ne rfl rfl).symm)]
  rfl
theorem zbl_z3 {t l w : Nat → Int} {j d s n : Nat} (hj : Nat.beq j 43 = false) (hj' : Nat.beq j 44 = false) (hj2 : Nat.beq j 45 = false) : zbl (z3 Z t l w) j d s n = z3 (zbl Z j d s n) t l w := by
  have e : ∀ k, Nat.beq j k = false → ¬ j = k := fun k q e => by subst e; simp at q
  funext a b
  unfold zbl z3 zrow
  have e1 := e 43 hj
  have e2 := e 44 hj'
  have e3 := e 45 hj2
  by_cases q1 : a = 43
  · subst q1; simp [Ne.symm e1]
  · by_cases q2 : a = 44
    · subst q2; simp [Ne.symm e2]
    · by_cases q3 : a = 45
      · subst q3; simp [Ne.symm e3]
      · simp [q1, q2, q3, e1, e2, e3]
def zcp0 (Z : ZT) (a b : Nat) : ZT := zs (zs (zs Z 20 b (Z 20 a)) 21 b (Z 21 a)) 23 b (Z 23 a)
def zcpy (Z : ZT) (a b : Nat) : ZT := zbl (zbl (zbl (zcp0 Z a b) 22 (48 * b) (48 * a) 48) 24 (24 * b) (24 * a) 24) 25 (48 * b) (48 * a) 48
end M16
