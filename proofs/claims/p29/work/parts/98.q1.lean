/-! ===== the model stays sound: ranges; one version more ===== -/
section Q1
variable {Z Y : ZT} {h g : AH} {A : Nat → Nat} {c : Nat}
/-- what may stand in the model's field j -/
def PR (j : Nat) (v : Int) : Prop := (j = 3 → 0 ≤ v ∧ v ≤ 2) ∧ (j = 5 → -1 ≤ v ∧ v ≤ 25) ∧ (mkd j = 21 → v = 0 ∨ v = 1) ∧ ((j = 8 ∨ j = 9) → -1 ≤ v ∧ v < 48) ∧ (j = 12 → 0 ≤ v ∧ v < 48)
def RA (Z : ZT) : Prop := ∀ j i, PR j (Z j i)
theorem RA.w {j i : Nat} {v : Int} (R : RA Z) (hv : PR j v) : RA (zs Z j i v) := fun j' i' => by
  unfold zs
  by_cases e : j' = j ∧ i' = i
  · rw [if_pos e, e.1]; exact hv
  · rw [if_neg e]; exact R j' i'
theorem RA.cp {s a : Int} {n : Nat} (R : RA Z) : RA (zcp Z s a n) := fun j i => by
  unfold zcp
  split
  · exact R j _
  · exact R j i
theorem PR.m1 {j : Nat} (h : (j == 5 || j == 8 || j == 9) = true) : PR j (-1) := by
  simp only [Bool.or_eq_true, beq_iff_eq] at h
  rcases h with (h | h) | h <;> subst h <;> exact ⟨fun z => absurd z (by decide), fun _ => by omega, fun z => absurd z (by decide), fun _ => by omega, fun z => absurd z (by decide)⟩
theorem PR.fr {j : Nat} {v : Int} (h : (j == 0 || j == 1 || j == 2 || j == 4 || j == 7 || j == 10 || j == 11 || j == 48) = true) : PR j v := by
  simp only [Bool.or_eq_true, beq_iff_eq] at h
  rcases h with ((((((h | h) | h) | h) | h) | h) | h) | h <;> subst h <;> exact ⟨fun z => absurd z (by decide), fun z => absurd z (by decide), fun z => absurd z (by decide), fun z => absurd z (by decide), fun z => absurd z (by decide)⟩
theorem RA.beg {s a f w : Int} (R : RA Z) : RA (zbeg Z s a f w) := by
  unfold zbeg
  exact ((((((R.cp).w (PR.fr rfl)).w (PR.fr rfl)).w (PR.m1 rfl)).w (PR.m1 rfl)).w (PR.m1 rfl)).w (PR.m1 rfl)
theorem RA.of (I : ZI Z) : RA Z := fun j i => by
  obtain ⟨⟨⟨-, b3, b4, -, b7, -⟩, -, -, -, -, b6, bk, -⟩, -⟩ := I
  refine ⟨fun e => by subst e; exact bk i, fun e => by subst e; exact b6 i, fun e => b3 j e i, fun e => ?_, fun e => by subst e; exact b7 i⟩
  rcases e with e | e <;> subst e
  · exact (b4 i).1
  · exact (b4 i).2
theorem ZI.ver2 (I : ZI Z) (S : SIMq A 9 g Y c) (ra : RA Y) (h22 : ∀ s : Nat, s < 4 → Y 2 s ≤ 2 * Y 1 s) (q : NQ Y) (o : ∀ j, vrj j = false → Y j = Z j) (h1 : ∀ s : Nat, s < 4 → Z 1 s ≤ Y 1 s)
    (on : ∀ s : Nat, s < 4 → Z 0 0 ≤ (s : Int) → Y 1 s = Z 1 s ∧ Y 2 s = Z 2 s ∧ Y 11 s = Z 11 s ∧ ∀ v f : Nat, v < 24 → f < 48 → Y 5 (48 * (24 * s + v) + f) = Z 5 (48 * (24 * s + v) + f)) : ZI Y := by
  have I2 := I
  obtain ⟨⟨⟨⟨c1, c2⟩, c3, c4, ⟨c5, c6⟩, c7, c8⟩, -⟩, n, -⟩ := I2
  have zz := S.zz
  have e0 := o 0 rfl
  refine I.ver S ⟨⟨zz, fun s hs => ?_⟩, fun j hj i => (ra j i).2.2.1 hj, fun i => ⟨(ra 8 i).2.2.2.1 (Or.inl rfl), (ra 9 i).2.2.2.1 (Or.inr rfl)⟩, ⟨by rw [o 13 rfl]; exact c5, fun k hk => ?_⟩, fun i => (ra 12 i).2.2.2.2 rfl, h22⟩ (fun i => (ra 5 i).2.1 rfl) (fun i => (ra 3 i).1 rfl) q o h1 on
  · by_cases hy : (s : Int) < Y 0 0
    · obtain ⟨S1, K, SQ1⟩ := S.sc hy
      have SQ1 := SQ1 (by omega)
      have b1 := K.b1
      have b2 := K.b2
      have b11 := SQ1.2.1
      omega
    · rw [e0] at hy
      obtain ⟨q1, q2, q11, -⟩ := on s hs (by omega)
      rw [q1, q2, q11]; exact c2 s hs
  · rw [o 14 rfl, o 15 rfl]
    have := c6 k hk
    have := h1 (Z 14 k).toNat (by omega)
    omega
end Q1
