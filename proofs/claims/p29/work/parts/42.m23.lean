/-! ===== the model: text, and its start ===== -/
section M23
variable {Q : AH → AO → Prop} {h : AH} {Z : ZT}
theorem zsgn_rng (N : BN Z) {s a i : Int} : 0 ≤ zsgn Z s a i ∧ zsgn Z s a i ≤ 122 := by
  have n1 : ∀ q, 96 ≤ 97 + Z 5 q ∧ 97 + Z 5 q ≤ 122 := fun q => by have := N q; omega
  have l1 : ∀ w i, 0 ≤ zlet w i ∧ zlet w i ≤ 122 := by
    intro w i
    have a0 : 0 ≤ zl0 i ∧ zl0 i ≤ 122 := by unfold zl0; (repeat' split) <;> omega
    have a1 : 0 ≤ zl1 i ∧ zl1 i ≤ 122 := by unfold zl1; (repeat' split) <;> omega
    have a2 : 0 ≤ zl2 i ∧ zl2 i ≤ 122 := by unfold zl2; (repeat' split) <;> omega
    have a3 : 0 ≤ zl3 i ∧ zl3 i ≤ 122 := by unfold zl3; (repeat' split) <;> omega
    have a4 : 0 ≤ zl4 i ∧ zl4 i ≤ 122 := by unfold zl4; (repeat' split) <;> omega
    have a5 : 0 ≤ zl5 i ∧ zl5 i ≤ 122 := by unfold zl5; (repeat' split) <;> omega
    have a6 : 0 ≤ zl6 i ∧ zl6 i ≤ 122 := by unfold zl6; (repeat' split) <;> omega
    unfold zlet; (repeat' split) <;> assumption
  unfold zsgn zsg1 zsg2
  have l2 := l1 (Z 7 (24 * s + a).toNat) i
  (repeat' split) <;> first | omega | (have := n1 (48 * (24 * s + a) + zbe Z (24 * s + a) ((i - zlen (Z 7 (24 * s + a).toNat) - (2 * zfn Z (24 * s + a) + 1)).tdiv 2)).toNat; omega) | (have := n1 (48 * (24 * s + (a - 1)) + zfr Z (24 * s + a) ((i - zlen (Z 7 (24 * s + a).toNat)).tdiv 2)).toNat; omega)
def zcTxt (Z : ZT) (s a i : Int) : Int := bz (¬ (((0 ≤ s ∧ s < Z 0 0) ∧ 0 ≤ a ∧ a ≤ Z 1 s.toNat) ∧ 0 < a ∧ ¬ zsgn Z s a i = 0))
/-- the heap while the model is made: the arrays of the fields under k are there -/
def iH (h : AH) (k : Nat) : AH := ((fun n => if n.1 = 2 ∧ n.2.2 = 0 ∧ n.2.1 < k ∧ isSc n.2.1 = false then some (mkd n.2.1, mlen n.2.1) else h.1 n), (fun n i => if n.1 = 2 ∧ n.2.2 = 0 ∧ n.2.1 < k ∧ isSc n.2.1 = false then 0 else h.2.1 n i), (fun n i => if n.1 = 2 ∧ n.2.2 = 0 ∧ n.2.1 < k ∧ isSc n.2.1 = false then 0 else h.2.2.1 n i),
  (fun n i => if n.1 = 2 ∧ n.2.2 = 0 ∧ n.2.1 < k ∧ isSc n.2.1 = false then none else if n = (1, 0, 0) ∧ i < k ∧ isSc i = false then some (2, i, 0) else h.2.2.2 n i))
theorem hT_iH {k : Nat} (n : Nm) : hT (iH h k) n = if n.1 = 2 ∧ n.2.2 = 0 ∧ n.2.1 < k ∧ isSc n.2.1 = false then some (mkd n.2.1, mlen n.2.1) else hT h n := rfl
theorem hI_iH {k : Nat} (n : Nm) (i : Nat) : hI (iH h k) n i = if n.1 = 2 ∧ n.2.2 = 0 ∧ n.2.1 < k ∧ isSc n.2.1 = false then 0 else hI h n i := rfl
theorem hR_iH {k : Nat} (n : Nm) (i : Nat) : hR (iH h k) n i = if n.1 = 2 ∧ n.2.2 = 0 ∧ n.2.1 < k ∧ isSc n.2.1 = false then none else if n = (1, 0, 0) ∧ i < k ∧ isSc i = false then some (2, i, 0) else hR h n i := rfl
theorem iH_0 : iH h 0 = h := by
  unfold iH
  refine Prod.ext (funext fun n => ?_) (Prod.ext (funext fun n => funext fun i => ?_) (Prod.ext (funext fun n => funext fun i => ?_) (funext fun n => funext fun i => ?_))) <;> simp
theorem iH_sc {j : Nat} (hj : isSc j = true) : iH h j = iH h (j + 1) := by
  have e : ∀ x : Nat, (x < j + 1 ∧ isSc x = false) ↔ (x < j ∧ isSc x = false) := by
    intro x
    constructor
    · rintro ⟨a, b⟩
      refine ⟨?_, b⟩
      rcases Nat.lt_succ_iff_lt_or_eq.mp a with q | q
      · exact q
      · subst q; rw [hj] at b; exact absurd b (by decide)
    · rintro ⟨a, b⟩; exact ⟨by omega, b⟩
  unfold iH
  simp only [e]
theorem iH_n {k : Nat} {n : Nm} (hN : ∀ j, hT h (2, j, 0) = none) (hj : (n.1 = 2 ∧ n.2.2 = 0 ∧ k ≤ n.2.1)) : hT (iH h k) n = none := by
  rw [hT_iH, if_neg (by omega)]
  rw [show n = (2, n.2.1, 0) from Prod.ext hj.1 (Prod.ext rfl hj.2.1)]
  exact hN _
theorem iH_o {k a b c : Nat} (hT0 : hT h (1, 0, 0) = some (9, 0)) : hT (aN (iH h k) (2, a, 0) b c) (1, 0, 0) = some (9, 0) := by
  rw [hT_aN, if_neg (fun z => by simp at z), hT_iH, if_neg (fun z => absurd z.1 (by decide))]
  exact hT0
theorem iH_step {j t N : Nat} (hj : isSc j = false) (hk : t = mkd j) (hl : N = mlen j) : sR (aN (iH h j) (2, j, 0) t N) (1, 0, 0) j (some (2, j, 0)) = iH h (j + 1) := by
  subst hk; subst hl
  have e0 : ∀ n : Nm, n = (2, j, 0) ↔ (n.1 = 2 ∧ n.2.2 = 0 ∧ n.2.1 = j) := by
    intro n
    constructor
    · rintro rfl; exact ⟨rfl, rfl, rfl⟩
    · rintro ⟨a, b, c⟩; exact Prod.ext a (Prod.ext c b)
  have e1 : ∀ n : Nm, (n.1 = 2 ∧ n.2.2 = 0 ∧ n.2.1 < j + 1 ∧ isSc n.2.1 = false) ↔ (n = (2, j, 0) ∨ (n.1 = 2 ∧ n.2.2 = 0 ∧ n.2.1 < j ∧ isSc n.2.1 = false)) := by
    intro n
    rw [e0]
    constructor
    · rintro ⟨a, b, c, d⟩
      rcases Nat.lt_succ_iff_lt_or_eq.mp c with q | q
      · exact Or.inr ⟨a, b, q, d⟩
      · exact Or.inl ⟨a, b, q⟩
    · rintro (⟨a, b, c⟩ | ⟨a, b, c, d⟩)
      · exact ⟨a, b, by omega, by rw [c]; exact hj⟩
      · exact ⟨a, b, by omega, d⟩
  have e2 : ∀ x : Nat, (x < j + 1 ∧ isSc x = false) ↔ (x = j ∨ (x < j ∧ isSc x = false)) := by
    intro x
    constructor
    · rintro ⟨a, b⟩
      rcases Nat.lt_succ_iff_lt_or_eq.mp a with q | q
      · exact Or.inr ⟨q, b⟩
      · exact Or.inl q
    · rintro (rfl | ⟨a, b⟩)
      · exact ⟨by omega, hj⟩
      · exact ⟨by omega, b⟩
  unfold iH sR aN
  simp only [e1]
  simp only [e2]
  refine Prod.ext (funext fun n => ?_) (Prod.ext (funext fun n => funext fun i => ?_) (Prod.ext (funext fun n => funext fun i => ?_) (funext fun n => funext fun i => ?_)))
  · dsimp only
    by_cases q : n = (2, j, 0)
    · subst q; simp
    · simp [q]
  · dsimp only
    by_cases q : n = (2, j, 0)
    · simp [q]
    · simp [q]
  · dsimp only
    by_cases q : n = (2, j, 0)
    · simp [q]
    · simp [q]
  · dsimp only
    by_cases q : n = (2, j, 0)
    · subst q; simp
    · by_cases q2 : n = (1, 0, 0)
      · subst q2
        by_cases q3 : i = j
        · simp [q3]
        · simp [q3]
      · simp [q, q2]
theorem iH_W (hT0 : hT h (1, 0, 0) = some (9, 0)) : WfM (iH h 49) := by
  refine ⟨?_, fun j hj hs => ⟨?_, ?_⟩⟩
  · rw [hT_iH, if_neg (fun z => absurd z.1 (by decide))]
    exact hT0
  · rw [hR_iH, if_neg (fun z => absurd z.1 (by decide)), if_pos ⟨rfl, hj, hs⟩]
  · rw [hT_iH, if_pos ⟨rfl, rfl, hj, hs⟩]
theorem iH_get (hI0 : ∀ i, hI h (1, 0, 0) i = 0) {j i : Nat} (hj : j < 49) : mget (iH h 49) j i = 0 ∨ isSc j = true := by
  by_cases q : isSc j = true
  · exact Or.inr q
  · refine Or.inl ?_
    unfold mget
    rw [if_neg (fun z => q z.1)]
    rw [hI_iH, if_pos ⟨rfl, rfl, hj, by simpa using q⟩]
theorem iH_get0 (hI0 : ∀ i, hI h (1, 0, 0) i = 0) {j : Nat} (hj : isSc j = true) : mget (iH h 49) j 0 = 0 := by
  unfold mget
  rw [if_pos ⟨hj, rfl⟩]
  rw [hI_iH, if_neg (fun z => absurd z.1 (by decide))]
  exact hI0 j
/-- the model's numbers at its start -/
def zini (Z : ZT) (n : Nat) : ZT := fun j i => if j = 5 ∧ i < n then -1 else Z j i
theorem zini_0 : zini Z 0 = Z := by funext j i; unfold zini; rw [if_neg (by omega)]
theorem zini_step {n q : Nat} (hq : q = n) : zs (zini Z n) 5 q (-1) = zini Z (n + 1) := by
  subst hq
  funext a b
  unfold zs zini
  by_cases e : a = 5 ∧ b = q
  · rw [if_pos e, if_pos (by omega)]
  · rw [if_neg e]
    by_cases e2 : a = 5 ∧ b < q
    · rw [if_pos e2, if_pos (by omega)]
    · rw [if_neg e2, if_neg (by omega)]
end M23
