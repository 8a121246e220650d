/-! ===== the class: a schema made ===== -/
section L2
variable {Q : AH → AO → Prop} {h g : AH} {s : Nat}
theorem AW.gen {M : MI} {fr lo mc ms bc bs pc : Nat} {loc : AL} {st : List AV} {P : AH → Prop} (hp : P h) (k : ∀ g, P g → AW M fr lo mc ms Q bc bs pc g loc st) : AW M fr lo mc ms Q bc bs pc h loc st := k h hp
theorem mN_F {n : Nm} {r : Nat → Nm} {t N K : Nat} {P : Nm → Prop} (h1 : ¬ P n) (h2 : ∀ j, ¬ P (r j)) : ∀ i, Fr P h (mN h n r t N K i)
  | 0 => Fr.rf.nw h1
  | i + 1 => ((mN_F h1 h2 i).nw (h2 i)).wR h1
theorem mN_z {n : Nm} {r : Nat → Nm} {t N K : Nat} (hrn : ∀ j, ¬ r j = n) (inj : ∀ i j, r i = r j → i = j) : ∀ i, (∀ x, hI (mN h n r t N K i) n x = 0 ∧ hL (mN h n r t N K i) n x = 0) ∧ ∀ j, j < i → hT (mN h n r t N K i) (r j) = some (20, K) ∧ hR (mN h n r t N K i) n j = some (r j) ∧ ∀ x, hI (mN h n r t N K i) (r j) x = 0
  | 0 => by
    refine ⟨fun x => ⟨?_, ?_⟩, fun j hj => absurd hj (by omega)⟩
    · show hI (aN h n (20 + t) N) n x = 0; rw [hI_aN, if_pos rfl]
    · show hL (aN h n (20 + t) N) n x = 0; rw [hL_aN, if_pos rfl]
  | i + 1 => by
    obtain ⟨k1, k2⟩ := mN_z hrn inj i
    have e : mN h n r t N K (i + 1) = sR (aN (mN h n r t N K i) (r i) 20 K) n i (some (r i)) := rfl
    rw [e]
    refine ⟨fun x => ⟨?_, ?_⟩, fun j hj => ?_⟩
    · rw [hI_sR, hI_aN, if_neg (fun z => hrn i z.symm)]; exact (k1 x).1
    · rw [hL_sR, hL_aN, if_neg (fun z => hrn i z.symm)]; exact (k1 x).2
    · by_cases y : j = i
      · subst y
        rw [hT_sR, hT_aN, if_pos rfl, hR_sR, if_pos ⟨rfl, rfl⟩, hI_sR]
        exact ⟨rfl, rfl, fun x => by rw [hI_aN, if_pos rfl]⟩
      · obtain ⟨q1, q2, q3⟩ := k2 j (by omega)
        have hne : ¬ r j = r i := fun z => y (inj j i z)
        rw [hT_sR, hT_aN, if_neg hne, hR_sR, if_neg (fun z => y z.2), hR_aN, if_neg (fun z => hrn i z.symm), hI_sR]
        exact ⟨q1, q2, fun x => by rw [hI_aN, if_neg hne]; exact q3 x⟩
/-- kind and length of a schema's array j -/
def akl (j : Nat) : Nat × Nat := if j = 3 then (29, 24) else if j = 4 then (22, 24) else if j = 5 then (28, 24) else if 7 ≤ j then (20, 2) else (20, 46)
/-- a schema with its arrays below k -/
def IS (s : Nat) (h g : AH) (k : Nat) : Prop := Fr (fun n => ¬ (n.1 = 4 ∧ n.2.1 = s)) h g ∧ hT g (4, s, 0) = some (5, 0) ∧ (∀ j, 1 ≤ j → j < k → hT g (4, s, j) = some (akl j) ∧ hR g (4, s, 0) (j + 2) = some (4, s, j)) ∧ (∀ j, 1 ≤ j → k ≤ j → j < 100 → hT g (4, s, j) = none)
  ∧ (3 < k → ∀ v, v < 24 → hR g (4, s, 3) v = some (4, s, 100 + v) ∧ hT g (4, s, 100 + v) = some (20, 26) ∧ ∀ i, hI g (4, s, 100 + v) i = 0) ∧ (k ≤ 3 → ∀ v, v < 24 → hT g (4, s, 100 + v) = none) ∧ (∀ j, j < k → ∀ i, hI g (4, s, j) i = 0 ∧ hL g (4, s, j) i = 0) ∧ (5 < k → ∀ i, hR g (4, s, 5) i = none)
theorem IS.nw {k K L : Nat} (I : IS s h g k) (h3 : ¬ k = 3) (h1 : 1 ≤ k) (hk : k < 11) (e : (K, L) = akl k) : IS s h (sR (aN g (4, s, k) K L) (4, s, 0) (k + 2) (some (4, s, k))) (k + 1) := by
  obtain ⟨i1, i2, i3, i4, i5, i6, i7, i8⟩ := I
  have ne : ∀ j : Nat, ¬ j = k → ¬ ((4, s, j) : Nm) = (4, s, k) := fun j hj z => hj (congrArg (fun n : Nm => n.2.2) z)
  have ne0 : ∀ j : Nat, ¬ j = 0 → ¬ ((4, s, j) : Nm) = (4, s, 0) := fun j hj z => hj (congrArg (fun n : Nm => n.2.2) z)
  refine ⟨(i1.nw (fun z => z ⟨rfl, rfl⟩)).wR (fun z => z ⟨rfl, rfl⟩), ?_, fun j h1 h2 => ?_, fun j h0 h1 h2 => ?_, fun h3k v hv => ?_, fun h3k v hv => ?_, fun j hj i => ?_, fun h5 i => ?_⟩
  · rw [hT_sR, hT_aN, if_neg (ne 0 (by omega))]; exact i2
  · by_cases y : j = k
    · subst y
      rw [hT_sR, hT_aN, if_pos rfl, hR_sR, if_pos ⟨rfl, rfl⟩, e]; exact ⟨rfl, rfl⟩
    · rw [hT_sR, hT_aN, if_neg (ne j y), hR_sR, if_neg (fun z => by omega), hR_aN, if_neg (ne 0 (by omega))]
      exact i3 j h1 (by omega)
  · rw [hT_sR, hT_aN, if_neg (ne j (by omega))]; exact i4 j h0 (by omega) h2
  · rw [hT_sR, hT_aN, if_neg (ne _ (by omega)), hR_sR, if_neg (fun z => ne0 3 (by decide) z.1), hR_aN, if_neg (ne 3 (by omega)), hI_sR]
    obtain ⟨q1, q2, q3⟩ := i5 (by omega) v hv
    exact ⟨q1, q2, fun i => by rw [hI_aN, if_neg (ne _ (by omega))]; exact q3 i⟩
  · rw [hT_sR, hT_aN, if_neg (ne _ (by omega))]; exact i6 (by omega) v hv
  · rw [hI_sR, hL_sR]
    by_cases y : j = k
    · rw [y, hI_aN, hL_aN, if_pos rfl, if_pos rfl]; exact ⟨rfl, rfl⟩
    · rw [hI_aN, hL_aN, if_neg (ne j y), if_neg (ne j y)]; exact i7 j (by omega) i
  · rw [hR_sR, if_neg (fun z => ne0 5 (by decide) z.1), hR_aN]
    by_cases y : 5 = k
    · subst y; rw [if_pos rfl]
    · rw [if_neg (ne 5 y)]; exact i8 (by omega) i
theorem IS.mn (I : IS s h g 3) : IS s h (sR (mN g (4, s, 3) (fun v => (4, s, 100 + v)) 9 24 26 24) (4, s, 0) 5 (some (4, s, 3))) 4 := by
  obtain ⟨i1, i2, i3, i4, i5, i6, i7, i8⟩ := I
  have hrn : ∀ j : Nat, ¬ ((4, s, 100 + j) : Nm) = (4, s, 3) := fun j z => by have := congrArg (fun n : Nm => n.2.2) z; dsimp only at this; omega
  have inj : ∀ i j : Nat, ((4, s, 100 + i) : Nm) = (4, s, 100 + j) → i = j := fun i j z => by have := congrArg (fun n : Nm => n.2.2) z; dsimp only at this; omega
  have ne0 : ∀ j : Nat, ¬ j = 0 → ¬ ((4, s, j) : Nm) = (4, s, 0) := fun j hj z => hj (congrArg (fun n : Nm => n.2.2) z)
  obtain ⟨z1, z2⟩ := mN_z (h := g) (n := (4, s, 3)) (r := fun v => (4, s, 100 + v)) (t := 9) (N := 24) (K := 26) hrn inj 24
  have hTn := mN_n (h := g) (n := (4, s, 3)) (r := fun v => (4, s, 100 + v)) (t := 9) (N := 24) (K := 26) hrn 24
  have F : Fr (fun n => ¬ n = (4, s, 3) ∧ ¬ 100 ≤ n.2.2) g (mN g (4, s, 3) (fun v => (4, s, 100 + v)) 9 24 26 24) := mN_F (fun z => z.1 rfl) (fun j z => z.2 (Nat.le_add_right _ _)) 24
  have F2 : Fr (fun n => ¬ (n.1 = 4 ∧ n.2.1 = s)) g (mN g (4, s, 3) (fun v => (4, s, 100 + v)) 9 24 26 24) := mN_F (fun z => z ⟨rfl, rfl⟩) (fun j z => z ⟨rfl, rfl⟩) 24
  have ok : ∀ j : Nat, ¬ j = 3 → j < 100 → (¬ ((4, s, j) : Nm) = (4, s, 3) ∧ ¬ 100 ≤ ((4, s, j) : Nm).2.2) := fun j h3 h1 => ⟨fun z => h3 (congrArg (fun n : Nm => n.2.2) z), fun z => by dsimp only at z; omega⟩
  generalize mN g (4, s, 3) (fun v => (4, s, 100 + v)) 9 24 26 24 = G at *
  refine ⟨(i1.tr F2).wR (fun z => z ⟨rfl, rfl⟩), ?_, fun j h1 h2 => ?_, fun j h0 h1 h2 => ?_, fun h3k v hv => ?_, fun h3k v hv => absurd h3k (by omega), fun j hj i => ?_, fun h5 => absurd h5 (by omega)⟩
  · rw [hT_sR, F.T (ok 0 (by decide) (by decide))]; exact i2
  · by_cases y : j = 3
    · subst y
      rw [hT_sR, hR_sR, if_pos ⟨rfl, rfl⟩]; exact ⟨hTn, rfl⟩
    · rw [hT_sR, F.T (ok j y (by omega)), hR_sR, if_neg (fun z => by omega), F.R (ok 0 (by decide) (by decide))]
      exact i3 j h1 (by omega)
  · rw [hT_sR, F.T (ok j (by omega) h2)]; exact i4 j h0 (by omega) h2
  · rw [hT_sR, hR_sR, if_neg (fun z => ne0 3 (by decide) z.1), hI_sR]
    obtain ⟨q1, q2, q3⟩ := z2 v hv
    exact ⟨q2, q1, q3⟩
  · rw [hI_sR, hL_sR]
    by_cases y : j = 3
    · subst y; exact z1 i
    · rw [F.I (ok j y (by omega)), F.L (ok j y (by omega))]; exact i7 j (by omega) i
theorem IS.W (I : IS s h g 11) : SchW g s := by
  obtain ⟨-, i2, i3, -, i5, -, -⟩ := I
  have a := fun j h1 h2 => i3 j h1 h2
  refine ⟨i2, ⟨(a 1 (by decide) (by decide)).2, (a 1 (by decide) (by decide)).1, (a 2 (by decide) (by decide)).2, (a 2 (by decide) (by decide)).1, (a 3 (by decide) (by decide)).2, (a 3 (by decide) (by decide)).1, (a 4 (by decide) (by decide)).2, (a 4 (by decide) (by decide)).1, (a 5 (by decide) (by decide)).2, (a 5 (by decide) (by decide)).1,
    (a 6 (by decide) (by decide)).2, (a 6 (by decide) (by decide)).1, (a 7 (by decide) (by decide)).2, (a 7 (by decide) (by decide)).1, (a 8 (by decide) (by decide)).2, (a 8 (by decide) (by decide)).1, (a 9 (by decide) (by decide)).2, (a 9 (by decide) (by decide)).1, (a 10 (by decide) (by decide)).2, (a 10 (by decide) (by decide)).1⟩, fun v hv => ⟨(i5 (by decide) v hv).1, (i5 (by decide) v hv).2.1⟩⟩
end L2
