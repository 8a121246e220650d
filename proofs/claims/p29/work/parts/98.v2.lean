/-! ===== the law: what holds between two calls ===== -/
section LWI
variable {h g : AH} {Z Y : ZT} {A : Nat → Nat} {c : Nat}
def nIn (n : Nm) : Prop := ¬ nMo n
theorem nIn_x {a b i : Nat} (h1 : 3 ≤ a) (h2 : a ≤ 14) : nIn (a, b, i) := fun z => by rcases z with z | z <;> simp only at z <;> omega
theorem TP.f (F : Fr nIn h g) (T : TP h Z c) : TP g Z c := by
  have eT : ∀ a b i : Nat, 3 ≤ a → a ≤ 14 → hT g (a, b, i) = hT h (a, b, i) := fun a b i h1 h2 => F.T (nIn_x h1 h2)
  have eI : ∀ a b i j : Nat, 3 ≤ a → a ≤ 14 → hI g (a, b, i) j = hI h (a, b, i) j := fun a b i j h1 h2 => F.I (nIn_x h1 h2) j
  have eR : ∀ a b i j : Nat, 3 ≤ a → a ≤ 14 → hR g (a, b, i) j = hR h (a, b, i) j := fun a b i j h1 h2 => F.R (nIn_x h1 h2) j
  unfold TP FmW FmC StaW at *
  simp (decide := true) only [eT, eI, eR]
  exact T
theorem NF.f (F : Fr nIn h g) (N : NF h Z) : NF g Z := by
  have eT : ∀ a b i : Nat, 3 ≤ a → a ≤ 14 → hT g (a, b, i) = hT h (a, b, i) := fun a b i h1 h2 => F.T (nIn_x h1 h2)
  unfold NF at *
  simp (decide := true) only [eT]
  exact N
theorem SIM.mo (F : Fr nIn h g) (S : SIM h Z c) : SIM g Z c := by
  obtain ⟨A, S⟩ := S
  obtain ⟨x1, x2, x3, x4, x5⟩ := S.ext (g := g) (Y := Z) (F.mo (fun n hn z => by unfold nMo at z; unfold nEx at hn; omega)) (fun _ _ => rfl) (fun k _ => ⟨rfl, rfl, rfl, fun f _ => ⟨rfl, rfl⟩⟩) (fun x _ => ⟨rfl, rfl, rfl, rfl, fun _ _ => rfl, fun _ _ => rfl, fun _ _ => rfl⟩) (Int.le_refl _) (Int.le_refl _) (fun m _ => ⟨rfl, rfl, rfl⟩)
  exact ⟨A, S.1.f F, S.2.1.f F, x1, x2, x3, x4, x5⟩
theorem SIM.up {c' : Nat} (S : SIM h Z c) (hc : c ≤ c') : SIM h Z c' := by
  obtain ⟨A, S⟩ := S
  exact ⟨A, S.up hc⟩
theorem SIM.f (S : SIM h Z c) : hT h mF = some (8, 0) := by
  obtain ⟨A, S⟩ := S
  exact S.1.1.o
theorem BI.o2 (e : ∀ j, j < 43 → Y j = Z j) (f6 : flg (Y 46)) (f7 : flg (Y 47)) (B : BI Z) : BI Y := by
  obtain ⟨⟨b1, b2⟩, b3, b4, ⟨b5, b6⟩, b7, b8⟩ := B
  refine ⟨⟨by rw [e 0 (by decide)]; exact b1, fun s hs => by rw [e 1 (by decide), e 2 (by decide), e 11 (by decide)]; exact b2 s hs⟩, fun j hj i => ?_, fun i => by rw [e 8 (by decide), e 9 (by decide)]; exact b4 i, ⟨by rw [e 13 (by decide)]; exact b5, fun g hg => by rw [e 14 (by decide), e 15 (by decide), e 1 (by decide)]; exact b6 g hg⟩, fun i => by rw [e 12 (by decide)]; exact b7 i, fun s hs => by rw [e 1 (by decide), e 2 (by decide)]; exact b8 s hs⟩
  by_cases z6 : j = 46
  · rw [z6]; exact f6 i
  by_cases z7 : j = 47
  · rw [z7]; exact f7 i
  have hb := mkd_bij hj
  unfold bij at hb
  simp only [Bool.or_eq_true, beq_iff_eq] at hb
  rw [e j (by omega)]
  exact b3 j hj i
theorem ZI.o2 (e : ∀ j, j < 43 → Y j = Z j) (f6 : flg (Y 46)) (f7 : flg (Y 47)) (I : ZI Z) : ZI Y := by
  obtain ⟨⟨b1, b2, b3, b4, b5, b6, b7, b8⟩, n, q⟩ := I
  refine ⟨⟨b1.o2 e f6 f7, b2.o (e 1 (by decide)) (e 19 (by decide)) (e 20 (by decide)) (e 21 (by decide)), b3.o (e 1 (by decide)) (e 7 (by decide)) (e 9 (by decide)) (e 10 (by decide)), b4.o (e 1 (by decide)) (e 28 (by decide)) (e 29 (by decide)) (e 30 (by decide)), b5.o (e 31 (by decide)) (e 34 (by decide)) (e 37 (by decide)), b6.o (e 5 (by decide)), b7.o (e 3 (by decide)), SF.o (e 1 (by decide)) (e 8 (by decide)) (e 9 (by decide)) b8⟩, ?_, q.o (e 1 (by decide)) (e 7 (by decide)) (e 8 (by decide)) (e 9 (by decide))⟩
  unfold NZ at *
  rw [e 0 (by decide), e 1 (by decide), e 2 (by decide), e 5 (by decide), e 11 (by decide), e 13 (by decide), e 16 (by decide), e 17 (by decide), e 19 (by decide), e 23 (by decide), e 24 (by decide)]; exact n
theorem ZI.g6 (I : ZI Z) : flg (Z 46) := fun q => I.1.1.2.1 46 rfl q
theorem ZI.g7 (I : ZI Z) : flg (Z 47) := fun q => I.1.1.2.1 47 rfl q
theorem ZI.r46 {t : Nat → Int} (I : ZI Z) (ht : flg t) : ZI (zrow Z 46 t) := I.o2 (zrow_j (by decide)) ht I.g7
theorem z67_j {t u : Nat → Int} : ∀ j, j < 43 → z67 Z t u j = Z j := fun j hj => by unfold z67; rw [zrow_j (by decide) j hj, zrow_j (by decide) j hj]
theorem z3_j {t u w : Nat → Int} : ∀ j, j < 43 → z3 Z t u w j = Z j := fun j hj => by unfold z3; rw [zrow_j (by decide) j hj, zrow_j (by decide) j hj, zrow_j (by decide) j hj]
theorem ZI.r67 {t u : Nat → Int} (I : ZI Z) (ht : flg t) (hu : flg u) : ZI (z67 Z t u) := I.o2 z67_j ht hu
theorem ZI.r3 {t u w : Nat → Int} (I : ZI Z) : ZI (z3 Z t u w) := I.o2 z3_j I.g6 I.g7
abbrev nS : Nm := (99, 0, 0)
theorem SIM.tx {b : Nat} (S : SIM h Z c) (F : Fr (nSB b) h g) : SIM g Z c := S.mo (F.mo fun n hn z => hn (by rcases z with z | z <;> rw [z] <;> exact Or.inr (by show 15 ≤ 96; decide)))
end LWI
