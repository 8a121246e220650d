/-! ===== the relation: what a carrying leaves alone ===== -/
section K0
variable {Q : AH → AO → Prop} {h g H G : AH} {Z Y X : ZT} {c q s a b r x m v : Nat} {A : Nat → Nat} {T0 T1 : Int}
def CP (a b v : Nat) (T0 T1 : Int) (h g : AH) : Prop := (∀ f : Nat, ¬ (f : Int) = T0 → ¬ (f : Int) = T1 → hI g (a, b, 1) f = hI h (a, b, 1) f) ∧ (∀ i : Nat, ¬ i = 2 * v → ¬ i = 2 * v + 1 → hI g (a, b, 2) i = hI h (a, b, 2) i) ∧ (∀ i : Nat, (i < 4 * v ∨ 4 * v + 4 ≤ i) → hI g (a, b, 3) i = hI h (a, b, 3) i)
theorem CP.rf : CP a b v T0 T1 h h := ⟨fun _ _ _ => rfl, fun _ _ _ => rfl, fun _ _ => rfl⟩
theorem CP.tr (k : CP a b v T0 T1 h g) (l : CP a b v T0 T1 g H) : CP a b v T0 T1 h H := ⟨fun f x y => (l.1 f x y).trans (k.1 f x y), fun i x y => (l.2.1 i x y).trans (k.2.1 i x y), fun i x => (l.2.2 i x).trans (k.2.2 i x)⟩
theorem CP.w0 {i : Nat} {x : Int} (k : CP a b v T0 T1 h g) : CP a b v T0 T1 h (sI g (a, b, 0) i x) :=
  k.tr ⟨fun _ _ _ => hI_n3 rfl rfl, fun _ _ _ => hI_n3 rfl rfl, fun _ _ => hI_n3 rfl rfl⟩
theorem CP.w2 {i : Nat} {x : Int} (hi : i = 2 * v ∨ i = 2 * v + 1) (k : CP a b v T0 T1 h g) : CP a b v T0 T1 h (sI g (a, b, 2) i x) :=
  k.tr ⟨fun _ _ _ => hI_n3 rfl rfl, fun _ _ _ => hI_m (by omega) rfl, fun _ _ => hI_n3 rfl rfl⟩
theorem CP.w3 {i : Nat} {x : Int} (hi : 4 * v ≤ i ∧ i < 4 * v + 4) (k : CP a b v T0 T1 h g) : CP a b v T0 T1 h (sI g (a, b, 3) i x) :=
  k.tr ⟨fun _ _ _ => hI_n3 rfl rfl, fun _ _ _ => hI_n3 rfl rfl, fun _ _ => hI_m (by omega) rfl⟩
theorem CP.pt {T x : Int} (hT : T = T0 ∨ T = T1) (k : CP a b v T0 T1 h g) : CP a b v T0 T1 h (cpt g a b T x) := by
  unfold cpt
  split
  · exact k.tr ⟨fun f _ _ => hI_m (by omega) rfl, fun _ _ _ => hI_n3 rfl rfl, fun _ _ => hI_n3 rfl rfl⟩
  · exact k
theorem CP.aw {u x y : Int} (hu : u = 0 ∨ u = 1) (k : CP a b v T0 T1 h g) : CP a b v T0 T1 h (caw g a b (2 * (v : Int) + u) x y) := by
  unfold caw
  exact ((k.w2 (by omega)).w3 (by omega)).w3 (by omega)
theorem CP.bx {u l0 l1 : Int} {p : Nat} (hu : u = 0 ∨ u = 1) (k : CP a b v T0 T1 h g) : CP a b v T0 T1 h (cbox s p a b u (v : Int) l0 l1 g).1 := by
  unfold cbox
  split
  · exact k
  · split
    · exact k.w2 (by omega)
    · exact (k.w2 (by omega)).w0
theorem CP.cp {u l0 l1 r0 r1 : Int} {p : Nat} (k : CP a b v T0 T1 h g) : CP a b v T0 T1 h (ccput s p a b u (v : Int) l0 l1 T0 T1 g r0 r1) := by
  unfold ccput
  refine CP.pt (Or.inr rfl) (CP.pt (Or.inl rfl) ?_)
  split
  · exact k
  · exact k.aw (by unfold nu; split <;> simp)
/-- the state (a, b) off the step v -/
def CQ (Z : ZT) (s a b v : Nat) (h g : AH) : Prop := (∀ f : Nat, f < 46 → (Z 7 (24 * s + v) = 1 ∨ (¬ (f : Int) = Z 8 (2 * (24 * s + v)) ∧ ¬ (f : Int) = Z 8 (2 * (24 * s + v) + 1) ∧ ¬ (f : Int) = Z 9 (2 * (24 * s + v)) ∧ ¬ (f : Int) = Z 9 (2 * (24 * s + v) + 1))) → hI g (a, b, 1) f = hI h (a, b, 1) f)
  ∧ ∀ w : Nat, w < 24 → ¬ w = v → (∀ j, j < 2 → hI g (a, b, 2) (2 * w + j) = hI h (a, b, 2) (2 * w + j)) ∧ ∀ j, j < 4 → hI g (a, b, 3) (4 * w + j) = hI h (a, b, 3) (4 * w + j)
theorem CP.kq (k : CP a b v T0 T1 h g) (e : Z 7 (24 * s + v) = 1 → g = sI h (a, b, 0) 0 T0) (e2 : ¬ Z 7 (24 * s + v) = 1 → (T0 = Z 8 (2 * (24 * s + v)) ∧ T1 = Z 8 (2 * (24 * s + v) + 1)) ∨ (T0 = Z 9 (2 * (24 * s + v)) ∧ T1 = Z 9 (2 * (24 * s + v) + 1))) : CQ Z s a b v h g := by
  refine ⟨fun f hf z => ?_, fun w hw hv => ⟨fun j hj => k.2.1 _ (by omega) (by omega), fun j hj => k.2.2 _ (by omega)⟩⟩
  by_cases y : Z 7 (24 * s + v) = 1
  · rw [e y]; exact hI_n3 rfl rfl
  · have z := z.resolve_left y
    rcases e2 y with ⟨t0, t1⟩ | ⟨t0, t1⟩
    · exact k.1 f (by omega) (by omega)
    · exact k.1 f (by omega) (by omega)
theorem sX4_carryP {u : Int} (S : SV h Z s) (K : ZS Z s) (B : SB h s) (R : RW h Z s a b q) (ha : 7 < a) (hu : u = 0 ∨ u = 1) (h1 : 1 ≤ v) (h2 : (v : Int) ≤ Z 1 s) (ev : Z 21 q = if u = 0 then (v : Int) else (v : Int) - 1)
    (k : ∀ g, Fr (nOf s a b) h g → SV g Z s → SB g s → RW g (zmv Z q s v u) s a b q → CQ Z s a b v h g → Q g (.inl none)) : AC mX4_carry fX4_carry loX4_carry 0 0 h [vr (4, s, 0), vr (a, b, 0), vi u] Q := by
  obtain ⟨s5, P, e7, -, e1, e2, e3, e4⟩ := S.st h1 h2
  refine kX4_carry (p := 24 * s + v) (v := v) S.1 B P R.2.1 hu ⟨by omega, by rw [S.hd]; exact h2⟩ (by rw [Int.toNat_natCast]; exact s5) (by rw [R.1.1]; exact ev) (beq_ne (by omega)) (beq_ne (by omega)) (beq_ne (by omega)) (beq_ne (by omega)) (beq_ne (by omega)) (fun g' sg => ?_)
  have F1 : Fr (nOf s a b) h (ccl h s (24 * s + v) a b u v) := Fr.kcl (fun j z => z.1 ⟨rfl, rfl⟩)
  have F2 : Fr (fun n => ¬ scn s n) (ccl h s (24 * s + v) a b u v) g' := Fr.scr sg (fun n z => z)
  have F : Fr (nOf s a b) h g' := F1.tr (F2.mo (fun n z => z.2))
  have hw : SchW g' s := sg.W (by
    have : SV (ccl h s (24 * s + v) a b u v) Z s := by
      refine S.fr2 (F1.mo (nSv_nOf ha)) ?_ zSv.rf
      have W := S.1
      have F3 : Fr (fun n : Nm => n.1 = 4) h (ccl h s (24 * s + v) a b u v) := Fr.kcl (fun j z => by dsimp only at z; omega)
      unfold SchW at W ⊢
      simp only [F3.T (n := (4, s, _)) rfl, F3.R (n := (4, s, _)) rfl]
      exact W
    exact this.1)
  have nsc : ∀ j, ¬ scn s (a, b, j) := fun j z => by have := z.1; dsimp only at this; omega
  refine k g' F (S.fr2 (F.mo (nSv_nOf ha)) hw zSv.rf) ?_ ((RW.car hu S K ha h1 h2 ev R).f F2 nsc) ?_
  · have e : ∀ i, hI g' (4, s, 0) i = hI h (4, s, 0) i := F.I (nSv_nOf ha _ (Or.inl ⟨rfl, rfl, Or.inl (Nat.zero_le _)⟩))
    unfold SB
    rw [e, e, e]
    exact B
  · have C : CQ Z s a b v h (ccl h s (24 * s + v) a b u v) := by
      unfold ccl
      by_cases y : hI h (5, 24 * s + v, 0) 0 = 1
      · rw [if_pos y]
        exact ⟨fun f hf z => hI_n3 rfl rfl, fun w _ _ => ⟨fun j hj => hI_n3 rfl rfl, fun j hj => hI_n3 rfl rfl⟩⟩
      · rw [if_neg y]
        refine CP.kq (T0 := if u = 0 then hI h (6, 24 * s + v, 0) 0 else hI h (7, 24 * s + v, 0) 0) (T1 := if u = 0 then hI h (6, 24 * s + v, 0) 1 else hI h (7, 24 * s + v, 0) 1) (CP.cp (CP.bx hu (CP.w0 CP.rf))) (fun z => absurd (e7.trans z) y) (fun _ => ?_)
        rw [e1, e2, e3, e4]
        rcases hu with hu | hu
        · exact Or.inl ⟨if_pos hu, if_pos hu⟩
        · exact Or.inr ⟨if_neg (by omega), if_neg (by omega)⟩
    exact ⟨fun f hf z => (F2.I (nsc _) f).trans (C.1 f hf z), fun w hw hv => ⟨fun j hj => (F2.I (nsc _) _).trans ((C.2 w hw hv).1 j hj), fun j hj => (F2.I (nsc _) _).trans ((C.2 w hw hv).2 j hj)⟩⟩
end K0
