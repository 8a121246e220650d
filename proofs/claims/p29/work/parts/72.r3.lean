/-! ===== the relation: rows; a row carried over a step ===== -/
section R3
variable {h g H : AH} {Z Y : ZT} {s a b q V : Nat}
def RVl (h : AH) (Z : ZT) (s a b q V : Nat) : Prop := ∀ f : Nat, f < 46 → ¬ Z 5 (48 * (24 * s + V) + f) = -1 → hI h (a, b, 1) f = Z 22 (48 * q + f)
/-- the box of the step v -/
def RB1 (h : AH) (Z : ZT) (s a b q v : Nat) : Prop := (0 ≤ Z 24 (24 * q + v) ∧ Z 24 (24 * q + v) ≤ 2) ∧ hI h (a, b, 2) (2 * v) = bz (Z 24 (24 * q + v) = 1) ∧ hI h (a, b, 2) (2 * v + 1) = bz (Z 24 (24 * q + v) = 2)
  ∧ (Z 24 (24 * q + v) = 1 → hI h (a, b, 3) (4 * v) = Z 25 (2 * (24 * q + v)) ∧ hI h (a, b, 3) (4 * v + 1) = Z 25 (2 * (24 * q + v) + 1))
  ∧ (Z 24 (24 * q + v) = 2 → hI h (a, b, 3) (4 * v + 2) = Z 25 (2 * (24 * q + v)) ∧ hI h (a, b, 3) (4 * v + 3) = Z 25 (2 * (24 * q + v) + 1))
  ∧ ((Z 1 s < (v : Int) ∨ v = 0 ∨ Z 7 (24 * s + v) = 1) → Z 24 (24 * q + v) = 0)
def RBx (h : AH) (Z : ZT) (s a b q : Nat) : Prop := ∀ v : Nat, v < 24 → RB1 h Z s a b q v
/-- a row but for its version -/
def RWx (h : AH) (Z : ZT) (s a b q V : Nat) : Prop := StaW h a b ∧ hI h (a, b, 0) 1 = Z 23 q ∧ RVl h Z s a b q V ∧ RBx h Z s a b q
def RW (h : AH) (Z : ZT) (s a b q : Nat) : Prop := (hI h (a, b, 0) 0 = Z 21 q ∧ 0 ≤ Z 21 q ∧ Z 21 q ≤ Z 1 s) ∧ RWx h Z s a b q (Z 21 q).toNat
theorem SV.w {n : Nm} {i : Nat} {x : Int} (S : SV h Z s) (hn : 7 < n.1) : SV (sI h n i x) Z s :=
  S.fr2 (Fr.rf.wI (by rintro (⟨e, -⟩ | e | e | e) <;> omega)) S.1 zSv.rf
theorem RB1.c (R : RB1 h Z s a b q V) (e2 : hI g (a, b, 2) (2 * V) = hI h (a, b, 2) (2 * V)) (e3 : hI g (a, b, 2) (2 * V + 1) = hI h (a, b, 2) (2 * V + 1)) (e4 : ∀ j, j < 4 → hI g (a, b, 3) (4 * V + j) = hI h (a, b, 3) (4 * V + j))
    (f1 : Y 1 s = Z 1 s) (f7 : Y 7 (24 * s + V) = Z 7 (24 * s + V)) (f24 : Y 24 (24 * q + V) = Z 24 (24 * q + V)) (f25 : ∀ j, j < 2 → Y 25 (2 * (24 * q + V) + j) = Z 25 (2 * (24 * q + V) + j)) : RB1 g Y s a b q V := by
  unfold RB1 at *
  have g0 := e4 0 (by omega)
  have g1 := e4 1 (by omega)
  have g2 := e4 2 (by omega)
  have g3 := e4 3 (by omega)
  have k0 := f25 0 (by omega)
  have k1 := f25 1 (by omega)
  rw [Nat.add_zero] at g0 k0
  rw [e2, e3, g0, g1, g2, g3, f1, f7, f24, k0, k1]
  exact R
/-- the box, looked at -/
theorem X_box {v : Nat} {u : Int} (hu : u = 0 ∨ u = 1) (R : RB1 H Z s a b q v) : hI H (a, b, 2) (2 * (v : Int) + u).toNat = 0 ↔ ¬ Z 24 (24 * (q : Int) + (v : Int)).toNat = (if u = 0 then 1 else 2) := by
  obtain ⟨-, e1, e2, -⟩ := R
  rw [show (24 * (q : Int) + (v : Int)).toNat = 24 * q + v by omega]
  rcases hu with rfl | rfl
  · rw [show (2 * (v : Int) + 0).toNat = 2 * v by omega, e1, if_pos rfl]; exact bz_0
  · rw [show (2 * (v : Int) + 1).toNat = 2 * v + 1 by omega, e2, if_neg (by decide)]; exact bz_0
theorem X_bxv {v : Nat} {u : Int} (hu : u = 0 ∨ u = 1) (R : RB1 H Z s a b q v) (c : Z 24 (24 * (q : Int) + (v : Int)).toNat = (if u = 0 then 1 else 2)) :
    hI H (a, b, 3) (2 * (2 * (v : Int) + u)).toNat = Z 25 (2 * (24 * (q : Int) + (v : Int))).toNat ∧ hI H (a, b, 3) (2 * (2 * (v : Int) + u) + 1).toNat = Z 25 (2 * (24 * (q : Int) + (v : Int)) + 1).toNat := by
  obtain ⟨-, -, -, e1, e2, -⟩ := R
  rw [show (24 * (q : Int) + (v : Int)).toNat = 24 * q + v by omega] at c
  rw [show (2 * (24 * (q : Int) + (v : Int))).toNat = 2 * (24 * q + v) by omega, show (2 * (24 * (q : Int) + (v : Int)) + 1).toNat = 2 * (24 * q + v) + 1 by omega]
  rcases hu with rfl | rfl
  · rw [show (2 * (2 * (v : Int) + 0)).toNat = 4 * v by omega, show (2 * (2 * (v : Int) + 0) + 1).toNat = 4 * v + 1 by omega]
    exact e1 c
  · rw [show (2 * (2 * (v : Int) + 1)).toNat = 4 * v + 2 by omega, show (2 * (2 * (v : Int) + 1) + 1).toNat = 4 * v + 3 by omega]
    exact e2 c
/-- a flag of the box taken off -/
theorem RWx.off {v : Nat} {u : Int} (hu : u = 0 ∨ u = 1) (hv : v < 24) (c : Z 24 (24 * (q : Int) + (v : Int)).toNat = (if u = 0 then 1 else 2)) (R : RWx H Z s a b q V) : RWx (sI H (a, b, 2) (2 * (v : Int) + u).toNat 0) (zs Z 24 (24 * (q : Int) + (v : Int)).toNat 0) s a b q V := by
  obtain ⟨r1, r2, r3, r4⟩ := R
  have n2 : ∀ (j k i : Nat) (x : Int), ¬ j = 2 → hI (sI H (a, b, 2) i x) (a, b, j) k = hI H (a, b, j) k := fun j k i x e => by
    rw [hI_sI, if_neg]; rintro ⟨z, -⟩; simp at z; exact e z
  have eq : (24 * (q : Int) + (v : Int)).toNat = 24 * q + v := by omega
  rw [eq] at c ⊢
  refine ⟨r1, ?_, ?_, ?_⟩
  · rw [n2 _ _ _ _ (by decide)]; exact r2
  · unfold RVl at r3 ⊢
    intro f hf hp
    rw [n2 _ _ _ _ (by decide)]
    exact r3 f hf hp
  · intro w hw
    by_cases e : w = v
    · subst e
      have R1 := r4 w hw
      unfold RB1 at R1 ⊢
      have z : zs Z 24 (24 * q + w) 0 24 (24 * q + w) = 0 := zs_eq rfl rfl
      obtain ⟨m1, m2, m3, -⟩ := R1
      rw [z]
      refine ⟨by omega, ?_, ?_, fun z => by omega, fun z => by omega, fun _ => rfl⟩
      · rcases hu with rfl | rfl
        · rw [show (2 * (w : Int) + 0).toNat = 2 * w by omega, hI_e rfl rfl]; rfl
        · rw [hI_m (by omega) rfl, m2, c]; rfl
      · rcases hu with rfl | rfl
        · rw [hI_m (by omega) rfl, m3, c]; rfl
        · rw [show (2 * (w : Int) + 1).toNat = 2 * w + 1 by omega, hI_e rfl rfl]; rfl
    · refine RB1.c (r4 w hw) (hI_m (by omega) rfl) (hI_m (by omega) rfl) (fun j _ => n2 _ _ _ _ (by decide)) rfl rfl (zs_miss (by omega) rfl) (fun _ _ => rfl)
/-- one more loss -/
theorem RWx.los (R : RWx H Z s a b q V) : RWx (sI H (a, b, 0) 1 (wr (hI H (a, b, 0) 1 + 1))) (zs Z 23 q (wr (Z 23 q + 1))) s a b q V := by
  obtain ⟨r1, r2, r3, r4⟩ := R
  have n2 : ∀ (j k i : Nat) (x : Int), ¬ j = 0 → hI (sI H (a, b, 0) i x) (a, b, j) k = hI H (a, b, j) k := fun j k i x e => by
    rw [hI_sI, if_neg]; rintro ⟨z, -⟩; simp at z; exact e z
  refine ⟨r1, ?_, ?_, ?_⟩
  · rw [hI_e rfl rfl, r2, zs_eq rfl rfl]
  · unfold RVl at r3 ⊢
    intro f hf hp
    rw [n2 _ _ _ _ (by decide)]
    exact r3 f hf hp
  · intro w hw
    exact RB1.c (r4 w hw) (n2 _ _ _ _ (by decide)) (n2 _ _ _ _ (by decide)) (fun j _ => n2 _ _ _ _ (by decide)) rfl rfl rfl (fun _ _ => rfl)
/-- a pair put into the box -/
theorem RWx.put {v : Nat} {u l0 l1 : Int} (hu : u = 0 ∨ u = 1) (hv : v < 24) (h1 : 1 ≤ v ∧ (v : Int) ≤ Z 1 s) (hr : ¬ Z 7 (24 * s + v) = 1) (c : ¬ Z 24 (24 * q + v) = (if u = 0 then 1 else 2)) (R : RWx H Z s a b q V) :
    RWx (caw H a b (2 * (v : Int) + nu u) l0 l1) (zs (zs (zs Z 24 (24 * (q : Int) + (v : Int)).toNat (if u = 0 then 2 else 1)) 25 (2 * (24 * (q : Int) + (v : Int))).toNat l0) 25 (2 * (24 * (q : Int) + (v : Int)) + 1).toNat l1) s a b q V := by
  obtain ⟨r1, r2, r3, r4⟩ := R
  have n2 : ∀ (j k : Nat) (e x y : Int), ¬ j = 2 → ¬ j = 3 → hI (caw H a b e x y) (a, b, j) k = hI H (a, b, j) k := fun j k e x y e2 e3 => by
    unfold caw
    rw [hI_n3 (beq_ne e3) rfl, hI_n3 (beq_ne e3) rfl, hI_n3 (beq_ne e2) rfl]
  have m2 : ∀ (k : Nat) (e x y : Int), hI (caw H a b e x y) (a, b, 2) k = if k = e.toNat then 1 else hI H (a, b, 2) k := fun k e x y => by
    unfold caw
    rw [hI_n3 rfl rfl, hI_n3 rfl rfl, hI_sI]
    simp
  have m3 : ∀ (k : Nat) (e x y : Int), hI (caw H a b e x y) (a, b, 3) k = if k = (2 * e + 1).toNat then y else if k = (2 * e).toNat then x else hI H (a, b, 3) k := fun k e x y => by
    unfold caw
    rw [hI_sI, hI_sI, hI_n3 rfl rfl]
    simp
  rw [show (24 * (q : Int) + (v : Int)).toNat = 24 * q + v by omega, show (2 * (24 * (q : Int) + (v : Int))).toNat = 2 * (24 * q + v) by omega, show (2 * (24 * (q : Int) + (v : Int)) + 1).toNat = 2 * (24 * q + v) + 1 by omega]
  refine ⟨r1, ?_, ?_, ?_⟩
  · rw [n2 _ _ _ _ _ (by decide) (by decide)]; exact r2
  · unfold RVl at r3 ⊢
    intro f hf hp
    rw [n2 _ _ _ _ _ (by decide) (by decide)]
    exact r3 f hf hp
  · intro w hw
    have z24 : ∀ i, zs (zs (zs Z 24 (24 * q + v) (if u = 0 then 2 else 1)) 25 (2 * (24 * q + v)) l0) 25 (2 * (24 * q + v) + 1) l1 24 i = if i = 24 * q + v then (if u = 0 then 2 else 1) else Z 24 i := fun i => by
      rw [zs_ne rfl (zs_ne rfl rfl)]; unfold zs; simp
    have z25 : ∀ i, zs (zs (zs Z 24 (24 * q + v) (if u = 0 then 2 else 1)) 25 (2 * (24 * q + v)) l0) 25 (2 * (24 * q + v) + 1) l1 25 i = if i = 2 * (24 * q + v) + 1 then l1 else if i = 2 * (24 * q + v) then l0 else Z 25 i := fun i => by
      unfold zs; simp
    have k7 : zs (zs (zs Z 24 (24 * q + v) (if u = 0 then 2 else 1)) 25 (2 * (24 * q + v)) l0) 25 (2 * (24 * q + v) + 1) l1 7 = Z 7 := rfl
    have k8 : zs (zs (zs Z 24 (24 * q + v) (if u = 0 then 2 else 1)) 25 (2 * (24 * q + v)) l0) 25 (2 * (24 * q + v) + 1) l1 1 = Z 1 := rfl
    generalize zs (zs (zs Z 24 (24 * q + v) (if u = 0 then 2 else 1)) 25 (2 * (24 * q + v)) l0) 25 (2 * (24 * q + v) + 1) l1 = Y at *
    by_cases e : w = v
    · subst e
      have R1 := r4 w hw
      unfold RB1 at R1 ⊢
      obtain ⟨k1, k2, k3, -, -, -⟩ := R1
      have y24 := z24 (24 * q + w)
      rw [if_pos rfl] at y24
      have y25 := z25 (2 * (24 * q + w))
      rw [if_neg (by omega), if_pos rfl] at y25
      have y26 := z25 (2 * (24 * q + w) + 1)
      rw [if_pos rfl] at y26
      rw [y24, y25, y26, k7, k8, m2, m2, m3, m3, m3, m3]
      rcases hu with rfl | rfl
      · have n1 : nu 0 = 1 := rfl
        have ht : (if (0 : Int) = 0 then (2 : Int) else 1) = 2 := rfl
        have hc : (if (0 : Int) = 0 then (1 : Int) else 2) = 1 := rfl
        rw [n1, ht]
        rw [hc] at c
        rw [show (2 * (w : Int) + 1).toNat = 2 * w + 1 by omega, show (2 * (2 * (w : Int) + 1) + 1).toNat = 4 * w + 3 by omega, show (2 * (2 * (w : Int) + 1)).toNat = 4 * w + 2 by omega]
        refine ⟨by omega, ?_, ?_, fun z => absurd z (by decide), fun _ => ⟨?_, ?_⟩, fun z => by omega⟩
        · rw [if_neg (by omega), k2]; exact (bz_0.mpr c)
        · rw [if_pos rfl]; rfl
        · rw [if_neg (by omega), if_pos rfl]
        · rw [if_pos rfl]
      · have n1 : nu 1 = 0 := rfl
        have ht : (if (1 : Int) = 0 then (2 : Int) else 1) = 1 := rfl
        have hc : (if (1 : Int) = 0 then (1 : Int) else 2) = 2 := rfl
        rw [n1, ht]
        rw [hc] at c
        rw [show (2 * (w : Int) + 0).toNat = 2 * w by omega, show (2 * (2 * (w : Int) + 0) + 1).toNat = 4 * w + 1 by omega, show (2 * (2 * (w : Int) + 0)).toNat = 4 * w by omega]
        refine ⟨by omega, ?_, ?_, fun _ => ⟨?_, ?_⟩, fun z => absurd z (by decide), fun z => by omega⟩
        · rw [if_pos rfl]; rfl
        · rw [if_neg (by omega), k3]; exact (bz_0.mpr c)
        · rw [if_neg (by omega), if_pos rfl]
        · rw [if_pos rfl]
    · have hn : nu u = 0 ∨ nu u = 1 := by unfold nu; split <;> simp
      refine RB1.c (r4 w hw) (by rw [m2, if_neg (by omega)]) (by rw [m2, if_neg (by omega)]) (fun j hj => by rw [m3, if_neg (by omega), if_neg (by omega)]) (by rw [k8]) (by rw [k7]) (by rw [z24, if_neg (by omega)]) (fun j hj => by rw [z25, if_neg (by omega), if_neg (by omega)])
end R3
