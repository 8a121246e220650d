/-! ===== the relation: a move taken back ===== -/
section K7
variable {Q : AH → AO → Prop} {h g H G : AH} {Z Y X : ZT} {c q s a b r x m v k t : Nat} {A : Nat → Nat}
/-- a parted or joined field is another one -/
def NQ (Z : ZT) : Prop := ∀ s v : Nat, s < 4 → 1 ≤ v → (v : Int) ≤ Z 1 s → (Z 7 (24 * s + v) = 3 ∨ Z 7 (24 * s + v) = 4) → ∀ i j, i < 2 → j < 2 → ¬ Z 9 (2 * (24 * s + v) + j) = -1 → ¬ Z 9 (2 * (24 * s + v) + j) = Z 8 (2 * (24 * s + v) + i)
/-- the model's row r with the move t to the step a taken back -/
def UR (Z Y : ZT) (s r t a : Nat) : Prop := Y 21 r = Z 37 t ∧ Y 23 r = Z 38 t ∧ (∀ w, w < 24 → Y 24 (24 * r + w) = if w = a then Z 39 t else Z 24 (24 * r + w)) ∧ (∀ j, j < 48 → Y 25 (48 * r + j) = if j = 2 * a + 1 then Z 40 (2 * t + 1) else if j = 2 * a then Z 40 (2 * t) else Z 25 (48 * r + j))
  ∧ (Z 7 (24 * s + a) = 1 → ∀ f, f < 46 → Y 22 (48 * r + f) = Z 22 (48 * r + f))
  ∧ (¬ Z 7 (24 * s + a) = 1 → ∀ f : Nat, f < 46 → Y 22 (48 * r + f) = if (Z 37 t < (a : Int) ∨ ¬ Z 7 (24 * s + a) = 6) ∧ Z 8 (2 * (24 * s + a) + 1) = (f : Int) then Z 41 (2 * t + 1) else if (Z 37 t < (a : Int) ∨ ¬ Z 7 (24 * s + a) = 6) ∧ Z 8 (2 * (24 * s + a)) = (f : Int) then Z 41 (2 * t)
    else if Z 9 (2 * (24 * s + a) + 1) = (f : Int) then Z 42 (2 * t + 1) else if Z 9 (2 * (24 * s + a)) = (f : Int) then Z 42 (2 * t) else Z 22 (48 * r + f))
/-- the values, by cases -/
theorem U_v1 {f : Nat} (K : ZS Z s) (h1 : 1 ≤ a) (h2 : (a : Int) ≤ Z 1 s) (hf : f < 46) (e1 : Z 7 (24 * s + a) = 1) : ¬ Z 5 (48 * (24 * s + a) + f) = -1 ↔ ¬ Z 5 (48 * (24 * s + a - 1) + f) = -1 := by
  obtain ⟨-, kk, kp, kf0, -, -⟩ := K.zp h1 h2
  have kpf := kp f (by omega)
  clear kp
  unfold StK at kk
  have hac : Z 9 (2 * (24 * s + a)) = Z 8 (2 * (24 * s + a)) ∧ Z 8 (2 * (24 * s + a) + 1) = -1 ∧ Z 9 (2 * (24 * s + a) + 1) = -1 ∧ 0 ≤ Z 8 (2 * (24 * s + a)) := by omega
  clear kk
  rw [hac.1, hac.2.1, hac.2.2.1] at kpf
  constructor
  · intro z
    rcases kpf.mp z with w | w | w
    · exact w.1
    · have := kf0 (by omega)
      rw [show (Z 8 (2 * (24 * s + a))).toNat = f by omega] at this
      exact this
    · omega
  · intro z
    refine kpf.mpr ?_
    by_cases w : (f : Int) = Z 8 (2 * (24 * s + a))
    · exact Or.inr (Or.inl w)
    · exact Or.inl ⟨z, w, by omega⟩
theorem U_nf {f : Nat} (K : ZS Z s) (h1 : 1 ≤ a) (h2 : (a : Int) ≤ Z 1 s) (q : (Z 7 (24 * s + a) = 3 ∨ Z 7 (24 * s + a) = 4) → ∀ i j, i < 2 → j < 2 → ¬ Z 9 (2 * (24 * s + a) + j) = -1 → ¬ Z 9 (2 * (24 * s + a) + j) = Z 8 (2 * (24 * s + a) + i))
    (e1 : ¬ Z 7 (24 * s + a) = 1) (e6 : ¬ Z 7 (24 * s + a) = 6) (hb : (f : Int) = Z 9 (2 * (24 * s + a)) ∨ (f : Int) = Z 9 (2 * (24 * s + a) + 1)) : ¬ Z 8 (2 * (24 * s + a) + 1) = (f : Int) ∧ ¬ Z 8 (2 * (24 * s + a)) = (f : Int) := by
  obtain ⟨-, kk, -, -, -, -⟩ := K.zp h1 h2
  unfold StK at kk
  by_cases w34 : Z 7 (24 * s + a) = 3 ∨ Z 7 (24 * s + a) = 4
  · have q00 := q w34 0 0 (by omega) (by omega)
    have q01 := q w34 0 1 (by omega) (by omega)
    have q10 := q w34 1 0 (by omega) (by omega)
    have q11 := q w34 1 1 (by omega) (by omega)
    have e0 : 2 * (24 * s + a) + 0 = 2 * (24 * s + a) := rfl
    rw [e0] at q00 q01 q10
    clear kk q
    omega
  · clear q
    by_cases w2 : Z 7 (24 * s + a) = 2
    · have kd : ¬ Z 3 (48 * s + (Z 8 (2 * (24 * s + a))).toNat) = Z 3 (48 * s + (Z 9 (2 * (24 * s + a))).toNat) ∧ Z 8 (2 * (24 * s + a) + 1) = -1 ∧ Z 9 (2 * (24 * s + a) + 1) = -1 := by
        rcases kk with k2 | k2 | k2 | k2 | k2 | k2
        · omega
        · omega
        · exact ⟨k2.2.2.2.2.2, k2.2.2.1, k2.2.2.2.2.1⟩
        · omega
        · omega
        · omega
      have : ¬ Z 8 (2 * (24 * s + a)) = Z 9 (2 * (24 * s + a)) := fun y => kd.1 (by rw [y])
      clear kk
      omega
    · omega
theorem U_vd {f : Nat} (K : ZS Z s) (h1 : 1 ≤ a) (h2 : (a : Int) ≤ Z 1 s) (q : (Z 7 (24 * s + a) = 3 ∨ Z 7 (24 * s + a) = 4) → ∀ i j, i < 2 → j < 2 → ¬ Z 9 (2 * (24 * s + a) + j) = -1 → ¬ Z 9 (2 * (24 * s + a) + j) = Z 8 (2 * (24 * s + a) + i))
    (e1 : ¬ Z 7 (24 * s + a) = 1) (hf : f < 46) {M : Nat → Int} (nh : ∀ j, j < 2 → ¬ Z 9 (2 * (24 * s + a) + j) = -1 → M (Z 9 (2 * (24 * s + a) + j)).toNat = Z 42 (2 * t + j))
    (eV : Z 37 t = (a : Int)) (z2 : ¬ Z 5 (48 * (24 * s + a) + f) = -1) (j3 : ¬ (f : Int) = Z 8 (2 * (24 * s + a)) ∧ ¬ (f : Int) = Z 8 (2 * (24 * s + a) + 1) ∧ ¬ (f : Int) = Z 9 (2 * (24 * s + a)) ∧ ¬ (f : Int) = Z 9 (2 * (24 * s + a) + 1) → ¬ Z 5 (48 * (24 * s + a - 1) + f) = -1 → M f = Z 22 (48 * r + f)) :
    M f = if (Z 37 t < (a : Int) ∨ ¬ Z 7 (24 * s + a) = 6) ∧ Z 8 (2 * (24 * s + a) + 1) = (f : Int) then Z 41 (2 * t + 1) else if (Z 37 t < (a : Int) ∨ ¬ Z 7 (24 * s + a) = 6) ∧ Z 8 (2 * (24 * s + a)) = (f : Int) then Z 41 (2 * t)
    else if Z 9 (2 * (24 * s + a) + 1) = (f : Int) then Z 42 (2 * t + 1) else if Z 9 (2 * (24 * s + a)) = (f : Int) then Z 42 (2 * t) else Z 22 (48 * r + f) := by
  have kpf := (K.zp h1 h2).2.2.1 f (by omega)
  have nh0 := nh 0 (by omega)
  have nh1 := nh 1 (by omega)
  rw [Nat.add_zero, Nat.add_zero] at nh0
  by_cases hb : (f : Int) = Z 9 (2 * (24 * s + a)) ∨ (f : Int) = Z 9 (2 * (24 * s + a) + 1)
  · have g1 : ¬ ((Z 37 t < (a : Int) ∨ ¬ Z 7 (24 * s + a) = 6) ∧ Z 8 (2 * (24 * s + a) + 1) = (f : Int)) := fun w => (U_nf K h1 h2 q e1 (by omega) hb).1 w.2
    have g0 : ¬ ((Z 37 t < (a : Int) ∨ ¬ Z 7 (24 * s + a) = 6) ∧ Z 8 (2 * (24 * s + a)) = (f : Int)) := fun w => (U_nf K h1 h2 q e1 (by omega) hb).2 w.2
    rw [if_neg g1, if_neg g0]
    clear q kpf nh j3 g1 g0
    by_cases y1 : Z 9 (2 * (24 * s + a) + 1) = (f : Int)
    · rw [if_pos y1, ← nh1 (by omega)]
      congr 1; omega
    · rw [if_neg y1, if_pos (by omega), ← nh0 (by omega)]
      congr 1; omega
  · have zl := (kpf.mp z2).resolve_right hb
    clear kpf q nh nh0 nh1
    have y1 : ¬ Z 8 (2 * (24 * s + a) + 1) = (f : Int) := fun w => zl.2.2 w.symm
    have y0 : ¬ Z 8 (2 * (24 * s + a)) = (f : Int) := fun w => zl.2.1 w.symm
    have x1 : ¬ Z 9 (2 * (24 * s + a) + 1) = (f : Int) := fun w => hb (Or.inr w.symm)
    have x0 : ¬ Z 9 (2 * (24 * s + a)) = (f : Int) := fun w => hb (Or.inl w.symm)
    rw [if_neg (fun w => y1 w.2), if_neg (fun w => y0 w.2), if_neg x1, if_neg x0]
    exact j3 ⟨zl.2.1, zl.2.2, fun w => hb (Or.inl w), fun w => hb (Or.inr w)⟩ zl.1
theorem U_vu {f : Nat} (K : ZS Z s) (h1 : 1 ≤ a) (h2 : (a : Int) ≤ Z 1 s) (hf : f < 46) {M : Nat → Int} (nf : ∀ j, j < 2 → ¬ Z 8 (2 * (24 * s + a) + j) = -1 → M (Z 8 (2 * (24 * s + a) + j)).toNat = Z 41 (2 * t + j))
    (eV : Z 37 t = (a : Int) - 1) (z2 : ¬ Z 5 (48 * (24 * s + a - 1) + f) = -1) (j3 : ¬ (f : Int) = Z 8 (2 * (24 * s + a)) ∧ ¬ (f : Int) = Z 8 (2 * (24 * s + a) + 1) ∧ ¬ (f : Int) = Z 9 (2 * (24 * s + a)) ∧ ¬ (f : Int) = Z 9 (2 * (24 * s + a) + 1) → ¬ Z 5 (48 * (24 * s + a) + f) = -1 → M f = Z 22 (48 * r + f)) :
    M f = if (Z 37 t < (a : Int) ∨ ¬ Z 7 (24 * s + a) = 6) ∧ Z 8 (2 * (24 * s + a) + 1) = (f : Int) then Z 41 (2 * t + 1) else if (Z 37 t < (a : Int) ∨ ¬ Z 7 (24 * s + a) = 6) ∧ Z 8 (2 * (24 * s + a)) = (f : Int) then Z 41 (2 * t)
    else if Z 9 (2 * (24 * s + a) + 1) = (f : Int) then Z 42 (2 * t + 1) else if Z 9 (2 * (24 * s + a)) = (f : Int) then Z 42 (2 * t) else Z 22 (48 * r + f) := by
  obtain ⟨-, -, kp, -, -, kn⟩ := K.zp h1 h2
  have kpf := kp f (by omega)
  have knf := kn f (by omega)
  clear kp kn
  have nf0 := nf 0 (by omega)
  have nf1 := nf 1 (by omega)
  rw [Nat.add_zero, Nat.add_zero] at nf0
  clear nf
  have lt : Z 37 t < (a : Int) := by omega
  by_cases y1 : Z 8 (2 * (24 * s + a) + 1) = (f : Int)
  · rw [if_pos ⟨Or.inl lt, y1⟩, ← nf1 (by omega)]
    congr 1; omega
  · rw [if_neg (fun w => y1 w.2)]
    by_cases y0 : Z 8 (2 * (24 * s + a)) = (f : Int)
    · rw [if_pos ⟨Or.inl lt, y0⟩, ← nf0 (by omega)]
      congr 1; omega
    · rw [if_neg (fun w => y0 w.2)]
      have nb : ¬ ((f : Int) = Z 9 (2 * (24 * s + a)) ∨ (f : Int) = Z 9 (2 * (24 * s + a) + 1)) := fun w => by
        rcases knf w z2 with v | v
        · exact y0 v.symm
        · exact y1 v.symm
      rw [if_neg (fun w => nb (Or.inr w.symm)), if_neg (fun w => nb (Or.inl w.symm))]
      exact j3 ⟨fun w => y0 w.symm, fun w => y1 w.symm, fun w => nb (Or.inl w), fun w => nb (Or.inr w)⟩ (kpf.mpr (Or.inl ⟨z2, fun w => y0 w.symm, fun w => y1 w.symm⟩))
set_option maxHeartbeats 1000000 in
theorem U_rw (ha : A t = a) (h1 : 1 ≤ a) (h2 : (a : Int) ≤ Z 1 s) (K : ZS Z s) (NQs : (Z 7 (24 * s + a) = 3 ∨ Z 7 (24 * s + a) = 4) → ∀ i j, i < 2 → j < 2 → ¬ Z 9 (2 * (24 * s + a) + j) = -1 → ¬ Z 9 (2 * (24 * s + a) + j) = Z 8 (2 * (24 * s + a) + i))
    (R : RW h Z s 13 r r) (J : JJ A h Z s 13 r t) (N : NN A h Z s t) (W13 : StaW g 13 r) (CS : cpS h g 14 t 13 r) (U : UR Z Y s r t a) (o1 : Y 1 s = Z 1 s) (o5 : Y 5 = Z 5) (o7 : Y 7 = Z 7) : RW g Y s 13 r r := by
  have b1 := K.b1
  unfold JJ at J
  unfold NN at N
  rw [ha] at J N
  obtain ⟨-, j2, j3, j4⟩ := J
  obtain ⟨-, ⟨n0, nV, n1⟩, ⟨nb, nb0, nb1, nb2, nb3, nb4⟩, nf, nh⟩ := N
  obtain ⟨⟨c0, c1⟩, c2, c3, c4⟩ := CS
  obtain ⟨u21, u23, u24, u25, u22a, u22b⟩ := U
  obtain ⟨⟨r1, r2, r3⟩, R13, rl, rv, rb⟩ := R
  have hVV : Z 21 r + Z 37 t = 2 * (a : Int) - 1 := by omega
  refine ⟨⟨by rw [c0, n0, u21], by rw [u21]; omega, by rw [u21, o1]; omega⟩, W13, by rw [c1, n1, u23], fun f hf z => ?_, fun w hw => ?_⟩
  · rw [u21, o5] at z
    rw [c2 f hf]
    clear c0 c1 c2 c3 c4 u21 u23 u24 u25 nb nb0 nb1 nb2 nb3 nb4 rb j4 o1 o5 o7
    have rvf := rv f hf
    clear rv
    by_cases e1 : Z 7 (24 * s + a) = 1
    · rw [u22a e1 f hf, j3 f hf (Or.inl e1)]
      have q := U_v1 K h1 h2 hf e1
      refine rvf ?_
      rcases nV with e | e
      · rw [show (Z 37 t).toNat = a by omega] at z
        rw [show (Z 21 r).toNat = a - 1 by omega, show 24 * s + (a - 1) = 24 * s + a - 1 by omega]
        exact q.mp z
      · rw [show (Z 37 t).toNat = a - 1 by omega, show 24 * s + (a - 1) = 24 * s + a - 1 by omega] at z
        rw [show (Z 21 r).toNat = a by omega]
        exact q.mpr z
    · rw [u22b e1 f hf]
      rcases nV with e | e
      · rw [show (Z 37 t).toNat = a by omega] at z
        rw [show (Z 21 r).toNat = a - 1 by omega, show 24 * s + (a - 1) = 24 * s + a - 1 by omega] at rvf
        exact U_vd (M := fun i => hI h (14, t, 1) i) K h1 h2 NQs e1 hf (nh e1 e) e z (fun w w2 => (j3 f hf (Or.inr w)).trans (rvf w2))
      · rw [show (Z 37 t).toNat = a - 1 by omega, show 24 * s + (a - 1) = 24 * s + a - 1 by omega] at z
        rw [show (Z 21 r).toNat = a by omega] at rvf
        exact U_vu (M := fun i => hI h (14, t, 1) i) K h1 h2 hf (nf e1 e) e z (fun w w2 => (j3 f hf (Or.inr w)).trans (rvf w2))
  · clear nf nh j3 u22a u22b rv NQs
    have c20 := c3 (2 * w) (by omega)
    have c21 := c3 (2 * w + 1) (by omega)
    have c40 := c4 (4 * w) (by omega)
    have c41 := c4 (4 * w + 1) (by omega)
    have c42 := c4 (4 * w + 2) (by omega)
    have c43 := c4 (4 * w + 3) (by omega)
    have u250 := u25 (2 * w) (by omega)
    have u251 := u25 (2 * w + 1) (by omega)
    have i0 : 2 * (24 * r + w) = 48 * r + 2 * w := by omega
    have i1 : 2 * (24 * r + w) + 1 = 48 * r + (2 * w + 1) := by omega
    unfold RB1
    rw [c20, c21, c40, c41, c42, c43, u24 w hw, i1, i0, u250, u251, o1, o7]
    by_cases y : w = a
    · subst y
      rw [if_pos rfl, if_pos rfl, if_neg (by omega), if_pos rfl]
      exact ⟨nb, nb0, nb1, nb2, nb3, fun z => nb4 (by omega)⟩
    · rw [if_neg y, if_neg (by omega), if_neg (by omega), if_neg (by omega), if_neg (by omega)]
      obtain ⟨d2, d3⟩ := j4 w hw y
      have e20 := d2 0 (by omega)
      have e21 := d2 1 (by omega)
      have e30 := d3 0 (by omega)
      have e31 := d3 1 (by omega)
      have e32 := d3 2 (by omega)
      have e33 := d3 3 (by omega)
      rw [Nat.add_zero] at e20 e30
      rw [e20, e21, e30, e31, e32, e33]
      have := rb w hw
      unfold RB1 at this
      rw [i1, i0] at this
      exact this
end K7
