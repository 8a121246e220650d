/-! ===== rows: the law's and the model's ===== -/
section B0
variable {h g G : AH} {Z Y : ZT} {rl rz a : Nat}
theorem hIx {n : Nm} {i j : Nat} {x : Int} (e : i = j) (k : hI h n j = x) : hI h n i = x := by rw [e]; exact k
theorem hLx {n : Nm} {i j : Nat} {x : Int64} (e : i = j) (k : hL h n j = x) : hL h n i = x := by rw [e]; exact k
theorem hI_sIla {i j k l : Nat} {v : Int} : hI (sI h (la i) k v) (la j) l = if j = i ∧ l = k then v else hI h (la j) l := by
  rw [hI_sI]
  by_cases e : j = i ∧ l = k
  · rw [if_pos e, if_pos ⟨by rw [e.1], e.2⟩]
  · rw [if_neg e, if_neg (fun z => e ⟨congrArg (fun n : Nm => n.2.2) z.1, z.2⟩)]
theorem hL_sLla {i j k l : Nat} {v : Int64} : hL (sL h (la i) k v) (la j) l = if j = i ∧ l = k then v else hL h (la j) l := by
  rw [hL_sL]
  by_cases e : j = i ∧ l = k
  · rw [if_pos e, if_pos ⟨by rw [e.1], e.2⟩]
  · rw [if_neg e, if_neg (fun z => e ⟨congrArg (fun n : Nm => n.2.2) z.1, z.2⟩)]
/-- a row's box of a step, as the law keeps it -/
def zbxv (Z : ZT) (r w : Nat) : Int := if Z 24 (24 * r + w) = 0 then 0 else Z 24 (24 * r + w) + 3 * (Z 25 (2 * (24 * r + w)) + 1 + 10001 * (Z 25 (2 * (24 * r + w) + 1) + 1))
def LR (h : AH) (Z : ZT) (rl rz : Nat) : Prop := (∀ k : Nat, k < 10 → hI h (la 5) (10 * rl + k) = Z 22 (48 * rz + k)) ∧ hI h (la 6) (2 * rl) = Z 21 rz ∧ hI h (la 6) (2 * rl + 1) = Z 23 rz ∧ ∀ w : Nat, 1 ≤ w → w < 12 → hL h (la 7) (13 * rl + w) = Int64.ofInt (zbxv Z rz w)
theorem LR.x (R : LR h Z rl rz) {k : Nat} (hk : k < 10) : hI h (la 5) (10 * rl + k) = Z 22 (48 * rz + k) := R.1 k hk
theorem LR.y0 (R : LR h Z rl rz) : hI h (la 6) (2 * rl) = Z 21 rz := R.2.1
theorem LR.y1 (R : LR h Z rl rz) : hI h (la 6) (2 * rl + 1) = Z 23 rz := R.2.2.1
theorem LR.z (R : LR h Z rl rz) {w : Nat} (h1 : 1 ≤ w) (h2 : w < 12) : hL h (la 7) (13 * rl + w) = Int64.ofInt (zbxv Z rz w) := R.2.2.2 w h1 h2
theorem LR.fl {P : Nat → Prop} (F : FL P h g) (h5 : ¬ P 5) (h6 : ¬ P 6) (h7 : ¬ P 7) (R : LR h Z rl rz) : LR g Z rl rz := by
  unfold LR at *
  simp only [F.I h5, F.I h6, F.L h7]
  exact R
theorem LR.zr (e : zRw Y Z rz) (R : LR h Z rl rz) : LR h Y rl rz := by
  obtain ⟨e1, e2, e3, e4, e5⟩ := e
  obtain ⟨r1, r2, r3, r4⟩ := R
  refine ⟨fun k hk => by rw [e3 k (by omega)]; exact r1 k hk, by rw [e1]; exact r2, by rw [e2]; exact r3, fun w h1 h2 => ?_⟩
  rw [r4 w h1 h2]
  unfold zbxv
  have q0 := e5 (2 * w) (by omega)
  have q1 := e5 (2 * w + 1) (by omega)
  rw [show 48 * rz + 2 * w = 2 * (24 * rz + w) by omega] at q0
  rw [show 48 * rz + (2 * w + 1) = 2 * (24 * rz + w) + 1 by omega] at q1
  rw [e4 w (by omega), q0, q1]
/-- a row's cells alone are touched -/
def FR (rl : Nat) (h g : AH) : Prop := FL (fun j => j = 5 ∨ j = 6 ∨ j = 7 ∨ j = 9) h g ∧ (∀ i, ¬ (10 * rl ≤ i ∧ i < 10 * rl + 10) → hI g (la 5) i = hI h (la 5) i) ∧ (∀ i, ¬ (2 * rl ≤ i ∧ i < 2 * rl + 2) → hI g (la 6) i = hI h (la 6) i) ∧ (∀ i, ¬ (13 * rl + 1 ≤ i ∧ i < 13 * rl + 12) → hL g (la 7) i = hL h (la 7) i)
theorem FR.rf : FR rl h h := ⟨FL.rf, fun _ _ => rfl, fun _ _ => rfl, fun _ _ => rfl⟩
theorem FR.tr (a : FR rl h g) (b : FR rl g G) : FR rl h G := ⟨a.1.tr b.1, fun i hi => (b.2.1 i hi).trans (a.2.1 i hi), fun i hi => (b.2.2.1 i hi).trans (a.2.2.1 i hi), fun i hi => (b.2.2.2 i hi).trans (a.2.2.2 i hi)⟩
theorem FR.f9 (a : FR rl h g) (b : FL (fun j => j = 9) g G) : FR rl h G := a.tr ⟨b.mo (fun j e => Or.inr (Or.inr (Or.inr e))), fun i _ => b.I (by decide) i, fun i _ => b.I (by decide) i, fun i _ => b.L (by decide) i⟩
theorem FR.w5 {k : Nat} {v : Int} (b : FR rl h g) (hk : k < 10) : FR rl h (sI g (la 5) (10 * rl + k) v) := b.tr ⟨FL.rf.wI (Or.inl rfl), fun i hi => by rw [hI_sIla, if_neg (by omega)], fun i _ => by rw [hI_sIla, if_neg (by omega)], fun _ _ => rfl⟩
theorem FR.w6 {k : Nat} {v : Int} (b : FR rl h g) (hk : k < 2) : FR rl h (sI g (la 6) (2 * rl + k) v) := b.tr ⟨FL.rf.wI (Or.inr (Or.inl rfl)), fun i _ => by rw [hI_sIla, if_neg (by omega)], fun i hi => by rw [hI_sIla, if_neg (by omega)], fun _ _ => rfl⟩
theorem FR.w7 {k : Nat} {v : Int64} (b : FR rl h g) (h1 : 1 ≤ k) (hk : k < 12) : FR rl h (sL g (la 7) (13 * rl + k) v) := b.tr ⟨FL.rf.wL (Or.inr (Or.inr (Or.inl rfl))), fun _ _ => rfl, fun _ _ => rfl, fun i hi => by rw [hL_sLla, if_neg (by omega)]⟩
theorem FR.lr {r x : Nat} (F : FR rl h g) (hr : ¬ r = rl) (R : LR h Z r x) : LR g Z r x := by
  obtain ⟨r1, r2, r3, r4⟩ := R
  refine ⟨fun k hk => by rw [F.2.1 _ (by omega)]; exact r1 k hk, by rw [F.2.2.1 _ (by omega)]; exact r2, by rw [F.2.2.1 _ (by omega)]; exact r3, fun w h1 h2 => by rw [F.2.2.2 _ (by omega)]; exact r4 w h1 h2⟩
/-! a row's single changes -/
theorem LR.ver {v : Int} (R : LR h Z rl rz) : LR (sI h (la 6) (2 * rl) v) (zs Z 21 rz v) rl rz := by
  obtain ⟨r1, r2, r3, r4⟩ := R
  exact ⟨fun k hk => by rw [hI_sIla, if_neg (by omega)]; exact r1 k hk, by rw [hI_sIla, if_pos ⟨rfl, rfl⟩]; exact (zs_eq rfl rfl).symm, by rw [hI_sIla, if_neg (by omega)]; exact r3, fun w h1 h2 => r4 w h1 h2⟩
theorem LR.los {v : Int} (R : LR h Z rl rz) : LR (sI h (la 6) (2 * rl + 1) v) (zs Z 23 rz v) rl rz := by
  obtain ⟨r1, r2, r3, r4⟩ := R
  exact ⟨fun k hk => by rw [hI_sIla, if_neg (by omega)]; exact r1 k hk, by rw [hI_sIla, if_neg (by omega)]; exact r2, by rw [hI_sIla, if_pos ⟨rfl, rfl⟩]; exact (zs_eq rfl rfl).symm, fun w h1 h2 => r4 w h1 h2⟩
theorem LR.los0 {v : Int} (e : v = Z 23 rz) (R : LR h Z rl rz) : LR (sI h (la 6) (2 * rl + 1) v) Z rl rz := by
  obtain ⟨r1, r2, r3, r4⟩ := R
  exact ⟨fun k hk => by rw [hI_sIla, if_neg (by omega)]; exact r1 k hk, by rw [hI_sIla, if_neg (by omega)]; exact r2, by rw [hI_sIla, if_pos ⟨rfl, rfl⟩]; exact e, fun w h1 h2 => r4 w h1 h2⟩
theorem LR.val {k : Nat} {v : Int} (R : LR h Z rl rz) : LR (sI h (la 5) (10 * rl + k) v) (zs Z 22 (48 * rz + k) v) rl rz := by
  obtain ⟨r1, r2, r3, r4⟩ := R
  refine ⟨fun i hi => ?_, by rw [hI_sIla, if_neg (by omega)]; exact r2, by rw [hI_sIla, if_neg (by omega)]; exact r3, fun w h1 h2 => r4 w h1 h2⟩
  rw [hI_sIla]
  by_cases e : i = k
  · rw [if_pos ⟨rfl, by omega⟩]; exact (zs_eq (by omega) rfl).symm
  · rw [if_neg (by omega), zs_miss (by omega) rfl]; exact r1 i hi
theorem zbxv_o {w : Nat} (e24 : Y 24 (24 * rz + w) = Z 24 (24 * rz + w)) (e0 : Y 25 (2 * (24 * rz + w)) = Z 25 (2 * (24 * rz + w))) (e1 : Y 25 (2 * (24 * rz + w) + 1) = Z 25 (2 * (24 * rz + w) + 1)) : zbxv Y rz w = zbxv Z rz w := by
  unfold zbxv; rw [e24, e0, e1]
theorem LR.out (R : LR h Z rl rz) (h1 : 1 ≤ a) (h2 : a < 12) : LR (sL h (la 7) (13 * rl + a) (Int64.ofInt 0)) (zs Z 24 (24 * rz + a) 0) rl rz := by
  obtain ⟨r1, r2, r3, r4⟩ := R
  refine ⟨fun k hk => r1 k hk, r2, r3, fun w w1 w2 => ?_⟩
  rw [hL_sLla]
  by_cases e : w = a
  · subst e
    rw [if_pos ⟨rfl, rfl⟩]
    unfold zbxv
    rw [if_pos (zs_eq rfl rfl)]
  · rw [if_neg (by omega), r4 w w1 w2, zbxv_o (zs_miss (by omega) rfl) rfl rfl]
theorem LR.inn {s x y v : Int} (R : LR h Z rl rz) (h1 : 1 ≤ a) (h2 : a < 12) (hs : ¬ s = 0) (hv : v = s + 3 * (x + 1 + 10001 * (y + 1))) : LR (sL h (la 7) (13 * rl + a) (Int64.ofInt v)) (zs (zs (zs Z 24 (24 * rz + a) s) 25 (2 * (24 * rz + a)) x) 25 (2 * (24 * rz + a) + 1) y) rl rz := by
  obtain ⟨r1, r2, r3, r4⟩ := R
  refine ⟨fun k hk => r1 k hk, r2, r3, fun w w1 w2 => ?_⟩
  rw [hL_sLla]
  by_cases e : w = a
  · subst e
    rw [if_pos ⟨rfl, rfl⟩]
    unfold zbxv
    have e24 : (zs (zs (zs Z 24 (24 * rz + w) s) 25 (2 * (24 * rz + w)) x) 25 (2 * (24 * rz + w) + 1) y) 24 (24 * rz + w) = s := zs_ne rfl (zs_ne rfl (zs_eq rfl rfl))
    have e0 : (zs (zs (zs Z 24 (24 * rz + w) s) 25 (2 * (24 * rz + w)) x) 25 (2 * (24 * rz + w) + 1) y) 25 (2 * (24 * rz + w)) = x := zs_miss (by omega) (zs_eq rfl rfl)
    have e1 : (zs (zs (zs Z 24 (24 * rz + w) s) 25 (2 * (24 * rz + w)) x) 25 (2 * (24 * rz + w) + 1) y) 25 (2 * (24 * rz + w) + 1) = y := zs_eq rfl rfl
    rw [e24, e0, e1, if_neg hs, hv]
  · rw [if_neg (by omega), r4 w w1 w2, zbxv_o (zs_ne rfl (zs_ne rfl (zs_miss (by omega) rfl))) (zs_miss (by omega) (zs_miss (by omega) (zs_ne rfl rfl))) (zs_miss (by omega) (zs_miss (by omega) (zs_ne rfl rfl)))]
/-- a value, where there is a field -/
def wv (h : AH) (rl : Nat) (f x : Int) : AH := if f < 0 then h else sI h (la 5) (10 * rl + f.toNat) x
theorem FR.wv {f x : Int} (b : FR rl h g) (hf : f < 10) : FR rl h (wv g rl f x) := by
  unfold Jvm.Pilot.CFieldMigratorLaw_law_r9763_1955e4.wv
  split
  · exact b
  · exact b.w5 (by omega)
theorem LR.wv {f x : Int} (R : LR h Z rl rz) (hf : -1 ≤ f) : LR (wv h rl f x) (zv Z (rz : Int) f x) rl rz := by
  unfold Jvm.Pilot.CFieldMigratorLaw_law_r9763_1955e4.wv zv
  by_cases e : f = -1
  · rw [if_pos (by omega), if_pos e]; exact R
  · rw [if_neg (by omega), if_neg e, show (48 * (rz : Int) + f).toNat = 48 * rz + f.toNat by omega]; exact R.val
/-! bounds of a row's values -/
def sb (Z : ZT) (f x : Int) : Prop := -1 ≤ x ∧ x ≤ (if f = -1 then -1 else zmost (Z 3 f.toNat))
theorem sb.b {f x : Int} (k : sb Z f x) : -1 ≤ x ∧ x ≤ 9999 := by
  have b := zmost_b (Z 3 f.toNat)
  unfold sb at k
  split at k <;> omega
def VB (Z : ZT) (r : Nat) : Prop := (0 ≤ Z 21 r ∧ Z 21 r ≤ Z 1 0) ∧ (∀ k : Nat, k < 48 → -1 ≤ Z 22 (48 * r + k) ∧ ((k : Int) < Z 2 0 → Z 22 (48 * r + k) ≤ zmost (Z 3 k)) ∧ (Z 2 0 ≤ (k : Int) → Z 22 (48 * r + k) = -1))
  ∧ ∀ w : Nat, w < 24 → (0 ≤ Z 24 (24 * r + w) ∧ Z 24 (24 * r + w) ≤ 2) ∧ (¬ Z 24 (24 * r + w) = 0 → 1 ≤ w ∧ (w : Int) ≤ Z 1 0 ∧ ¬ Z 7 w = 1)
    ∧ (Z 24 (24 * r + w) = 1 → sb Z (Z 8 (2 * w)) (Z 25 (2 * (24 * r + w))) ∧ sb Z (Z 8 (2 * w + 1)) (Z 25 (2 * (24 * r + w) + 1)))
    ∧ (Z 24 (24 * r + w) = 2 → sb Z (Z 9 (2 * w)) (Z 25 (2 * (24 * r + w))) ∧ sb Z (Z 9 (2 * w + 1)) (Z 25 (2 * (24 * r + w) + 1)))
theorem VB.v {r : Nat} (B : VB Z r) : 0 ≤ Z 21 r ∧ Z 21 r ≤ Z 1 0 := B.1
theorem VB.x {r k : Nat} (B : VB Z r) (hk : k < 48) : -1 ≤ Z 22 (48 * r + k) ∧ ((k : Int) < Z 2 0 → Z 22 (48 * r + k) ≤ zmost (Z 3 k)) ∧ (Z 2 0 ≤ (k : Int) → Z 22 (48 * r + k) = -1) := B.2.1 k hk
theorem VB.w {r w : Nat} (B : VB Z r) (hw : w < 24) : (0 ≤ Z 24 (24 * r + w) ∧ Z 24 (24 * r + w) ≤ 2) ∧ (¬ Z 24 (24 * r + w) = 0 → 1 ≤ w ∧ (w : Int) ≤ Z 1 0 ∧ ¬ Z 7 w = 1)
    ∧ (Z 24 (24 * r + w) = 1 → sb Z (Z 8 (2 * w)) (Z 25 (2 * (24 * r + w))) ∧ sb Z (Z 8 (2 * w + 1)) (Z 25 (2 * (24 * r + w) + 1)))
    ∧ (Z 24 (24 * r + w) = 2 → sb Z (Z 9 (2 * w)) (Z 25 (2 * (24 * r + w))) ∧ sb Z (Z 9 (2 * w + 1)) (Z 25 (2 * (24 * r + w) + 1))) := B.2.2 w hw
/-- the box's number and what is read out of it -/
theorem bx_rd (B : VB Z rz) (ha : a < 24) : (0 ≤ zbxv Z rz a ∧ zbxv Z rz a < 400000000) ∧ (Z 24 (24 * rz + a) = 0 → zbxv Z rz a = 0) ∧ (¬ Z 24 (24 * rz + a) = 0 → 0 < zbxv Z rz a ∧ (zbxv Z rz a).tmod 3 = Z 24 (24 * rz + a) ∧ (0 ≤ (zbxv Z rz a).tdiv 3 ∧ (zbxv Z rz a).tdiv 3 < 200000000)
    ∧ ((zbxv Z rz a).tdiv 3).tmod 10001 = Z 25 (2 * (24 * rz + a)) + 1 ∧ (zbxv Z rz a).tdiv 30003 = Z 25 (2 * (24 * rz + a) + 1) + 1 ∧ (-1 ≤ Z 25 (2 * (24 * rz + a)) ∧ Z 25 (2 * (24 * rz + a)) ≤ 9999) ∧ (-1 ≤ Z 25 (2 * (24 * rz + a) + 1) ∧ Z 25 (2 * (24 * rz + a) + 1) ≤ 9999)) := by
  obtain ⟨b1, -, b2, b3⟩ := B.w ha
  by_cases e : Z 24 (24 * rz + a) = 0
  · have e0 : zbxv Z rz a = 0 := by unfold zbxv; rw [if_pos e]
    refine ⟨by omega, fun _ => e0, fun z => absurd e z⟩
  · have bb : (-1 ≤ Z 25 (2 * (24 * rz + a)) ∧ Z 25 (2 * (24 * rz + a)) ≤ 9999) ∧ (-1 ≤ Z 25 (2 * (24 * rz + a) + 1) ∧ Z 25 (2 * (24 * rz + a) + 1) ≤ 9999) := by
      by_cases e1 : Z 24 (24 * rz + a) = 1
      · exact ⟨(b2 e1).1.b, (b2 e1).2.b⟩
      · have e2 : Z 24 (24 * rz + a) = 2 := by omega
        exact ⟨(b3 e2).1.b, (b3 e2).2.b⟩
    have e0 : zbxv Z rz a = Z 24 (24 * rz + a) + 3 * (Z 25 (2 * (24 * rz + a)) + 1 + 10001 * (Z 25 (2 * (24 * rz + a) + 1) + 1)) := by unfold zbxv; rw [if_neg e]
    generalize Z 25 (2 * (24 * rz + a)) = c at *
    generalize Z 25 (2 * (24 * rz + a) + 1) = d at *
    generalize Z 24 (24 * rz + a) = s at *
    generalize zbxv Z rz a = X at *
    have hX : 0 ≤ X := by omega
    refine ⟨by omega, fun z => absurd z e, fun _ => ⟨by omega, ?_, ?_, ?_, ?_, bb⟩⟩
    · rw [tmd hX]; omega
    · rw [tdv hX]; omega
    · rw [tdv hX, tmd (by omega)]; omega
    · rw [tdv hX]; omega
end B0
