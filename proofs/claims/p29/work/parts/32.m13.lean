/-! ===== the model: over one step ===== -/
section M13
variable {Q : AH → AO → Prop} {h : AH} {Z : ZT}
def zfr (Z : ZT) (p j : Int) : Int := Z 8 (2 * p + j).toNat
def zbe (Z : ZT) (p j : Int) : Int := Z 9 (2 * p + j).toNat
def zned (Z : ZT) (s a f v : Int) : Int := if v = -1 ∧ ¬ f = -1 ∧ ¬ Z 6 (48 * (24 * s + a) + f).toNat = 0 then Z 4 (48 * s + f).toNat else v
def zkof (Z : ZT) (s f : Int) : Int := if f = -1 then 0 else Z 3 (48 * s + f).toNat
def zU0r (Z : ZT) (s a x y : Int) : Int :=
  if Z 7 (24 * s + a).toNat = 0 then Z 4 (48 * s + zbe Z (24 * s + a) 0).toNat
  else if Z 7 (24 * s + a).toNat = 2 then ztur x (zkof Z s (zfr Z (24 * s + a) 0)) (zkof Z s (zbe Z (24 * s + a) 0))
  else if Z 7 (24 * s + a).toNat = 3 then (if x = -1 then -1 else x.tdiv (Z 10 (24 * s + a).toNat))
  else if Z 7 (24 * s + a).toNat = 4 then zjoi x y (Z 10 (24 * s + a).toNat)
  else if Z 7 (24 * s + a).toNat = 6 then x else -1
def zU1r (Z : ZT) (s a x : Int) : Int := if Z 7 (24 * s + a).toNat = 3 ∧ ¬ x = -1 then x.tmod (Z 10 (24 * s + a).toNat) else -1
def zU0 (Z : ZT) (s a x y : Int) : Int := if Z 7 (24 * s + a).toNat = 1 then -1 else zned Z s a (zbe Z (24 * s + a) 0) (zU0r Z s a x y)
def zU1 (Z : ZT) (s a x : Int) : Int := zned Z s a (zbe Z (24 * s + a) 1) (zU1r Z s a x)
def zD0r (Z : ZT) (s a x y : Int) : Int :=
  if Z 7 (24 * s + a).toNat = 2 then ztur x (zkof Z s (zbe Z (24 * s + a) 0)) (zkof Z s (zfr Z (24 * s + a) 0))
  else if Z 7 (24 * s + a).toNat = 3 then zjoi x y (Z 10 (24 * s + a).toNat)
  else if Z 7 (24 * s + a).toNat = 4 then (if x = -1 then -1 else x.tdiv (Z 10 (24 * s + a).toNat))
  else if Z 7 (24 * s + a).toNat = 6 then x else -1
def zD1r (Z : ZT) (s a x : Int) : Int := if Z 7 (24 * s + a).toNat = 4 ∧ ¬ x = -1 then x.tmod (Z 10 (24 * s + a).toNat) else -1
def zD0 (Z : ZT) (s a x y : Int) : Int := if Z 7 (24 * s + a).toNat = 1 then -1 else zned Z s (a - 1) (zfr Z (24 * s + a) 0) (zD0r Z s a x y)
def zD1 (Z : ZT) (s a x : Int) : Int := zned Z s (a - 1) (zfr Z (24 * s + a) 1) (zD1r Z s a x)
/-- a step that can be gone -/
def stp (Z : ZT) (p : Int) : Prop := (Z 7 p.toNat = 0 → 0 ≤ Z 9 (2 * p).toNat) ∧ (Z 7 p.toNat = 3 ∨ Z 7 p.toNat = 4 → 0 < Z 10 p.toNat)
theorem zs43 {t : Nat → Int} {a b c d : Int} : ∃ t', t' 0 = c ∧ t' 1 = d ∧ zs (zs (zs (zs (zrow Z 43 t) 43 0 a) 43 1 b) 43 0 c) 43 1 d = zrow Z 43 t' := by
  refine ⟨fun q => if q = 1 then d else if q = 0 then c else t q, rfl, rfl, ?_⟩
  rw [zs_zrow, zs_zrow, zs_zrow, zs_zrow]
  congr 1
  funext q
  by_cases e : q = 1
  · simp [e]
  · by_cases e2 : q = 0
    · simp [e2]
    · simp [e, e2]
def zG0 (Z : ZT) (u s a x y : Int) : Int := if u = 0 then zD0 Z s a x y else zU0 Z s a x y
def zG1 (Z : ZT) (u s a x : Int) : Int := if u = 0 then zD1 Z s a x else zU1 Z s a x
def zon (Z : ZT) (p u j : Int) : Int := if Z 7 p.toNat = 1 then -1 else if u = 0 then zbe Z p j else zfr Z p j
end M13
