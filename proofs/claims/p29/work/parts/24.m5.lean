/-! ===== the model: traces and drops ===== -/
section M5
variable {Q : AH → AO → Prop} {h : AH} {Z : ZT}
def zrow (Z : ZT) (j0 : Nat) (t : Nat → Int) : ZT := fun j i => if j = j0 then t i else Z j i
theorem zrow_e {j i : Nat} {t : Nat → Int} {x : Int} (k : t i = x) : zrow Z j t j i = x := by unfold zrow; rw [if_pos rfl, k]
theorem zrow_ne {j0 j i : Nat} {t : Nat → Int} {x : Int} (hj : Nat.beq j j0 = false) (k : Z j i = x) : zrow Z j0 t j i = x := by
  unfold zrow
  rw [if_neg, k]
  rintro rfl
  simp at hj
theorem zs_zrow {j i : Nat} {t : Nat → Int} {v : Int} : zs (zrow Z j t) j i v = zrow Z j (fun q => if q = i then v else t q) := by
  funext a b
  unfold zs zrow
  by_cases e : a = j
  · subst e; simp
  · simp [e]
theorem zrow_self {j : Nat} : zrow Z j (Z j) = Z := by
  funext a b
  unfold zrow
  split
  · next e => rw [e]
  · rfl
theorem zrow_zrow {j : Nat} {t t' : Nat → Int} : zrow (zrow Z j t) j t' = zrow Z j t' := by
  funext a b
  unfold zrow
  split <;> rfl
def tset (t : Nat → Int) (i : Int) (v : Int) : Nat → Int := fun q => if q = i.toNat then v else t q
/-- fields in front and behind are fields or none -/
def BB (Z : ZT) : Prop := ∀ i, (-1 ≤ Z 8 i ∧ Z 8 i < 48) ∧ (-1 ≤ Z 9 i ∧ Z 9 i < 48)
/-- over one step -/
def zh0 (f0 : Int) (t : Nat → Int) : Int := bz (¬ f0 = -1 ∧ ¬ t f0.toNat = 0)
def zt1 (f0 : Int) (t : Nat → Int) : Nat → Int := if f0 = -1 then t else tset t f0 0
def zh1 (f0 f1 : Int) (t : Nat → Int) : Int := if ¬ zh0 f0 t = 0 then 1 else zh0 f1 (zt1 f0 t)
def zt2 (f0 f1 : Int) (t : Nat → Int) : Nat → Int := zt1 f1 (zt1 f0 t)
def ztb (hs b : Int) (t : Nat → Int) : Nat → Int := if hs = 0 ∨ b = -1 then t else tset t b 1
def zfs (Z : ZT) (p : Int) (t : Nat → Int) : Nat → Int :=
  if 2 ≤ Z 7 p.toNat ∧ Z 7 p.toNat ≤ 5 then
    ztb (zh1 (Z 8 (2 * p).toNat) (Z 8 (2 * p + 1).toNat) t) (Z 9 (2 * p + 1).toNat) (ztb (zh1 (Z 8 (2 * p).toNat) (Z 8 (2 * p + 1).toNat) t) (Z 9 (2 * p).toNat) (zt2 (Z 8 (2 * p).toNat) (Z 8 (2 * p + 1).toNat) t))
  else t
def zfo (Z : ZT) (s a : Int) (t : Nat → Int) : Nat → Nat → Int
  | 0 => t
  | m + 1 => zfs Z (24 * s + (a + 1 + (m : Int))) (zfo Z s a t m)
end M5
