/-! ===== the model: a row moves over one step ===== -/
section M14
variable {Q : AH → AO → Prop} {h : AH} {Z : ZT} {mc ms bc bs : Nat}
def z3 (Z : ZT) (t u w : Nat → Int) : ZT := zrow (zrow (zrow Z 45 w) 44 u) 43 t
theorem zs_z3 {t u w : Nat → Int} {j i : Nat} {v : Int} (hj : Nat.beq j 43 = false) (hj' : Nat.beq j 44 = false) (hj2 : Nat.beq j 45 = false) : zs (z3 Z t u w) j i v = z3 (zs Z j i v) t u w := by
  unfold z3; rw [zs_zrow_c hj, zs_zrow_c hj', zs_zrow_c hj2]
theorem zs_z3b {t u w : Nat → Int} {i : Nat} {v : Int} : zs (z3 Z t u w) 44 i v = z3 Z t (fun q => if q = i then v else u q) w := by
  unfold z3; rw [zs_zrow_c rfl, zs_zrow]
theorem zs_z3c {t u w : Nat → Int} {i : Nat} {v : Int} : zs (z3 Z t u w) 45 i v = z3 Z t u (fun q => if q = i then v else w q) := by
  unfold z3; rw [zs_zrow_c rfl, zs_zrow_c rfl, zs_zrow]
theorem z3_self : z3 Z (Z 43) (Z 44) (Z 45) = Z := by
  unfold z3; rw [zrow_self]
  rw [show zrow Z 44 (Z 44) = Z from zrow_self]; exact zrow_self
def nu (u : Int) : Int := if u = 0 then 1 else 0
def zv (Z : ZT) (r f x : Int) : ZT := if f = -1 then Z else zs Z 22 (48 * r + f).toNat x
theorem zon_zv {r f x p u j : Int} : zon (zv Z r f x) p u j = zon Z p u j := by unfold zv; split <;> rfl
theorem zv_z3 {t u w : Nat → Int} {r f x : Int} : zv (z3 Z t u w) r f x = z3 (zv Z r f x) t u w := by
  unfold zv; split
  · rfl
  · exact zs_z3 rfl rfl rfl
def zmvE (Z : ZT) (r a u s r0 r1 : Int) : ZT :=
  zs (zv (zv (zv (zv Z r (zon Z (24 * s + a) u 0) (-1)) r (zon Z (24 * s + a) u 1) (-1)) r (zon Z (24 * s + a) (nu u) 0) r0) r (zon Z (24 * s + a) (nu u) 1) r1) 21 r.toNat (if u = 0 then a - 1 else a)
theorem zon_rng (B : BB Z) {p u j : Int} : -1 ≤ zon Z p u j ∧ zon Z p u j < 48 := by
  unfold zon; split
  · omega
  · split
    · exact (B _).2
    · exact (B _).1
def zmvD (Z : ZT) (s a q u l0 l1 r0 r1 : Int) : ZT :=
  if zG0 Z (nu u) s a r0 r1 = l0 ∧ zG1 Z (nu u) s a r0 = l1 then Z else zs (zs (zs Z 24 q.toNat (if u = 0 then 2 else 1)) 25 (2 * q).toNat l0) 25 (2 * q + 1).toNat l1
theorem BB_zs {j i : Nat} {v : Int} (hj : (j != 8 && j != 9) = true) (B : BB Z) : BB (zs Z j i v) := by
  have e : ∀ j', (j' == 8 || j' == 9) = true → zs Z j i v j' = Z j' := by
    intro j' hj'
    funext q
    unfold zs
    rw [if_neg]
    rintro ⟨rfl, -⟩
    revert hj hj'
    simp only [Bool.or_eq_true, beq_iff_eq, Bool.and_eq_true, bne_iff_ne]
    omega
  unfold BB; rw [e 8 rfl, e 9 rfl]; exact B
theorem zs_z3_3 {t l w : Nat → Int} {i i2 i3 : Nat} {v v2 v3 : Int} : zs (zs (zs (zrow (zrow (zrow Z 45 w) 44 l) 43 t) 24 i v) 25 i2 v2) 25 i3 v3 = z3 (zs (zs (zs Z 24 i v) 25 i2 v2) 25 i3 v3) t l w := by
  show zs (zs (zs (z3 Z t l w) 24 i v) 25 i2 v2) 25 i3 v3 = _
  rw [zs_z3 rfl rfl rfl, zs_z3 rfl rfl rfl, zs_z3 rfl rfl rfl]
abbrev zbk (Z : ZT) (s a q u l0 l1 : Int) : Prop := zG0 Z (nu u) s a (Z 25 (2 * q).toNat) (Z 25 (2 * q + 1).toNat) = l0 ∧ zG1 Z (nu u) s a (Z 25 (2 * q).toNat) = l1
def zmvC (Z : ZT) (r s a q u l0 l1 g0 g1 : Int) : ZT × Int × Int :=
  if Z 24 q.toNat = (if u = 0 then 1 else 2) then
    (if zbk Z s a q u l0 l1 then (zs Z 24 q.toNat 0, Z 25 (2 * q).toNat, Z 25 (2 * q + 1).toNat) else (zs (zs Z 24 q.toNat 0) 23 r.toNat (wr (Z 23 r.toNat + 1)), g0, g1))
  else (Z, g0, g1)
theorem zs_z3_4 {t l w : Nat → Int} {v v2 : Int} : zs (zs (zrow (zrow (zrow Z 45 w) 44 l) 43 t) 45 (Int.toNat 0) v) 45 (Int.toNat 1) v2 = z3 Z t l (fun q => if q = 1 then v2 else if q = 0 then v else w q) := by
  show zs (zs (z3 Z t l w) 45 0 v) 45 1 v2 = _
  rw [zs_z3c, zs_z3c]
theorem zs_z3_5 {t l w : Nat → Int} {i : Nat} {v : Int} : zs (zrow (zrow (zrow Z 45 w) 44 l) 43 t) 23 i v = z3 (zs Z 23 i v) t l w := by
  show zs (z3 Z t l w) 23 i v = _
  rw [zs_z3 rfl rfl rfl]
def zL (Z : ZT) (r u p j : Int) : Int := if zon Z p u j = -1 then -1 else Z 22 (48 * r + zon Z p u j).toNat
def zmv (Z : ZT) (r s a u : Int) : ZT :=
  let l0 := zL Z r u (24 * s + a) 0
  let l1 := zL Z r u (24 * s + a) 1
  let C := zmvC Z r s a (24 * r + a) u l0 l1 (zG0 Z u s a l0 l1) (zG1 Z u s a l0)
  zmvE (zmvD C.1 s a (24 * r + a) u l0 l1 C.2.1 C.2.2) r a u s C.2.1 C.2.2
end M14
