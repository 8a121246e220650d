/-! ===== a mover's step, in the model ===== -/
section G0
variable {Z Y : ZT} {r s a u q p l0 l1 g0 g1 r0 r1 : Int}
/-- schema and rows agree -/
def MvQ (Y Z : ZT) : Prop := ∀ j, (sj j || j == 21 || j == 22 || j == 23 || j == 24 || j == 25) = true → Y j = Z j
theorem MvQ.sj (E : MvQ Y Z) : ∀ j, Jvm.Pilot.CFieldMigratorLaw_law_r9763_1955e4.sj j = true → Y j = Z j := fun j hj => E j (by rw [hj]; rfl)
theorem MvQ.zz {k i : Nat} {v : Int} (E : MvQ Y Z) : MvQ (zs Y k i v) (zs Z k i v) := fun j hj => by
  funext x
  unfold zs
  rw [E j hj]
theorem MvQ.zv {f x : Int} (E : MvQ Y Z) : MvQ (zv Y r f x) (zv Z r f x) := by
  unfold Jvm.Pilot.CFieldMigratorLaw_law_r9763_1955e4.zv
  split
  · exact E
  · exact E.zz
theorem MvQ.on {j : Int} (E : MvQ Y Z) : zon Y p u j = zon Z p u j := by
  unfold zon zfr zbe
  rw [E 7 rfl, E 8 rfl, E 9 rfl]
theorem MvQ.L {j : Int} (E : MvQ Y Z) : zL Y r u p j = zL Z r u p j := by
  unfold zL
  rw [E.on, E 22 rfl]
theorem MvQ.C (E : MvQ Y Z) : MvQ (zmvC Y r 0 a q u l0 l1 g0 g1).1 (zmvC Z r 0 a q u l0 l1 g0 g1).1 ∧ (zmvC Y r 0 a q u l0 l1 g0 g1).2 = (zmvC Z r 0 a q u l0 l1 g0 g1).2 := by
  unfold zmvC zbk
  rw [zG0_y E.sj, zG1_y E.sj, E 24 rfl, E 25 rfl, E 23 rfl]
  by_cases c1 : Z 24 q.toNat = (if u = 0 then 1 else 2)
  · rw [if_pos c1, if_pos c1]
    by_cases c2 : zG0 Z (nu u) 0 a (Z 25 (2 * q).toNat) (Z 25 (2 * q + 1).toNat) = l0 ∧ zG1 Z (nu u) 0 a (Z 25 (2 * q).toNat) = l1
    · rw [if_pos c2, if_pos c2]; exact ⟨E.zz, rfl⟩
    · rw [if_neg c2, if_neg c2]; exact ⟨E.zz.zz, rfl⟩
  · rw [if_neg c1, if_neg c1]; exact ⟨E, rfl⟩
theorem MvQ.D (E : MvQ Y Z) : MvQ (zmvD Y 0 a q u l0 l1 r0 r1) (zmvD Z 0 a q u l0 l1 r0 r1) := by
  unfold zmvD
  rw [zG0_y E.sj, zG1_y E.sj]
  split
  · exact E
  · exact E.zz.zz.zz
theorem MvQ.E (E : MvQ Y Z) : MvQ (zmvE Y r a u 0 r0 r1) (zmvE Z r a u 0 r0 r1) := by
  unfold zmvE
  rw [E.on, E.on, E.on, E.on]
  exact E.zv.zv.zv.zv.zz
theorem MvQ.mv (E : MvQ Y Z) : MvQ (zmv Y r 0 a u) (zmv Z r 0 a u) := by
  unfold zmv
  dsimp only
  rw [E.L, E.L, zG0_y E.sj, zG1_y E.sj]
  generalize zL Z r u (24 * 0 + a) 0 = x0
  generalize zL Z r u (24 * 0 + a) 1 = x1
  have c := E.C (r := r) (a := a) (q := 24 * r + a) (u := u) (l0 := x0) (l1 := x1) (g0 := zG0 Z u 0 a x0 x1) (g1 := zG1 Z u 0 a x0)
  rw [c.2]
  exact c.1.D.E
end G0
