/-! ===== a mover's step, in the model: the fields ===== -/
section G1
variable {Z Y : ZT} {r m i t : Nat} {u : Int}
/-- the step's state ahead of the move -/
abbrev zS2 (Z : ZT) (r i m : Nat) : ZT := zStp2 Z (r : Int) (24 * 0 + (i : Int)) (24 * (r : Int) + (i : Int)) (m : Int)
theorem zStp_e (h20 : Z 20 r = 0) (hi : zstA' Z (r : Int) (m : Int) = (i : Int)) (ht : Z 32 0 = (t : Int)) : zStp Z (r : Int) (m : Int) = zs (zs (zs (zcnt (zmv (zS2 Z r i m) (r : Int) 0 (i : Int) (bz (Z 21 r < Z 30 m))) (r : Int)) 35 t (zcnt (zmv (zS2 Z r i m) (r : Int) 0 (i : Int) (bz (Z 21 r < Z 30 m))) (r : Int) 26 r)) 31 m (t : Int)) 32 0 ((t : Int) + 1) := by
  unfold zStp zStp3
  rw [hi, ht, Int.toNat_natCast, Int.toNat_natCast, Int.toNat_natCast, h20]
theorem zS2_mq : MvQ (zS2 Z r i m) Z := fun j hj => by
  refine zStp2_o ?_
  unfold sj at hj
  simp only [Bool.or_eq_true, beq_iff_eq] at hj
  simp only [Bool.and_eq_true, bne_iff_ne, ne_eq]
  omega
theorem zStp_mq (h20 : Z 20 r = 0) (hi : zstA' Z (r : Int) (m : Int) = (i : Int)) (ht : Z 32 0 = (t : Int)) : MvQ (zStp Z (r : Int) (m : Int)) (zmv Z (r : Int) 0 (i : Int) (bz (Z 21 r < Z 30 m))) := fun j hj => by
  rw [zStp_e h20 hi ht]
  have n : ¬ j = 35 ∧ ¬ j = 31 ∧ ¬ j = 32 ∧ ¬ j = 26 ∧ ¬ j = 27 := by
    unfold sj at hj
    simp only [Bool.or_eq_true, beq_iff_eq] at hj
    omega
  unfold zcnt
  rw [zs_oj (beq_ne n.2.2.1), zs_oj (beq_ne n.2.1), zs_oj (beq_ne n.1), zs_oj (beq_ne n.2.2.2.1), zs_oj (beq_ne n.2.2.2.2)]
  exact (zS2_mq.mv) j hj
theorem zStp_oo (h20 : Z 20 r = 0) (hi : zstA' Z (r : Int) (m : Int) = (i : Int)) (ht : Z 32 0 = (t : Int)) : ∀ j, (j == 0 || j == 11 || j == 13 || j == 19 || j == 20 || j == 28 || j == 29 || j == 30) = true → zStp Z (r : Int) (m : Int) j = Z j := fun j hj => by
  rw [zStp_e h20 hi ht]
  simp only [Bool.or_eq_true, beq_iff_eq] at hj
  unfold zcnt
  rcases hj with ((((((rfl | rfl) | rfl) | rfl) | rfl) | rfl) | rfl) | rfl <;> (rw [zs_oj rfl, zs_oj rfl, zs_oj rfl, zs_oj rfl, zs_oj rfl, zmv_o rfl]; exact zStp2_o rfl)
end G1
