/-! ===== the relation: the face: renew ===== -/
section N1
variable {Q : AH → AO → Prop} {h g G : AH} {Z Y X : ZT} {c q s k : Nat} {A : Nat → Nat}
theorem zbeg_o2 {s a f w : Int} {j : Nat} (hj : (j != 1 && j != 5 && j != 6 && j != 7 && j != 8 && j != 9) = true) : zbeg Z s a f w j = Z j := by
  simp only [Bool.and_eq_true, bne_iff_ne, ne_eq] at hj
  obtain ⟨⟨⟨⟨⟨a1, a5⟩, a6⟩, a7⟩, a8⟩, a9⟩ := hj
  unfold zbeg
  rw [zs_oj (beq_ne a9), zs_oj (beq_ne a9), zs_oj (beq_ne a8), zs_oj (beq_ne a8), zs_oj (beq_ne a7), zs_oj (beq_ne a1)]
  funext i
  unfold zcp
  rw [if_neg (by omega)]
theorem zdo_o2 {s f : Int} {j : Nat} (hj : (j != 1 && j != 5 && j != 6 && j != 7 && j != 8 && j != 9) = true) : zdo Z s f j = Z j := by
  have hj2 := hj
  simp only [Bool.and_eq_true, bne_iff_ne, ne_eq] at hj2
  unfold zdo
  rw [zs_oj (beq_ne hj2.1.2), zs_oj (beq_ne hj2.1.1.1.1.2), zbeg_o2 hj]
theorem zlaS_o {s : Int} {j : Nat} (hj : (j != 1 && j != 5 && j != 6 && j != 7 && j != 8 && j != 9) = true) (h12 : ¬ j = 12) : ∀ i : Nat, (zlaS Z s i).1 j = Z j
  | 0 => rfl
  | i + 1 => by
    unfold zlaS
    split
    · show zdo _ _ _ j = _; rw [zdo_o2 hj]; exact zlaS_o hj h12 i
    · show zs _ _ _ _ j = _; rw [zs_oj (beq_ne h12)]; exact zlaS_o hj h12 i
theorem zla_o {s : Int} {j : Nat} (hj : (j != 1 && j != 5 && j != 6 && j != 7 && j != 8 && j != 9) = true) (h12 : ¬ j = 12) (h11 : ¬ j = 11) : zla Z s j = Z j := by
  unfold zla
  rw [zs_oj (beq_ne h11)]; exact zlaS_o hj h12 _
end N1
