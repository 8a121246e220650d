/-! ===== the model's small methods ===== -/
section M1
variable {Q : AH → AO → Prop} {h : AH} {Z : ZT}
set_option maxRecDepth 100000 in
theorem kX8_lies {v a b : Int} (k : Q h (.inl (some (vi (if a ≤ v ∧ v ≤ b then 1 else 0))))) : AC mX8_lies 0 0 0 0 h [vi v, vi a, vi b] Q := by
  refine AC.mk (by decide) (Nat.le_of_ble_eq_true rfl) ?_
  refine AW.iload_n dX8_lies_0 rfl ?_
  refine AW.iload_n dX8_lies_1 rfl ?_
  apply AW.icmp_ltJ 15 (tgt := 14) dX8_lies_2 rfl
  · intro c_2 k_2
    refine AW.iconst dX8_lies_14 (by decide) ?_
    exact k_2
  · intro c_2 k_2
    refine AW.iload_n dX8_lies_5 rfl ?_
    refine AW.iload_n dX8_lies_6 rfl ?_
    apply AW.icmp_gtJ 15 (tgt := 14) dX8_lies_7 rfl
    · intro c_7 k_7
      refine AW.iconst dX8_lies_14 (by decide) ?_
      exact k_7
    · intro c_7 k_7
      refine AW.iconst dX8_lies_10 (by decide) ?_
      refine AW.goto (tgt := 15) dX8_lies_11 rfl ?_
      exact k_7
    exact k_2
  refine AW.zret dX8_lies_15 rfl ?_ ?_
  · (repeat' split) <;> simp
  refine fin1 k rfl ?_
  (repeat' split) <;> omega
set_option maxRecDepth 100000 in
theorem kX8_place {s a f : Int} (hb : 0 ≤ s ∧ s ≤ 4 ∧ 0 ≤ a ∧ a ≤ 24 ∧ -1 ≤ f ∧ f ≤ 48) (k : Q h (.inl (some (vi (48 * (24 * s + a) + f))))) : AC mX8_place 0 0 0 0 h [vi s, vi a, vi f] Q := by
  refine AC.mk (by decide) (Nat.le_of_ble_eq_true rfl) ?_
  refine AW.bipush dX8_place_0 bp_48 (by decide) ?_
  refine AW.bipush dX8_place_2 bp_24 (by decide) ?_
  refine AW.iload_n dX8_place_4 rfl ?_
  refine AW.imulB dX8_place_5 (by omega) ?_
  refine AW.iload_n dX8_place_6 rfl ?_
  refine AW.iaddB dX8_place_7 (by omega) ?_
  refine AW.imulB dX8_place_8 (by omega) ?_
  refine AW.iload_n dX8_place_9 rfl ?_
  refine AW.iaddB dX8_place_10 (by omega) ?_
  refine AW.iret dX8_place_11 rfl ?_
  exact k
end M1
