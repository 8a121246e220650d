/-! ===== the start: the first heap, told by names ===== -/
section LY2
variable {s : State} {args : Array Value}
def h0T (L : Nat) (n : Nm) : Option (Nat × Nat) := if n = nS then some (40, L) else if n.1 = 98 ∧ n.2.1 < 7 ∧ n.2.2 = 0 then some (41 + n.2.1, 0) else if n.1 = 98 ∧ n.2.1 < 7 ∧ n.2.2 = 1 then some (51 + n.2.1, wln.getD n.2.1 0) else none
def h00 (L : Nat) (xs : Nat → Int32) : AH := (h0T L, (fun n i => if n = nS then (xs i).toInt else 0), (fun _ _ => 0), (fun _ _ => none))
theorem h0T_x {L : Nat} {n : Nm} (h : ¬ h0T L n = none) : n = nS ∨ ∃ i, i < 7 ∧ (n = nWs i ∨ n = nWb i) := by
  unfold h0T at h
  by_cases z : n = nS
  · exact Or.inl z
  rw [if_neg z] at h
  obtain ⟨a, i, x⟩ := n
  by_cases z1 : a = 98 ∧ i < 7 ∧ x = 0
  · obtain ⟨rfl, hi, rfl⟩ := z1
    exact Or.inr ⟨i, hi, Or.inl rfl⟩
  rw [if_neg z1] at h
  by_cases z2 : a = 98 ∧ i < 7 ∧ x = 1
  · obtain ⟨rfl, hi, rfl⟩ := z2
    exact Or.inr ⟨i, hi, Or.inr rfl⟩
  rw [if_neg z2] at h
  exact absurd rfl h
theorem h0T_s {L : Nat} : h0T L nS = some (40, L) := if_pos rfl
theorem nWs_S {i : Nat} : ¬ nWs i = nS := fun z => by cases z
theorem nWb_S {i : Nat} : ¬ nWb i = nS := fun z => by cases z
theorem h0T_w {L i : Nat} (hi : i < 7) : h0T L (nWs i) = some (41 + i, 0) := by
  unfold h0T; rw [if_neg nWs_S, if_pos ⟨rfl, hi, rfl⟩]
theorem h0T_b {L i : Nat} (hi : i < 7) : h0T L (nWb i) = some (51 + i, wln.getD i 0) := by
  unfold h0T; rw [if_neg nWb_S, if_neg (fun z => absurd (show (1 : Nat) = 0 from z.2.2) (by decide)), if_pos ⟨rfl, hi, rfl⟩]
def al0 (b : Nat) (dA : Nat → ClassId) (n : Nm) : Nat := if n = nS then b else dA (if n.2.2 = 0 then 100 + n.2.1 else 110 + n.2.1)
theorem al0_s {b : Nat} {dA : Nat → ClassId} : al0 b dA nS = b := if_pos rfl
theorem al0_w {b i : Nat} {dA : Nat → ClassId} : al0 b dA (nWs i) = dA (100 + i) := by unfold al0; rw [if_neg nWs_S, if_pos rfl]
theorem al0_b {b i : Nat} {dA : Nat → ClassId} : al0 b dA (nWb i) = dA (110 + i) := by unfold al0; rw [if_neg nWb_S, if_neg (fun z => absurd (show (1 : Nat) = 0 from z) (by decide))]
theorem rel_0 {b L : Nat} {xs : Nat → Int32} {D : va_G} {dA : Nat → ClassId} (S : SW (args := args) s b dA) (hX : va_X b L xs s s.heap) (hb : b < s.heap.size) : RelH s D dA s.heap.size (al0 b dA) (h00 L xs) s.heap := by
  refine ⟨fun n => ?_, fun n m hn hm e => ?_, fun n i => ?_, fun n i m z => by cases z⟩
  · by_cases hn : h0T L n = none
    · unfold relC
      rw [show hT (h00 L xs) n = none from hn]
      trivial
    rcases h0T_x hn with rfl | ⟨i, hi, rfl | rfl⟩
    · unfold relC
      rw [show hT (h00 L xs) nS = some (40, L) from h0T_s]
      dsimp only
      rw [if_neg (by decide), if_neg (by decide), if_pos (by decide), al0_s]
      refine ⟨hb, ?_⟩
      rw [show (fun j => Int32.ofInt (hI (h00 L xs) nS j)) = xs from funext fun j => by show Int32.ofInt (if nS = nS then (xs j).toInt else 0) = xs j; rw [if_pos rfl]; exact Int32.ofInt_toInt _]
      exact hX
    · unfold relC
      rw [show hT (h00 L xs) (nWs i) = some (41 + i, 0) from h0T_w (L := L) hi]
      dsimp only
      obtain ⟨cell, x1, -⟩ := (S.1 i hi).1
      rw [if_neg (by omega), if_neg (by omega), if_neg (by omega), al0_w (b := b) (i := i) (dA := dA), show 41 + i + 59 = 100 + i by omega]
      exact ⟨(Array.getElem?_eq_some_iff.mp x1).1, rfl, cell, x1⟩
    · unfold relC
      rw [show hT (h00 L xs) (nWb i) = some (51 + i, wln.getD i 0) from h0T_b (L := L) hi]
      dsimp only
      obtain ⟨cell, x1, -⟩ := (S.1 i hi).2.2.2
      rw [if_neg (by omega), if_neg (by omega), if_neg (by omega), al0_b (b := b) (i := i) (dA := dA), show 51 + i + 59 = 110 + i by omega]
      exact ⟨(Array.getElem?_eq_some_iff.mp x1).1, rfl, cell, x1⟩
  · rcases h0T_x hn with rfl | ⟨i, hi, rfl | rfl⟩ <;> rcases h0T_x hm with rfl | ⟨j, hj, rfl | rfl⟩
    · rfl
    · rw [al0_s, al0_w] at e; exact absurd e (S.2.2.1 j hj).1
    · rw [al0_s, al0_b] at e; exact absurd e (S.2.2.1 j hj).2
    · rw [al0_s, al0_w] at e; exact absurd e.symm (S.2.2.1 i hi).1
    · rw [al0_w, al0_w] at e
      rw [wf_kk hi hj (S.1 i hi) (by rw [e]; exact S.1 j hj)]
    · rw [al0_w, al0_b] at e; exact absurd e (S.2.1 i j hi hj)
    · rw [al0_s, al0_b] at e; exact absurd e.symm (S.2.2.1 i hi).2
    · rw [al0_w, al0_b] at e; exact absurd e.symm (S.2.1 j i hj hi)
    · rw [al0_b, al0_b] at e
      rw [wf_vv hi hj (S.1 i hi) (by rw [e]; exact S.1 j hj)]
  · show inR (if n = nS then (xs i).toInt else 0)
    split
    · exact ⟨Int32.le_toInt _, Int32.toInt_lt _⟩
    · exact ⟨by decide, by decide⟩
end LY2
