/-! ===== the reference's fresh model ===== -/
section S0x
variable {h : AH}
theorem Z00_m (h0 : ∀ n : Nm, n.1 < 3 → ∀ i, hI h n i = 0) : Z00 (zini (mget (iH h 49)) 4608) := by
  have q : ∀ n : Nm, n.1 < 3 → ∀ i, hI (iH h 49) n i = 0 := fun n hn i => by
    rw [hI_iH]
    split
    · rfl
    · exact h0 n hn i
  have z : ∀ j i, mget (iH h 49) j i = 0 := fun j i => by
    unfold mget
    split
    · exact q _ (by decide) _
    · exact q _ (show (2 : Nat) < 3 by decide) _
  refine ⟨fun j hj h5 i => ?_, fun i hi => ?_, fun i => ?_⟩
  · unfold zini; rw [if_neg (fun w => h5 w.1)]; exact z j i
  · unfold zini; rw [if_pos ⟨rfl, hi⟩]
  · unfold zini; split
    · omega
    · rw [z]; omega
end S0x
