/-! ===== the fresh model is sound ===== -/
section O1
variable {Z : ZT}
theorem NZ_0 (Z0 : Z00 Z) : NZ Z := by
  have z := fun j hj h5 i => Z0.1 j hj h5 i
  refine ⟨fun s hs _ => ⟨z 1 (by decide) (by decide) s, z 2 (by decide) (by decide) s, z 11 (by decide) (by decide) s, fun v f hv hf => Z0.2.1 _ (by omega)⟩, fun g _ _ => ⟨z 16 (by decide) (by decide) g, fun f _ => z 17 (by decide) (by decide) _⟩, fun r _ _ => ⟨z 23 (by decide) (by decide) r, fun w _ => z 24 (by decide) (by decide) _⟩⟩
theorem NQ_0 (Z0 : Z00 Z) : NQ Z := by
  intro s v hs h1 h2
  rw [Z0.1 1 (by decide) (by decide) s] at h2
  omega
set_option maxHeartbeats 1000000 in
theorem ZB_0 (Z0 : Z00 Z) : ZB Z := by
  have z := fun j hj h5 i => Z0.1 j hj h5 i
  have z1 := z 1 (by decide) (by decide)
  have z2 := z 2 (by decide) (by decide)
  refine ⟨⟨⟨?_, ?_⟩, ?_, ?_, ⟨?_, ?_⟩, ?_, ?_⟩, ?_, ?_, ?_, ?_, ?_, ?_, ?_⟩
  · rw [z 0 (by decide) (by decide)]; omega
  · intro s hs; rw [z1, z2, z 11 (by decide) (by decide)]; omega
  · intro j hm i
    refine Or.inl (z j ?_ ?_ i)
    · exact Classical.byContradiction (fun y => by
        unfold mkd at hm
        split at hm <;> omega)
    · rintro rfl; exact absurd hm (by decide)
  · intro i; rw [z 8 (by decide) (by decide), z 9 (by decide) (by decide)]; omega
  · rw [z 13 (by decide) (by decide)]; omega
  · intro g hg; rw [z 14 (by decide) (by decide), z 15 (by decide) (by decide), z1]; omega
  · intro i; rw [z 12 (by decide) (by decide)]; omega
  · intro s hs; rw [z1, z2]; omega
  · unfold BR; simp only [z 19 (by decide) (by decide), z 20 (by decide) (by decide), z 21 (by decide) (by decide), z1]; exact ⟨by omega, fun r hr => by omega⟩
  · intro s h1 h2 a ha hb; rw [z1] at hb; omega
  · unfold BM; simp only [z 28 (by decide) (by decide), z 29 (by decide) (by decide), z 30 (by decide) (by decide), z1]; exact ⟨by omega, fun r hr => by omega⟩
  · unfold BL; simp only [z 31 (by decide) (by decide), z 34 (by decide) (by decide), z 37 (by decide) (by decide)]; exact ⟨fun m _ => by omega, fun m _ => by omega⟩
  · exact Z0.2.2
  · intro i; rw [z 3 (by decide) (by decide)]; omega
  · intro s a h1 h2 h3 h4; rw [z1] at h4; omega
end O1
