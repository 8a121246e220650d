/-! ===== the relation: the face: renew ===== -/
section N1
variable {Q : AH → AO → Prop} {h g G : AH} {Z Y X : ZT} {c q s k : Nat} {A : Nat → Nat}
theorem zbeg_o2 {s a f w : Int} {j : Nat} (hj : (j != 1 && j != 5 && j != 6 && j != 7 && j != 8 && j != 9) = true) : zbeg Z s a f w j = Z j := by
  simp only [Bool.and_eq_true, bne_iff_ne, ne_eq] at hj
  obtain ⟨⟨⟨⟨⟨a1, a5⟩, a6⟩, a7⟩, a8⟩, a9⟩ := hj
  unfold zbeg
  rw [zs_oj (beq_ne a9), zs_oj (beq_ne a9), zs_oj (beq_ne a8), zs_oj (beq_ne a8), zs_oj (beq_ne a7), zs_oj (beq_ne a1)]
  funext i
  unfold zcp
  rw [if_neg (by omega)]
theorem zdo_o2 {s f : Int} {j : Nat} (hj : (j != 1 && j != 5 && j != 6 && j != 7 && j != 8 && j != 9) = true) : zdo Z s f j = Z j := by
  have hj2 := hj
  simp only [Bool.and_eq_true, bne_iff_ne, ne_eq] at hj2
  unfold zdo
  rw [zs_oj (beq_ne hj2.1.2), zs_oj (beq_ne hj2.1.1.1.1.2), zbeg_o2 hj]
theorem zlaS_o {s : Int} {j : Nat} (hj : (j != 1 && j != 5 && j != 6 && j != 7 && j != 8 && j != 9) = true) (h12 : ¬ j = 12) : ∀ i : Nat, (zlaS Z s i).1 j = Z j
  | 0 => rfl
  | i + 1 => by
    unfold zlaS
    split
    · show zdo _ _ _ j = _; rw [zdo_o2 hj]; exact zlaS_o hj h12 i
    · show zs _ _ _ _ j = _; rw [zs_oj (beq_ne h12)]; exact zlaS_o hj h12 i
theorem zla_o {s : Int} {j : Nat} (hj : (j != 1 && j != 5 && j != 6 && j != 7 && j != 8 && j != 9) = true) (h12 : ¬ j = 12) (h11 : ¬ j = 11) : zla Z s j = Z j := by
  unfold zla
  rw [zs_oj (beq_ne h11)]; exact zlaS_o hj h12 _
set_option maxHeartbeats 1000000 in
theorem X_rnw {L3 L4 : Int64} (S : SIMq A 9 h Z c) (hk : (k : Int) < Z 13 0) (G : 0 ≤ Z 15 k ∧ Z 15 k ≤ Z 1 (Z 14 k).toNat) (ha : Z 16 k = 0) (q3 : BQ L3 (zTo Z k 0)) (q4 : BQ L4 (zTo Z k 1)) :
    SIMq A 9 (sI (sL (sL h (8, k, 0) 3 L3) (8, k, 0) 4 L4) (8, k, 0) 1 (hI h (4, (Z 14 k).toNat, 0) 0)) (zRnw0 Z k) c := by
  have z13 := S.c13
  obtain ⟨FW, F2, ⟨F3, F4⟩, F5, F6, F7⟩ := S.2.2.2.1 k hk
  obtain ⟨S1, K, SQ1⟩ := S.sc (s := (Z 14 k).toNat) (by omega)
  have b2 := K.b2
  have e14 : (((Z 14 k).toNat : Nat) : Int) = Z 14 k := by omega
  have e15 : (((Z 15 k).toNat : Nat) : Int) = Z 15 k := by omega
  have Yo : ∀ j, ¬ j = 15 → ¬ j = 17 → ¬ j = 18 → ¬ j = 48 → zRnw0 Z k j = Z j := fun j h15 h17 h18 h48 => by
    unfold zRnw0
    rw [zs_oj (beq_ne h15)]
    funext i
    unfold zrnF
    rw [if_neg (by omega)]
    exact congrFun (zs_oj (beq_ne h48)) i
  have Y15 : ∀ k' : Nat, zRnw0 Z k 15 k' = if k' = k then Z 1 (Z 14 k).toNat else Z 15 k' := fun k' => by
    unfold zRnw0
    rw [zs_if, Int.toNat_natCast]
    congr 1
  have Y17 : ∀ k' f : Nat, f < 48 → zRnw0 Z k 17 (48 * k' + f) = if k' = k then zTo Z k 0 f else Z 17 (48 * k' + f) := fun k' f hf => by
    unfold zRnw0
    refine zs_ne rfl ?_
    unfold zrnF
    by_cases z : k' = k
    · rw [if_pos z, if_pos ⟨Or.inl rfl, by omega, by omega⟩, if_pos rfl]; congr 1; omega
    · rw [if_neg z, if_neg (by omega)]; exact zs_ne rfl rfl
  have Y18 : ∀ k' f : Nat, f < 48 → zRnw0 Z k 18 (48 * k' + f) = if k' = k then zTo Z k 1 f else Z 18 (48 * k' + f) := fun k' f hf => by
    unfold zRnw0
    refine zs_ne rfl ?_
    unfold zrnF
    by_cases z : k' = k
    · rw [if_pos z, if_pos ⟨Or.inr rfl, by omega, by omega⟩, if_neg (by decide)]; congr 1; omega
    · rw [if_neg z, if_neg (by omega)]; exact zs_ne rfl rfl
  have c3 : hL (sI (sL (sL h (8, k, 0) 3 L3) (8, k, 0) 4 L4) (8, k, 0) 1 (hI h (4, (Z 14 k).toNat, 0) 0)) (8, k, 0) 3 = L3 := by rw [hL_sI, hL_m (by decide) (hL_e rfl rfl)]
  have c4 : hL (sI (sL (sL h (8, k, 0) 3 L3) (8, k, 0) 4 L4) (8, k, 0) 1 (hI h (4, (Z 14 k).toNat, 0) 0)) (8, k, 0) 4 = L4 := by rw [hL_sI, hL_e rfl rfl]
  have eZ : ∀ w : Int, zTo Z k w = zfo Z ((Z 14 k).toNat : Nat) ((Z 15 k).toNat : Nat) (zTo0 Z k w) (Z 1 (Z 14 k).toNat - Z 15 k).toNat := fun w => by
    unfold zTo; rw [Int.toNat_natCast, e14, e15]
  have mo : ∀ f : Nat, f < 48 → ¬ zTo Z k 1 f = 0 → ¬ zTo Z k 0 f = 0 := fun f hf => by
    rw [eZ, eZ]
    exact zfo_mo (v := (Z 15 k).toNat) K (fun f hf z => bz_n0.mpr ⟨(bz_n0.mp z).1, Or.inl rfl⟩) _ (by omega) f hf
  have sup : ∀ f : Nat, f < 48 → ¬ zTo Z k 0 f = 0 → (f : Int) < Z 2 (Z 14 k).toNat := fun f hf => by
    rw [eZ]
    refine zfo_sup (v := (Z 15 k).toNat) K (fun f hf z => ?_) _ (by omega) f hf
    have := (bz_n0.mp z).1
    rw [show (48 * (k : Int) + (f : Int)).toNat = 48 * k + f by omega] at this
    exact F6 f hf this
  refine S.fo hk (((Fr.rf.wL (fun z => z rfl)).wL (fun z => z rfl)).wI (fun z => z rfl)) rfl (foO (j := 0) (fun j h14 h15 h16 h17 h18 h48 => Yo j h15 h17 h18 h48)) (fun k' h8 hne => ⟨by rw [Yo 14 (by decide) (by decide) (by decide) (by decide)], by rw [Y15, if_neg hne], by rw [Yo 16 (by decide) (by decide) (by decide) (by decide)], fun f hf => ⟨by rw [Y17 k' f hf, if_neg hne], by rw [Y18 k' f hf, if_neg hne]⟩⟩) ?_
  unfold FF
  rw [Yo 14 (by decide) (by decide) (by decide) (by decide), Y15, if_pos rfl, Yo 16 (by decide) (by decide) (by decide) (by decide), Yo 0 (by decide) (by decide) (by decide) (by decide), Yo 2 (by decide) (by decide) (by decide) (by decide), c3, c4]
  refine ⟨FW, F2, ⟨?_, ?_⟩, fun f hf => ⟨?_, ?_⟩, fun f hf => ?_, fun z => absurd ha z⟩
  · rw [hI_e rfl rfl]; exact S1.hd
  · exact (hI_m (by decide) rfl).trans F4
  · rw [q3 f hf]
    by_cases y : f < 48
    · rw [Y17 k f y, if_pos rfl]
    · exact ⟨fun t => absurd t.1 y, fun t => absurd t.1 y⟩
  · rw [q4 f hf]
    by_cases y : f < 48
    · rw [Y17 k f y, Y18 k f y, if_pos rfl, if_pos rfl]
      exact ⟨fun t => ⟨t.1, mo f y t.2, t.2⟩, fun t => ⟨t.1, t.2.2⟩⟩
    · exact ⟨fun t => absurd t.1 y, fun t => absurd t.1 y⟩
  · rw [Y17 k f hf, if_pos rfl]; exact sup f hf
end N1
