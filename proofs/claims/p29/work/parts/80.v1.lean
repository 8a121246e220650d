/-! ===== the calls that make a version, told pointwise ===== -/
section V1
variable {Z : ZT} {s d : Nat} {k0 : Int}
theorem zc_o {a : Int} {i j q : Nat} (hj : (j != 5 && j != 6 && j != 48) = true) : zcp (zs Z 48 0 k0) s a i j q = Z j q := by
  simp only [Bool.and_eq_true] at hj
  refine zcp_o (by rw [Bool.and_eq_true]; exact hj.1) ?_
  have := hj.2
  unfold zs
  rw [if_neg]
  rintro ⟨z, -⟩
  subst z
  simp at this
theorem zc_x {k i j f : Nat} (hk : ¬ k = 24 * s + d) (hf : f < 48) (hi : i ≤ 48) (hj : Nat.beq j 48 = false) : zcp (zs Z 48 0 k0) s d i j (48 * k + f) = Z j (48 * k + f) := by
  unfold zcp
  rw [if_neg]
  · exact zs_ne hj rfl
  · rintro ⟨-, e1, e2⟩
    omega
theorem zc_5 (K : ZS Z s) (hd : Z 1 s + 1 = (d : Int)) (hd2 : d < 24) {f : Nat} (hf : f < 48) : zcp (zs Z 48 0 k0) s d (Z 2 s).toNat 5 (48 * (24 * s + d) + f) = Z 5 (48 * (24 * s + (d - 1)) + f) := by
  have b1 := K.b1
  have b2 := K.b2
  unfold zcp
  by_cases c : (f : Int) < Z 2 s
  · rw [if_pos ⟨Or.inl rfl, by omega, by omega⟩, zs_ne rfl rfl]
    congr 1; omega
  · rw [if_neg (by omega), zs_ne rfl rfl, K.2.1 d f hd2 hf (by omega), K.2.1 (d - 1) f (by omega) hf (by omega)]
theorem zc_6 (K : ZS Z s) (hd : Z 1 s + 1 = (d : Int)) (hd2 : d < 24) {f : Nat} (hf : f < 48) (hm : ¬ Z 5 (48 * (24 * s + (d - 1)) + f) = -1) : zcp (zs Z 48 0 k0) s d (Z 2 s).toNat 6 (48 * (24 * s + d) + f) = Z 6 (48 * (24 * s + (d - 1)) + f) := by
  have b1 := K.b1
  have b2 := K.b2
  have c : (f : Int) < Z 2 s := by
    by_cases c : (f : Int) < Z 2 s
    · exact c
    · exact absurd (K.2.1 (d - 1) f (by omega) hf (by omega)) hm
  unfold zcp
  rw [if_pos ⟨Or.inr rfl, by omega, by omega⟩, zs_ne rfl rfl]
  congr 1; omega
set_option maxHeartbeats 2000000 in
theorem vAdd {n hw v nd : Int} (hs : s < 4) (K : ZS Z s) (hd : Z 1 s + 1 = (d : Int)) (hd2 : d < 24) (hn : Z 2 s ≤ 44)  : VS Z (zAdd Z s n hw v nd) s d 0 (-1) (-1) (Z 2 s) (-1) 0 (Z 2 s + 1) (fun f => if (f : Int) = Z 2 s then n else Z 5 (48 * (24 * s + (d - 1)) + f)) (fun f => if (f : Int) = Z 2 s then nd else Z 6 (48 * (24 * s + (d - 1)) + f)) := by
  have b1 := K.b1
  have b2 := K.b2
  have z1 : ∀ k0, zs Z 48 0 k0 1 s = Z 1 s := fun _ => rfl
  have z2 : ∀ k0, zs Z 48 0 k0 2 s = Z 2 s := fun _ => rfl
  unfold zAdd zmak zbeg
  dsimp only
  simp only [Int.toNat_natCast, z1, z2, hd]
  refine ⟨⟨?_, ?_⟩, fun f hf h2 => ⟨?_, ?_⟩, fun v f hv hf hvd => ⟨?_, ?_⟩, fun f hf => ⟨?_, fun hm => ?_⟩, fun v hv hvd => ⟨⟨?_, ?_⟩, fun j hj => ⟨?_, ?_⟩⟩, ⟨?_, fun hw => ?_, ?_, ?_, ?_, ?_⟩, fun s2 h4 hne => ⟨⟨?_, ?_⟩, fun f hf => ⟨?_, ?_⟩, fun v f hv hf => ⟨?_, ?_⟩, fun v hv => ⟨⟨?_, ?_⟩, fun j hj => ⟨?_, ?_⟩⟩⟩, fun j hj => ?_⟩
  · (repeat first | refine zs_ne rfl ?_ | refine zs_miss (by omega) ?_ | refine zs_eq (by omega) ?_)
    first | rfl | omega | exact zc_o rfl | exact zc_x (by omega) (by omega) (by omega) rfl
  · (repeat first | refine zs_ne rfl ?_ | refine zs_miss (by omega) ?_ | refine zs_eq (by omega) ?_)
    first | rfl | omega | exact zc_o rfl | exact zc_x (by omega) (by omega) (by omega) rfl
  · (repeat first | refine zs_ne rfl ?_ | refine zs_miss (by omega) ?_ | refine zs_eq (by omega) ?_)
    first | rfl | omega | exact zc_o rfl | exact zc_x (by omega) (by omega) (by omega) rfl
  · (repeat first | refine zs_ne rfl ?_ | refine zs_miss (by omega) ?_ | refine zs_eq (by omega) ?_)
    first | rfl | omega | exact zc_o rfl | exact zc_x (by omega) (by omega) (by omega) rfl
  · (repeat first | refine zs_ne rfl ?_ | refine zs_miss (by omega) ?_ | refine zs_eq (by omega) ?_)
    first | rfl | omega | exact zc_o rfl | exact zc_x (by omega) (by omega) (by omega) rfl
  · (repeat first | refine zs_ne rfl ?_ | refine zs_miss (by omega) ?_ | refine zs_eq (by omega) ?_)
    first | rfl | omega | exact zc_o rfl | exact zc_x (by omega) (by omega) (by omega) rfl
  · by_cases e0 : (f : Int) = Z 2 s
    · show _ = if (f : Int) = Z 2 s then n else Z 5 (48 * (24 * s + (d - 1)) + f)
      rw [if_pos e0]
      (repeat first | refine zs_ne rfl ?_ | refine zs_miss (by omega) ?_ | refine zs_eq (by omega) ?_)
      first | rfl | exact zc_5 K hd hd2 hf
    · show _ = if (f : Int) = Z 2 s then n else Z 5 (48 * (24 * s + (d - 1)) + f)
      rw [if_neg e0]
      (repeat first | refine zs_ne rfl ?_ | refine zs_miss (by omega) ?_ | refine zs_eq (by omega) ?_)
      first | rfl | exact zc_5 K hd hd2 hf
  · by_cases e0 : (f : Int) = Z 2 s
    · have hm : ¬ (if (f : Int) = Z 2 s then n else Z 5 (48 * (24 * s + (d - 1)) + f)) = -1 := hm
      show _ = if (f : Int) = Z 2 s then nd else Z 6 (48 * (24 * s + (d - 1)) + f)
      rw [if_pos e0] at hm
      rw [if_pos e0]
      (repeat first | refine zs_ne rfl ?_ | refine zs_miss (by omega) ?_ | refine zs_eq (by omega) ?_)
      first | rfl | exact zc_6 K hd hd2 hf hm | (refine zc_6 K hd hd2 hf ?_; first | exact hm | (rw [show f = F.toNat by omega] at *; assumption))
    · have hm : ¬ (if (f : Int) = Z 2 s then n else Z 5 (48 * (24 * s + (d - 1)) + f)) = -1 := hm
      show _ = if (f : Int) = Z 2 s then nd else Z 6 (48 * (24 * s + (d - 1)) + f)
      rw [if_neg e0] at hm
      rw [if_neg e0]
      (repeat first | refine zs_ne rfl ?_ | refine zs_miss (by omega) ?_ | refine zs_eq (by omega) ?_)
      first | rfl | exact zc_6 K hd hd2 hf hm | (refine zc_6 K hd hd2 hf ?_; first | exact hm | (rw [show f = F.toNat by omega] at *; assumption))
  · (repeat first | refine zs_ne rfl ?_ | refine zs_miss (by omega) ?_ | refine zs_eq (by omega) ?_)
    first | rfl | omega | exact zc_o rfl | exact zc_x (by omega) (by omega) (by omega) rfl
  · (repeat first | refine zs_ne rfl ?_ | refine zs_miss (by omega) ?_ | refine zs_eq (by omega) ?_)
    first | rfl | omega | exact zc_o rfl | exact zc_x (by omega) (by omega) (by omega) rfl
  · (repeat first | refine zs_ne rfl ?_ | refine zs_miss (by omega) ?_ | refine zs_eq (by omega) ?_)
    first | rfl | omega | exact zc_o rfl | exact zc_x (by omega) (by omega) (by omega) rfl
  · (repeat first | refine zs_ne rfl ?_ | refine zs_miss (by omega) ?_ | refine zs_eq (by omega) ?_)
    first | rfl | omega | exact zc_o rfl | exact zc_x (by omega) (by omega) (by omega) rfl
  · (repeat first | refine zs_ne rfl ?_ | refine zs_miss (by omega) ?_ | refine zs_eq (by omega) ?_)
    first | rfl | omega | exact zc_o rfl | exact zc_x (by omega) (by omega) (by omega) rfl
  · omega
  · (repeat first | refine zs_ne rfl ?_ | refine zs_miss (by omega) ?_ | refine zs_eq (by omega) ?_)
    first | rfl | omega | exact zc_o rfl | exact zc_x (by omega) (by omega) (by omega) rfl
  · (repeat first | refine zs_ne rfl ?_ | refine zs_miss (by omega) ?_ | refine zs_eq (by omega) ?_)
    first | rfl | omega | exact zc_o rfl | exact zc_x (by omega) (by omega) (by omega) rfl
  · (repeat first | refine zs_ne rfl ?_ | refine zs_miss (by omega) ?_ | refine zs_eq (by omega) ?_)
    first | rfl | omega | exact zc_o rfl | exact zc_x (by omega) (by omega) (by omega) rfl
  · (repeat first | refine zs_ne rfl ?_ | refine zs_miss (by omega) ?_ | refine zs_eq (by omega) ?_)
    first | rfl | omega | exact zc_o rfl | exact zc_x (by omega) (by omega) (by omega) rfl
  · (repeat first | refine zs_ne rfl ?_ | refine zs_miss (by omega) ?_ | refine zs_eq (by omega) ?_)
    first | rfl | omega | exact zc_o rfl | exact zc_x (by omega) (by omega) (by omega) rfl
  · (repeat first | refine zs_ne rfl ?_ | refine zs_miss (by omega) ?_ | refine zs_eq (by omega) ?_)
    first | rfl | omega | exact zc_o rfl | exact zc_x (by omega) (by omega) (by omega) rfl
  · (repeat first | refine zs_ne rfl ?_ | refine zs_miss (by omega) ?_ | refine zs_eq (by omega) ?_)
    first | rfl | omega | exact zc_o rfl | exact zc_x (by omega) (by omega) (by omega) rfl
  · (repeat first | refine zs_ne rfl ?_ | refine zs_miss (by omega) ?_ | refine zs_eq (by omega) ?_)
    first | rfl | omega | exact zc_o rfl | exact zc_x (by omega) (by omega) (by omega) rfl
  · (repeat first | refine zs_ne rfl ?_ | refine zs_miss (by omega) ?_ | refine zs_eq (by omega) ?_)
    first | rfl | omega | exact zc_o rfl | exact zc_x (by omega) (by omega) (by omega) rfl
  · (repeat first | refine zs_ne rfl ?_ | refine zs_miss (by omega) ?_ | refine zs_eq (by omega) ?_)
    first | rfl | omega | exact zc_o rfl | exact zc_x (by omega) (by omega) (by omega) rfl
  · (repeat first | refine zs_ne rfl ?_ | refine zs_miss (by omega) ?_ | refine zs_eq (by omega) ?_)
    first | rfl | omega | exact zc_o rfl | exact zc_x (by omega) (by omega) (by omega) rfl
  · (repeat first | refine zs_ne rfl ?_ | refine zs_miss (by omega) ?_ | refine zs_eq (by omega) ?_)
    first | rfl | omega | exact zc_o rfl | exact zc_x (by omega) (by omega) (by omega) rfl
  · (repeat first | refine zs_ne rfl ?_ | refine zs_miss (by omega) ?_ | refine zs_eq (by omega) ?_)
    first | rfl | omega | exact zc_o rfl | exact zc_x (by omega) (by omega) (by omega) rfl
  · (repeat first | refine zs_ne rfl ?_ | refine zs_miss (by omega) ?_ | refine zs_eq (by omega) ?_)
    first | rfl | omega | exact zc_o rfl | exact zc_x (by omega) (by omega) (by omega) rfl
  · funext i
    unfold inV at hj
    simp only [Bool.or_eq_false_iff, beq_eq_false_iff_ne] at hj
    obtain ⟨⟨⟨⟨⟨⟨⟨⟨⟨⟨h1, h2⟩, h3⟩, h4⟩, h5⟩, h6⟩, h7⟩, h8⟩, h9⟩, h10⟩, h48⟩ := hj
    (repeat refine zs_ne (beq_ne (by assumption)) ?_)
    exact zc_o (by simp [h5, h6, h48])
set_option maxHeartbeats 2000000 in
theorem vRen {n o F : Int} (hs : s < 4) (K : ZS Z s) (hd : Z 1 s + 1 = (d : Int)) (hd2 : d < 24) (hn : Z 2 s ≤ 46) (eF : zatH Z s n = F) (hF : 0 ≤ F ∧ F < Z 2 s) (hp : ¬ Z 5 (48 * (24 * s + (d - 1)) + F.toNat) = -1) : VS Z (zRen Z s n o) s d 1 F (-1) F (-1) 0 (Z 2 s) (fun f => if (f : Int) = F then o else Z 5 (48 * (24 * s + (d - 1)) + f)) (fun f => Z 6 (48 * (24 * s + (d - 1)) + f)) := by
  have b1 := K.b1
  have b2 := K.b2
  have z1 : ∀ k0, zs Z 48 0 k0 1 s = Z 1 s := fun _ => rfl
  have z2 : ∀ k0, zs Z 48 0 k0 2 s = Z 2 s := fun _ => rfl
  unfold zRen zbeg
  rw [eF]
  dsimp only
  simp only [Int.toNat_natCast, z1, z2, hd]
  refine ⟨⟨?_, ?_⟩, fun f hf h2 => ⟨?_, ?_⟩, fun v f hv hf hvd => ⟨?_, ?_⟩, fun f hf => ⟨?_, fun hm => ?_⟩, fun v hv hvd => ⟨⟨?_, ?_⟩, fun j hj => ⟨?_, ?_⟩⟩, ⟨?_, fun hw => ?_, ?_, ?_, ?_, ?_⟩, fun s2 h4 hne => ⟨⟨?_, ?_⟩, fun f hf => ⟨?_, ?_⟩, fun v f hv hf => ⟨?_, ?_⟩, fun v hv => ⟨⟨?_, ?_⟩, fun j hj => ⟨?_, ?_⟩⟩⟩, fun j hj => ?_⟩
  · (repeat first | refine zs_ne rfl ?_ | refine zs_miss (by omega) ?_ | refine zs_eq (by omega) ?_)
    first | rfl | omega | exact zc_o rfl | exact zc_x (by omega) (by omega) (by omega) rfl
  · (repeat first | refine zs_ne rfl ?_ | refine zs_miss (by omega) ?_ | refine zs_eq (by omega) ?_)
    first | rfl | omega | exact zc_o rfl | exact zc_x (by omega) (by omega) (by omega) rfl
  · (repeat first | refine zs_ne rfl ?_ | refine zs_miss (by omega) ?_ | refine zs_eq (by omega) ?_)
    first | rfl | omega | exact zc_o rfl | exact zc_x (by omega) (by omega) (by omega) rfl
  · (repeat first | refine zs_ne rfl ?_ | refine zs_miss (by omega) ?_ | refine zs_eq (by omega) ?_)
    first | rfl | omega | exact zc_o rfl | exact zc_x (by omega) (by omega) (by omega) rfl
  · (repeat first | refine zs_ne rfl ?_ | refine zs_miss (by omega) ?_ | refine zs_eq (by omega) ?_)
    first | rfl | omega | exact zc_o rfl | exact zc_x (by omega) (by omega) (by omega) rfl
  · (repeat first | refine zs_ne rfl ?_ | refine zs_miss (by omega) ?_ | refine zs_eq (by omega) ?_)
    first | rfl | omega | exact zc_o rfl | exact zc_x (by omega) (by omega) (by omega) rfl
  · by_cases e0 : (f : Int) = F
    · show _ = if (f : Int) = F then o else Z 5 (48 * (24 * s + (d - 1)) + f)
      rw [if_pos e0]
      (repeat first | refine zs_ne rfl ?_ | refine zs_miss (by omega) ?_ | refine zs_eq (by omega) ?_)
      first | rfl | exact zc_5 K hd hd2 hf
    · show _ = if (f : Int) = F then o else Z 5 (48 * (24 * s + (d - 1)) + f)
      rw [if_neg e0]
      (repeat first | refine zs_ne rfl ?_ | refine zs_miss (by omega) ?_ | refine zs_eq (by omega) ?_)
      first | rfl | exact zc_5 K hd hd2 hf
  · by_cases e0 : (f : Int) = F
    · show _ = Z 6 (48 * (24 * s + (d - 1)) + f)
      (repeat first | refine zs_ne rfl ?_ | refine zs_miss (by omega) ?_ | refine zs_eq (by omega) ?_)
      refine zc_6 K hd hd2 hf ?_
      rw [show f = F.toNat by omega]
      exact hp
    · show _ = Z 6 (48 * (24 * s + (d - 1)) + f)
      (repeat first | refine zs_ne rfl ?_ | refine zs_miss (by omega) ?_ | refine zs_eq (by omega) ?_)
      refine zc_6 K hd hd2 hf ?_
      have hm : ¬ (if (f : Int) = F then o else Z 5 (48 * (24 * s + (d - 1)) + f)) = -1 := hm
      rw [if_neg e0] at hm
      exact hm
  · (repeat first | refine zs_ne rfl ?_ | refine zs_miss (by omega) ?_ | refine zs_eq (by omega) ?_)
    first | rfl | omega | exact zc_o rfl | exact zc_x (by omega) (by omega) (by omega) rfl
  · (repeat first | refine zs_ne rfl ?_ | refine zs_miss (by omega) ?_ | refine zs_eq (by omega) ?_)
    first | rfl | omega | exact zc_o rfl | exact zc_x (by omega) (by omega) (by omega) rfl
  · (repeat first | refine zs_ne rfl ?_ | refine zs_miss (by omega) ?_ | refine zs_eq (by omega) ?_)
    first | rfl | omega | exact zc_o rfl | exact zc_x (by omega) (by omega) (by omega) rfl
  · (repeat first | refine zs_ne rfl ?_ | refine zs_miss (by omega) ?_ | refine zs_eq (by omega) ?_)
    first | rfl | omega | exact zc_o rfl | exact zc_x (by omega) (by omega) (by omega) rfl
  · (repeat first | refine zs_ne rfl ?_ | refine zs_miss (by omega) ?_ | refine zs_eq (by omega) ?_)
    first | rfl | omega | exact zc_o rfl | exact zc_x (by omega) (by omega) (by omega) rfl
  · omega
  · (repeat first | refine zs_ne rfl ?_ | refine zs_miss (by omega) ?_ | refine zs_eq (by omega) ?_)
    first | rfl | omega | exact zc_o rfl | exact zc_x (by omega) (by omega) (by omega) rfl
  · (repeat first | refine zs_ne rfl ?_ | refine zs_miss (by omega) ?_ | refine zs_eq (by omega) ?_)
    first | rfl | omega | exact zc_o rfl | exact zc_x (by omega) (by omega) (by omega) rfl
  · (repeat first | refine zs_ne rfl ?_ | refine zs_miss (by omega) ?_ | refine zs_eq (by omega) ?_)
    first | rfl | omega | exact zc_o rfl | exact zc_x (by omega) (by omega) (by omega) rfl
  · (repeat first | refine zs_ne rfl ?_ | refine zs_miss (by omega) ?_ | refine zs_eq (by omega) ?_)
    first | rfl | omega | exact zc_o rfl | exact zc_x (by omega) (by omega) (by omega) rfl
  · (repeat first | refine zs_ne rfl ?_ | refine zs_miss (by omega) ?_ | refine zs_eq (by omega) ?_)
    first | rfl | omega | exact zc_o rfl | exact zc_x (by omega) (by omega) (by omega) rfl
  · (repeat first | refine zs_ne rfl ?_ | refine zs_miss (by omega) ?_ | refine zs_eq (by omega) ?_)
    first | rfl | omega | exact zc_o rfl | exact zc_x (by omega) (by omega) (by omega) rfl
  · (repeat first | refine zs_ne rfl ?_ | refine zs_miss (by omega) ?_ | refine zs_eq (by omega) ?_)
    first | rfl | omega | exact zc_o rfl | exact zc_x (by omega) (by omega) (by omega) rfl
  · (repeat first | refine zs_ne rfl ?_ | refine zs_miss (by omega) ?_ | refine zs_eq (by omega) ?_)
    first | rfl | omega | exact zc_o rfl | exact zc_x (by omega) (by omega) (by omega) rfl
  · (repeat first | refine zs_ne rfl ?_ | refine zs_miss (by omega) ?_ | refine zs_eq (by omega) ?_)
    first | rfl | omega | exact zc_o rfl | exact zc_x (by omega) (by omega) (by omega) rfl
  · (repeat first | refine zs_ne rfl ?_ | refine zs_miss (by omega) ?_ | refine zs_eq (by omega) ?_)
    first | rfl | omega | exact zc_o rfl | exact zc_x (by omega) (by omega) (by omega) rfl
  · (repeat first | refine zs_ne rfl ?_ | refine zs_miss (by omega) ?_ | refine zs_eq (by omega) ?_)
    first | rfl | omega | exact zc_o rfl | exact zc_x (by omega) (by omega) (by omega) rfl
  · (repeat first | refine zs_ne rfl ?_ | refine zs_miss (by omega) ?_ | refine zs_eq (by omega) ?_)
    first | rfl | omega | exact zc_o rfl | exact zc_x (by omega) (by omega) (by omega) rfl
  · (repeat first | refine zs_ne rfl ?_ | refine zs_miss (by omega) ?_ | refine zs_eq (by omega) ?_)
    first | rfl | omega | exact zc_o rfl | exact zc_x (by omega) (by omega) (by omega) rfl
  · (repeat first | refine zs_ne rfl ?_ | refine zs_miss (by omega) ?_ | refine zs_eq (by omega) ?_)
    first | rfl | omega | exact zc_o rfl | exact zc_x (by omega) (by omega) (by omega) rfl
  · funext i
    unfold inV at hj
    simp only [Bool.or_eq_false_iff, beq_eq_false_iff_ne] at hj
    obtain ⟨⟨⟨⟨⟨⟨⟨⟨⟨⟨h1, h2⟩, h3⟩, h4⟩, h5⟩, h6⟩, h7⟩, h8⟩, h9⟩, h10⟩, h48⟩ := hj
    (repeat refine zs_ne (beq_ne (by assumption)) ?_)
    exact zc_o (by simp [h5, h6, h48])
set_option maxHeartbeats 2000000 in
theorem vTur {n hw F : Int} (hs : s < 4) (K : ZS Z s) (hd : Z 1 s + 1 = (d : Int)) (hd2 : d < 24) (hn : Z 2 s ≤ 44) (eF : zatH Z s n = F) (hF : 0 ≤ F ∧ F < Z 2 s) : VS Z (zTur Z s n hw) s d 2 F (-1) (Z 2 s) (-1) 0 (Z 2 s + 1) (fun f => if (f : Int) = Z 2 s then n else if (f : Int) = F then -1 else Z 5 (48 * (24 * s + (d - 1)) + f)) (fun f => if (f : Int) = Z 2 s then Z 6 (48 * (24 * s + (d - 1)) + F.toNat) else Z 6 (48 * (24 * s + (d - 1)) + f)) := by
  have b1 := K.b1
  have b2 := K.b2
  have z1 : ∀ k0, zs Z 48 0 k0 1 s = Z 1 s := fun _ => rfl
  have z2 : ∀ k0, zs Z 48 0 k0 2 s = Z 2 s := fun _ => rfl
  unfold zTur zmak zbeg
  rw [eF]
  dsimp only
  simp only [Int.toNat_natCast, z1, z2, hd]
  have c6 : (48 * (24 * (s : Int) + Z 1 s) + F).toNat = 48 * (24 * s + (d - 1)) + F.toNat := by omega
  simp only [c6]
  refine ⟨⟨?_, ?_⟩, fun f hf h2 => ⟨?_, ?_⟩, fun v f hv hf hvd => ⟨?_, ?_⟩, fun f hf => ⟨?_, fun hm => ?_⟩, fun v hv hvd => ⟨⟨?_, ?_⟩, fun j hj => ⟨?_, ?_⟩⟩, ⟨?_, fun hw => ?_, ?_, ?_, ?_, ?_⟩, fun s2 h4 hne => ⟨⟨?_, ?_⟩, fun f hf => ⟨?_, ?_⟩, fun v f hv hf => ⟨?_, ?_⟩, fun v hv => ⟨⟨?_, ?_⟩, fun j hj => ⟨?_, ?_⟩⟩⟩, fun j hj => ?_⟩
  · (repeat first | refine zs_ne rfl ?_ | refine zs_miss (by omega) ?_ | refine zs_eq (by omega) ?_)
    first | rfl | omega | exact zc_o rfl | exact zc_x (by omega) (by omega) (by omega) rfl
  · (repeat first | refine zs_ne rfl ?_ | refine zs_miss (by omega) ?_ | refine zs_eq (by omega) ?_)
    first | rfl | omega | exact zc_o rfl | exact zc_x (by omega) (by omega) (by omega) rfl
  · (repeat first | refine zs_ne rfl ?_ | refine zs_miss (by omega) ?_ | refine zs_eq (by omega) ?_)
    first | rfl | omega | exact zc_o rfl | exact zc_x (by omega) (by omega) (by omega) rfl
  · (repeat first | refine zs_ne rfl ?_ | refine zs_miss (by omega) ?_ | refine zs_eq (by omega) ?_)
    first | rfl | omega | exact zc_o rfl | exact zc_x (by omega) (by omega) (by omega) rfl
  · (repeat first | refine zs_ne rfl ?_ | refine zs_miss (by omega) ?_ | refine zs_eq (by omega) ?_)
    first | rfl | omega | exact zc_o rfl | exact zc_x (by omega) (by omega) (by omega) rfl
  · (repeat first | refine zs_ne rfl ?_ | refine zs_miss (by omega) ?_ | refine zs_eq (by omega) ?_)
    first | rfl | omega | exact zc_o rfl | exact zc_x (by omega) (by omega) (by omega) rfl
  · by_cases e0 : (f : Int) = Z 2 s
    · show _ = if (f : Int) = Z 2 s then n else if (f : Int) = F then -1 else Z 5 (48 * (24 * s + (d - 1)) + f)
      rw [if_pos e0]
      (repeat first | refine zs_ne rfl ?_ | refine zs_miss (by omega) ?_ | refine zs_eq (by omega) ?_)
      first | rfl | exact zc_5 K hd hd2 hf
    · by_cases e1 : (f : Int) = F
      · show _ = if (f : Int) = Z 2 s then n else if (f : Int) = F then -1 else Z 5 (48 * (24 * s + (d - 1)) + f)
        rw [if_neg e0, if_pos e1]
        (repeat first | refine zs_ne rfl ?_ | refine zs_miss (by omega) ?_ | refine zs_eq (by omega) ?_)
        first | rfl | exact zc_5 K hd hd2 hf
      · show _ = if (f : Int) = Z 2 s then n else if (f : Int) = F then -1 else Z 5 (48 * (24 * s + (d - 1)) + f)
        rw [if_neg e0, if_neg e1]
        (repeat first | refine zs_ne rfl ?_ | refine zs_miss (by omega) ?_ | refine zs_eq (by omega) ?_)
        first | rfl | exact zc_5 K hd hd2 hf
  · by_cases e0 : (f : Int) = Z 2 s
    · have hm : ¬ (if (f : Int) = Z 2 s then n else if (f : Int) = F then -1 else Z 5 (48 * (24 * s + (d - 1)) + f)) = -1 := hm
      show _ = if (f : Int) = Z 2 s then Z 6 (48 * (24 * s + (d - 1)) + F.toNat) else Z 6 (48 * (24 * s + (d - 1)) + f)
      rw [if_pos e0] at hm
      rw [if_pos e0]
      (repeat first | refine zs_ne rfl ?_ | refine zs_miss (by omega) ?_ | refine zs_eq (by omega) ?_)
      first | rfl | exact zc_6 K hd hd2 hf hm | (refine zc_6 K hd hd2 hf ?_; first | exact hm | (rw [show f = F.toNat by omega] at *; assumption))
    · by_cases e1 : (f : Int) = F
      · have hm : ¬ (if (f : Int) = Z 2 s then n else if (f : Int) = F then -1 else Z 5 (48 * (24 * s + (d - 1)) + f)) = -1 := hm
        show _ = if (f : Int) = Z 2 s then Z 6 (48 * (24 * s + (d - 1)) + F.toNat) else Z 6 (48 * (24 * s + (d - 1)) + f)
        rw [if_neg e0, if_pos e1] at hm
        exact absurd rfl hm
      · have hm : ¬ (if (f : Int) = Z 2 s then n else if (f : Int) = F then -1 else Z 5 (48 * (24 * s + (d - 1)) + f)) = -1 := hm
        show _ = if (f : Int) = Z 2 s then Z 6 (48 * (24 * s + (d - 1)) + F.toNat) else Z 6 (48 * (24 * s + (d - 1)) + f)
        rw [if_neg e0, if_neg e1] at hm
        rw [if_neg e0]
        (repeat first | refine zs_ne rfl ?_ | refine zs_miss (by omega) ?_ | refine zs_eq (by omega) ?_)
        first | rfl | exact zc_6 K hd hd2 hf hm | (refine zc_6 K hd hd2 hf ?_; first | exact hm | (rw [show f = F.toNat by omega] at *; assumption))
  · (repeat first | refine zs_ne rfl ?_ | refine zs_miss (by omega) ?_ | refine zs_eq (by omega) ?_)
    first | rfl | omega | exact zc_o rfl | exact zc_x (by omega) (by omega) (by omega) rfl
  · (repeat first | refine zs_ne rfl ?_ | refine zs_miss (by omega) ?_ | refine zs_eq (by omega) ?_)
    first | rfl | omega | exact zc_o rfl | exact zc_x (by omega) (by omega) (by omega) rfl
  · (repeat first | refine zs_ne rfl ?_ | refine zs_miss (by omega) ?_ | refine zs_eq (by omega) ?_)
    first | rfl | omega | exact zc_o rfl | exact zc_x (by omega) (by omega) (by omega) rfl
  · (repeat first | refine zs_ne rfl ?_ | refine zs_miss (by omega) ?_ | refine zs_eq (by omega) ?_)
    first | rfl | omega | exact zc_o rfl | exact zc_x (by omega) (by omega) (by omega) rfl
  · (repeat first | refine zs_ne rfl ?_ | refine zs_miss (by omega) ?_ | refine zs_eq (by omega) ?_)
    first | rfl | omega | exact zc_o rfl | exact zc_x (by omega) (by omega) (by omega) rfl
  · omega
  · (repeat first | refine zs_ne rfl ?_ | refine zs_miss (by omega) ?_ | refine zs_eq (by omega) ?_)
    first | rfl | omega | exact zc_o rfl | exact zc_x (by omega) (by omega) (by omega) rfl
  · (repeat first | refine zs_ne rfl ?_ | refine zs_miss (by omega) ?_ | refine zs_eq (by omega) ?_)
    first | rfl | omega | exact zc_o rfl | exact zc_x (by omega) (by omega) (by omega) rfl
  · (repeat first | refine zs_ne rfl ?_ | refine zs_miss (by omega) ?_ | refine zs_eq (by omega) ?_)
    first | rfl | omega | exact zc_o rfl | exact zc_x (by omega) (by omega) (by omega) rfl
  · (repeat first | refine zs_ne rfl ?_ | refine zs_miss (by omega) ?_ | refine zs_eq (by omega) ?_)
    first | rfl | omega | exact zc_o rfl | exact zc_x (by omega) (by omega) (by omega) rfl
  · (repeat first | refine zs_ne rfl ?_ | refine zs_miss (by omega) ?_ | refine zs_eq (by omega) ?_)
    first | rfl | omega | exact zc_o rfl | exact zc_x (by omega) (by omega) (by omega) rfl
  · (repeat first | refine zs_ne rfl ?_ | refine zs_miss (by omega) ?_ | refine zs_eq (by omega) ?_)
    first | rfl | omega | exact zc_o rfl | exact zc_x (by omega) (by omega) (by omega) rfl
  · (repeat first | refine zs_ne rfl ?_ | refine zs_miss (by omega) ?_ | refine zs_eq (by omega) ?_)
    first | rfl | omega | exact zc_o rfl | exact zc_x (by omega) (by omega) (by omega) rfl
  · (repeat first | refine zs_ne rfl ?_ | refine zs_miss (by omega) ?_ | refine zs_eq (by omega) ?_)
    first | rfl | omega | exact zc_o rfl | exact zc_x (by omega) (by omega) (by omega) rfl
  · (repeat first | refine zs_ne rfl ?_ | refine zs_miss (by omega) ?_ | refine zs_eq (by omega) ?_)
    first | rfl | omega | exact zc_o rfl | exact zc_x (by omega) (by omega) (by omega) rfl
  · (repeat first | refine zs_ne rfl ?_ | refine zs_miss (by omega) ?_ | refine zs_eq (by omega) ?_)
    first | rfl | omega | exact zc_o rfl | exact zc_x (by omega) (by omega) (by omega) rfl
  · (repeat first | refine zs_ne rfl ?_ | refine zs_miss (by omega) ?_ | refine zs_eq (by omega) ?_)
    first | rfl | omega | exact zc_o rfl | exact zc_x (by omega) (by omega) (by omega) rfl
  · (repeat first | refine zs_ne rfl ?_ | refine zs_miss (by omega) ?_ | refine zs_eq (by omega) ?_)
    first | rfl | omega | exact zc_o rfl | exact zc_x (by omega) (by omega) (by omega) rfl
  · (repeat first | refine zs_ne rfl ?_ | refine zs_miss (by omega) ?_ | refine zs_eq (by omega) ?_)
    first | rfl | omega | exact zc_o rfl | exact zc_x (by omega) (by omega) (by omega) rfl
  · (repeat first | refine zs_ne rfl ?_ | refine zs_miss (by omega) ?_ | refine zs_eq (by omega) ?_)
    first | rfl | omega | exact zc_o rfl | exact zc_x (by omega) (by omega) (by omega) rfl
  · funext i
    unfold inV at hj
    simp only [Bool.or_eq_false_iff, beq_eq_false_iff_ne] at hj
    obtain ⟨⟨⟨⟨⟨⟨⟨⟨⟨⟨h1, h2⟩, h3⟩, h4⟩, h5⟩, h6⟩, h7⟩, h8⟩, h9⟩, h10⟩, h48⟩ := hj
    (repeat refine zs_ne (beq_ne (by assumption)) ?_)
    exact zc_o (by simp [h5, h6, h48])
set_option maxHeartbeats 2000000 in
theorem vTog {n F : Int} (hs : s < 4) (K : ZS Z s) (hd : Z 1 s + 1 = (d : Int)) (hd2 : d < 24) (hn : Z 2 s ≤ 46) (eF : zatH Z s n = F) (hF : 0 ≤ F ∧ F < Z 2 s) : VS Z (zTog Z s n) s d 6 F (-1) F (-1) 0 (Z 2 s) (fun f => Z 5 (48 * (24 * s + (d - 1)) + f)) (fun f => if (f : Int) = F then bz (Z 6 (48 * (24 * s + (d - 1)) + F.toNat) = 0) else Z 6 (48 * (24 * s + (d - 1)) + f)) := by
  have b1 := K.b1
  have b2 := K.b2
  have z1 : ∀ k0, zs Z 48 0 k0 1 s = Z 1 s := fun _ => rfl
  have z2 : ∀ k0, zs Z 48 0 k0 2 s = Z 2 s := fun _ => rfl
  unfold zTog zbeg
  rw [eF]
  dsimp only
  simp only [Int.toNat_natCast, z1, z2, hd]
  have c6 : (48 * (24 * (s : Int) + Z 1 s) + F).toNat = 48 * (24 * s + (d - 1)) + F.toNat := by omega
  simp only [c6]
  refine ⟨⟨?_, ?_⟩, fun f hf h2 => ⟨?_, ?_⟩, fun v f hv hf hvd => ⟨?_, ?_⟩, fun f hf => ⟨?_, fun hm => ?_⟩, fun v hv hvd => ⟨⟨?_, ?_⟩, fun j hj => ⟨?_, ?_⟩⟩, ⟨?_, fun hw => ?_, ?_, ?_, ?_, ?_⟩, fun s2 h4 hne => ⟨⟨?_, ?_⟩, fun f hf => ⟨?_, ?_⟩, fun v f hv hf => ⟨?_, ?_⟩, fun v hv => ⟨⟨?_, ?_⟩, fun j hj => ⟨?_, ?_⟩⟩⟩, fun j hj => ?_⟩
  · (repeat first | refine zs_ne rfl ?_ | refine zs_miss (by omega) ?_ | refine zs_eq (by omega) ?_)
    first | rfl | omega | exact zc_o rfl | exact zc_x (by omega) (by omega) (by omega) rfl
  · (repeat first | refine zs_ne rfl ?_ | refine zs_miss (by omega) ?_ | refine zs_eq (by omega) ?_)
    first | rfl | omega | exact zc_o rfl | exact zc_x (by omega) (by omega) (by omega) rfl
  · (repeat first | refine zs_ne rfl ?_ | refine zs_miss (by omega) ?_ | refine zs_eq (by omega) ?_)
    first | rfl | omega | exact zc_o rfl | exact zc_x (by omega) (by omega) (by omega) rfl
  · (repeat first | refine zs_ne rfl ?_ | refine zs_miss (by omega) ?_ | refine zs_eq (by omega) ?_)
    first | rfl | omega | exact zc_o rfl | exact zc_x (by omega) (by omega) (by omega) rfl
  · (repeat first | refine zs_ne rfl ?_ | refine zs_miss (by omega) ?_ | refine zs_eq (by omega) ?_)
    first | rfl | omega | exact zc_o rfl | exact zc_x (by omega) (by omega) (by omega) rfl
  · (repeat first | refine zs_ne rfl ?_ | refine zs_miss (by omega) ?_ | refine zs_eq (by omega) ?_)
    first | rfl | omega | exact zc_o rfl | exact zc_x (by omega) (by omega) (by omega) rfl
  · show _ = Z 5 (48 * (24 * s + (d - 1)) + f)
    (repeat first | refine zs_ne rfl ?_ | refine zs_miss (by omega) ?_ | refine zs_eq (by omega) ?_)
    first | rfl | exact zc_5 K hd hd2 hf
  · by_cases e0 : (f : Int) = F
    · have hm : ¬ (Z 5 (48 * (24 * s + (d - 1)) + f)) = -1 := hm
      show _ = if (f : Int) = F then bz (Z 6 (48 * (24 * s + (d - 1)) + F.toNat) = 0) else Z 6 (48 * (24 * s + (d - 1)) + f)
      rw [if_pos e0]
      (repeat first | refine zs_ne rfl ?_ | refine zs_miss (by omega) ?_ | refine zs_eq (by omega) ?_)
      first | rfl | exact zc_6 K hd hd2 hf hm | (refine zc_6 K hd hd2 hf ?_; first | exact hm | (rw [show f = F.toNat by omega] at *; assumption))
    · have hm : ¬ (Z 5 (48 * (24 * s + (d - 1)) + f)) = -1 := hm
      show _ = if (f : Int) = F then bz (Z 6 (48 * (24 * s + (d - 1)) + F.toNat) = 0) else Z 6 (48 * (24 * s + (d - 1)) + f)
      rw [if_neg e0]
      (repeat first | refine zs_ne rfl ?_ | refine zs_miss (by omega) ?_ | refine zs_eq (by omega) ?_)
      first | rfl | exact zc_6 K hd hd2 hf hm | (refine zc_6 K hd hd2 hf ?_; first | exact hm | (rw [show f = F.toNat by omega] at *; assumption))
  · (repeat first | refine zs_ne rfl ?_ | refine zs_miss (by omega) ?_ | refine zs_eq (by omega) ?_)
    first | rfl | omega | exact zc_o rfl | exact zc_x (by omega) (by omega) (by omega) rfl
  · (repeat first | refine zs_ne rfl ?_ | refine zs_miss (by omega) ?_ | refine zs_eq (by omega) ?_)
    first | rfl | omega | exact zc_o rfl | exact zc_x (by omega) (by omega) (by omega) rfl
  · (repeat first | refine zs_ne rfl ?_ | refine zs_miss (by omega) ?_ | refine zs_eq (by omega) ?_)
    first | rfl | omega | exact zc_o rfl | exact zc_x (by omega) (by omega) (by omega) rfl
  · (repeat first | refine zs_ne rfl ?_ | refine zs_miss (by omega) ?_ | refine zs_eq (by omega) ?_)
    first | rfl | omega | exact zc_o rfl | exact zc_x (by omega) (by omega) (by omega) rfl
  · (repeat first | refine zs_ne rfl ?_ | refine zs_miss (by omega) ?_ | refine zs_eq (by omega) ?_)
    first | rfl | omega | exact zc_o rfl | exact zc_x (by omega) (by omega) (by omega) rfl
  · omega
  · (repeat first | refine zs_ne rfl ?_ | refine zs_miss (by omega) ?_ | refine zs_eq (by omega) ?_)
    first | rfl | omega | exact zc_o rfl | exact zc_x (by omega) (by omega) (by omega) rfl
  · (repeat first | refine zs_ne rfl ?_ | refine zs_miss (by omega) ?_ | refine zs_eq (by omega) ?_)
    first | rfl | omega | exact zc_o rfl | exact zc_x (by omega) (by omega) (by omega) rfl
  · (repeat first | refine zs_ne rfl ?_ | refine zs_miss (by omega) ?_ | refine zs_eq (by omega) ?_)
    first | rfl | omega | exact zc_o rfl | exact zc_x (by omega) (by omega) (by omega) rfl
  · (repeat first | refine zs_ne rfl ?_ | refine zs_miss (by omega) ?_ | refine zs_eq (by omega) ?_)
    first | rfl | omega | exact zc_o rfl | exact zc_x (by omega) (by omega) (by omega) rfl
  · (repeat first | refine zs_ne rfl ?_ | refine zs_miss (by omega) ?_ | refine zs_eq (by omega) ?_)
    first | rfl | omega | exact zc_o rfl | exact zc_x (by omega) (by omega) (by omega) rfl
  · (repeat first | refine zs_ne rfl ?_ | refine zs_miss (by omega) ?_ | refine zs_eq (by omega) ?_)
    first | rfl | omega | exact zc_o rfl | exact zc_x (by omega) (by omega) (by omega) rfl
  · (repeat first | refine zs_ne rfl ?_ | refine zs_miss (by omega) ?_ | refine zs_eq (by omega) ?_)
    first | rfl | omega | exact zc_o rfl | exact zc_x (by omega) (by omega) (by omega) rfl
  · (repeat first | refine zs_ne rfl ?_ | refine zs_miss (by omega) ?_ | refine zs_eq (by omega) ?_)
    first | rfl | omega | exact zc_o rfl | exact zc_x (by omega) (by omega) (by omega) rfl
  · (repeat first | refine zs_ne rfl ?_ | refine zs_miss (by omega) ?_ | refine zs_eq (by omega) ?_)
    first | rfl | omega | exact zc_o rfl | exact zc_x (by omega) (by omega) (by omega) rfl
  · (repeat first | refine zs_ne rfl ?_ | refine zs_miss (by omega) ?_ | refine zs_eq (by omega) ?_)
    first | rfl | omega | exact zc_o rfl | exact zc_x (by omega) (by omega) (by omega) rfl
  · (repeat first | refine zs_ne rfl ?_ | refine zs_miss (by omega) ?_ | refine zs_eq (by omega) ?_)
    first | rfl | omega | exact zc_o rfl | exact zc_x (by omega) (by omega) (by omega) rfl
  · (repeat first | refine zs_ne rfl ?_ | refine zs_miss (by omega) ?_ | refine zs_eq (by omega) ?_)
    first | rfl | omega | exact zc_o rfl | exact zc_x (by omega) (by omega) (by omega) rfl
  · (repeat first | refine zs_ne rfl ?_ | refine zs_miss (by omega) ?_ | refine zs_eq (by omega) ?_)
    first | rfl | omega | exact zc_o rfl | exact zc_x (by omega) (by omega) (by omega) rfl
  · (repeat first | refine zs_ne rfl ?_ | refine zs_miss (by omega) ?_ | refine zs_eq (by omega) ?_)
    first | rfl | omega | exact zc_o rfl | exact zc_x (by omega) (by omega) (by omega) rfl
  · funext i
    unfold inV at hj
    simp only [Bool.or_eq_false_iff, beq_eq_false_iff_ne] at hj
    obtain ⟨⟨⟨⟨⟨⟨⟨⟨⟨⟨h1, h2⟩, h3⟩, h4⟩, h5⟩, h6⟩, h7⟩, h8⟩, h9⟩, h10⟩, h48⟩ := hj
    (repeat refine zs_ne (beq_ne (by assumption)) ?_)
    exact zc_o (by simp [h5, h6, h48])
set_option maxHeartbeats 2000000 in
theorem vSpl {n o1 o2 dv F : Int} (hs : s < 4) (K : ZS Z s) (hd : Z 1 s + 1 = (d : Int)) (hd2 : d < 24) (hn : Z 2 s ≤ 44) (eF : zatH Z s n = F) (hF : 0 ≤ F ∧ F < Z 2 s) : VS Z (zSpl Z s n o1 o2 dv) s d 3 F (-1) (Z 2 s) (Z 2 s + 1) dv (Z 2 s + 2) (fun f => if (f : Int) = Z 2 s + 1 then o2 else if (f : Int) = Z 2 s then o1 else if (f : Int) = F then -1 else Z 5 (48 * (24 * s + (d - 1)) + f)) (fun f => if (f : Int) = Z 2 s + 1 then Z 6 (48 * (24 * s + (d - 1)) + F.toNat) else if (f : Int) = Z 2 s then Z 6 (48 * (24 * s + (d - 1)) + F.toNat) else Z 6 (48 * (24 * s + (d - 1)) + f)) := by
  have b1 := K.b1
  have b2 := K.b2
  have z1 : ∀ k0, zs Z 48 0 k0 1 s = Z 1 s := fun _ => rfl
  have z2 : ∀ k0, zs Z 48 0 k0 2 s = Z 2 s := fun _ => rfl
  unfold zSpl zmak zbeg
  rw [eF]
  dsimp only
  simp only [Int.toNat_natCast, z1, z2, hd]
  have c6 : (48 * (24 * (s : Int) + Z 1 s) + F).toNat = 48 * (24 * s + (d - 1)) + F.toNat := by omega
  simp only [c6]
  refine ⟨⟨?_, ?_⟩, fun f hf h2 => ⟨?_, ?_⟩, fun v f hv hf hvd => ⟨?_, ?_⟩, fun f hf => ⟨?_, fun hm => ?_⟩, fun v hv hvd => ⟨⟨?_, ?_⟩, fun j hj => ⟨?_, ?_⟩⟩, ⟨?_, fun hw => ?_, ?_, ?_, ?_, ?_⟩, fun s2 h4 hne => ⟨⟨?_, ?_⟩, fun f hf => ⟨?_, ?_⟩, fun v f hv hf => ⟨?_, ?_⟩, fun v hv => ⟨⟨?_, ?_⟩, fun j hj => ⟨?_, ?_⟩⟩⟩, fun j hj => ?_⟩
  · (repeat first | refine zs_ne rfl ?_ | refine zs_miss (by omega) ?_ | refine zs_eq (by omega) ?_)
    first | rfl | omega | exact zc_o rfl | exact zc_x (by omega) (by omega) (by omega) rfl
  · (repeat first | refine zs_ne rfl ?_ | refine zs_miss (by omega) ?_ | refine zs_eq (by omega) ?_)
    first | rfl | omega | exact zc_o rfl | exact zc_x (by omega) (by omega) (by omega) rfl
  · (repeat first | refine zs_ne rfl ?_ | refine zs_miss (by omega) ?_ | refine zs_eq (by omega) ?_)
    first | rfl | omega | exact zc_o rfl | exact zc_x (by omega) (by omega) (by omega) rfl
  · (repeat first | refine zs_ne rfl ?_ | refine zs_miss (by omega) ?_ | refine zs_eq (by omega) ?_)
    first | rfl | omega | exact zc_o rfl | exact zc_x (by omega) (by omega) (by omega) rfl
  · (repeat first | refine zs_ne rfl ?_ | refine zs_miss (by omega) ?_ | refine zs_eq (by omega) ?_)
    first | rfl | omega | exact zc_o rfl | exact zc_x (by omega) (by omega) (by omega) rfl
  · (repeat first | refine zs_ne rfl ?_ | refine zs_miss (by omega) ?_ | refine zs_eq (by omega) ?_)
    first | rfl | omega | exact zc_o rfl | exact zc_x (by omega) (by omega) (by omega) rfl
  · by_cases e0 : (f : Int) = Z 2 s + 1
    · show _ = if (f : Int) = Z 2 s + 1 then o2 else if (f : Int) = Z 2 s then o1 else if (f : Int) = F then -1 else Z 5 (48 * (24 * s + (d - 1)) + f)
      rw [if_pos e0]
      (repeat first | refine zs_ne rfl ?_ | refine zs_miss (by omega) ?_ | refine zs_eq (by omega) ?_)
      first | rfl | exact zc_5 K hd hd2 hf
    · by_cases e1 : (f : Int) = Z 2 s
      · show _ = if (f : Int) = Z 2 s + 1 then o2 else if (f : Int) = Z 2 s then o1 else if (f : Int) = F then -1 else Z 5 (48 * (24 * s + (d - 1)) + f)
        rw [if_neg e0, if_pos e1]
        (repeat first | refine zs_ne rfl ?_ | refine zs_miss (by omega) ?_ | refine zs_eq (by omega) ?_)
        first | rfl | exact zc_5 K hd hd2 hf
      · by_cases e2 : (f : Int) = F
        · show _ = if (f : Int) = Z 2 s + 1 then o2 else if (f : Int) = Z 2 s then o1 else if (f : Int) = F then -1 else Z 5 (48 * (24 * s + (d - 1)) + f)
          rw [if_neg e0, if_neg e1, if_pos e2]
          (repeat first | refine zs_ne rfl ?_ | refine zs_miss (by omega) ?_ | refine zs_eq (by omega) ?_)
          first | rfl | exact zc_5 K hd hd2 hf
        · show _ = if (f : Int) = Z 2 s + 1 then o2 else if (f : Int) = Z 2 s then o1 else if (f : Int) = F then -1 else Z 5 (48 * (24 * s + (d - 1)) + f)
          rw [if_neg e0, if_neg e1, if_neg e2]
          (repeat first | refine zs_ne rfl ?_ | refine zs_miss (by omega) ?_ | refine zs_eq (by omega) ?_)
          first | rfl | exact zc_5 K hd hd2 hf
  · by_cases e0 : (f : Int) = Z 2 s + 1
    · have hm : ¬ (if (f : Int) = Z 2 s + 1 then o2 else if (f : Int) = Z 2 s then o1 else if (f : Int) = F then -1 else Z 5 (48 * (24 * s + (d - 1)) + f)) = -1 := hm
      show _ = if (f : Int) = Z 2 s + 1 then Z 6 (48 * (24 * s + (d - 1)) + F.toNat) else if (f : Int) = Z 2 s then Z 6 (48 * (24 * s + (d - 1)) + F.toNat) else Z 6 (48 * (24 * s + (d - 1)) + f)
      rw [if_pos e0] at hm
      rw [if_pos e0]
      (repeat first | refine zs_ne rfl ?_ | refine zs_miss (by omega) ?_ | refine zs_eq (by omega) ?_)
      first | rfl | exact zc_6 K hd hd2 hf hm | (refine zc_6 K hd hd2 hf ?_; first | exact hm | (rw [show f = F.toNat by omega] at *; assumption))
    · by_cases e1 : (f : Int) = Z 2 s
      · have hm : ¬ (if (f : Int) = Z 2 s + 1 then o2 else if (f : Int) = Z 2 s then o1 else if (f : Int) = F then -1 else Z 5 (48 * (24 * s + (d - 1)) + f)) = -1 := hm
        show _ = if (f : Int) = Z 2 s + 1 then Z 6 (48 * (24 * s + (d - 1)) + F.toNat) else if (f : Int) = Z 2 s then Z 6 (48 * (24 * s + (d - 1)) + F.toNat) else Z 6 (48 * (24 * s + (d - 1)) + f)
        rw [if_neg e0, if_pos e1] at hm
        rw [if_neg e0, if_pos e1]
        (repeat first | refine zs_ne rfl ?_ | refine zs_miss (by omega) ?_ | refine zs_eq (by omega) ?_)
        first | rfl | exact zc_6 K hd hd2 hf hm | (refine zc_6 K hd hd2 hf ?_; first | exact hm | (rw [show f = F.toNat by omega] at *; assumption))
      · by_cases e2 : (f : Int) = F
        · have hm : ¬ (if (f : Int) = Z 2 s + 1 then o2 else if (f : Int) = Z 2 s then o1 else if (f : Int) = F then -1 else Z 5 (48 * (24 * s + (d - 1)) + f)) = -1 := hm
          show _ = if (f : Int) = Z 2 s + 1 then Z 6 (48 * (24 * s + (d - 1)) + F.toNat) else if (f : Int) = Z 2 s then Z 6 (48 * (24 * s + (d - 1)) + F.toNat) else Z 6 (48 * (24 * s + (d - 1)) + f)
          rw [if_neg e0, if_neg e1, if_pos e2] at hm
          exact absurd rfl hm
        · have hm : ¬ (if (f : Int) = Z 2 s + 1 then o2 else if (f : Int) = Z 2 s then o1 else if (f : Int) = F then -1 else Z 5 (48 * (24 * s + (d - 1)) + f)) = -1 := hm
          show _ = if (f : Int) = Z 2 s + 1 then Z 6 (48 * (24 * s + (d - 1)) + F.toNat) else if (f : Int) = Z 2 s then Z 6 (48 * (24 * s + (d - 1)) + F.toNat) else Z 6 (48 * (24 * s + (d - 1)) + f)
          rw [if_neg e0, if_neg e1, if_neg e2] at hm
          rw [if_neg e0, if_neg e1]
          (repeat first | refine zs_ne rfl ?_ | refine zs_miss (by omega) ?_ | refine zs_eq (by omega) ?_)
          first | rfl | exact zc_6 K hd hd2 hf hm | (refine zc_6 K hd hd2 hf ?_; first | exact hm | (rw [show f = F.toNat by omega] at *; assumption))
  · (repeat first | refine zs_ne rfl ?_ | refine zs_miss (by omega) ?_ | refine zs_eq (by omega) ?_)
    first | rfl | omega | exact zc_o rfl | exact zc_x (by omega) (by omega) (by omega) rfl
  · (repeat first | refine zs_ne rfl ?_ | refine zs_miss (by omega) ?_ | refine zs_eq (by omega) ?_)
    first | rfl | omega | exact zc_o rfl | exact zc_x (by omega) (by omega) (by omega) rfl
  · (repeat first | refine zs_ne rfl ?_ | refine zs_miss (by omega) ?_ | refine zs_eq (by omega) ?_)
    first | rfl | omega | exact zc_o rfl | exact zc_x (by omega) (by omega) (by omega) rfl
  · (repeat first | refine zs_ne rfl ?_ | refine zs_miss (by omega) ?_ | refine zs_eq (by omega) ?_)
    first | rfl | omega | exact zc_o rfl | exact zc_x (by omega) (by omega) (by omega) rfl
  · (repeat first | refine zs_ne rfl ?_ | refine zs_miss (by omega) ?_ | refine zs_eq (by omega) ?_)
    first | rfl | omega | exact zc_o rfl | exact zc_x (by omega) (by omega) (by omega) rfl
  · (repeat first | refine zs_ne rfl ?_ | refine zs_miss (by omega) ?_ | refine zs_eq (by omega) ?_)
    first | rfl | omega | exact zc_o rfl | exact zc_x (by omega) (by omega) (by omega) rfl
  · (repeat first | refine zs_ne rfl ?_ | refine zs_miss (by omega) ?_ | refine zs_eq (by omega) ?_)
    first | rfl | omega | exact zc_o rfl | exact zc_x (by omega) (by omega) (by omega) rfl
  · (repeat first | refine zs_ne rfl ?_ | refine zs_miss (by omega) ?_ | refine zs_eq (by omega) ?_)
    first | rfl | omega | exact zc_o rfl | exact zc_x (by omega) (by omega) (by omega) rfl
  · (repeat first | refine zs_ne rfl ?_ | refine zs_miss (by omega) ?_ | refine zs_eq (by omega) ?_)
    first | rfl | omega | exact zc_o rfl | exact zc_x (by omega) (by omega) (by omega) rfl
  · (repeat first | refine zs_ne rfl ?_ | refine zs_miss (by omega) ?_ | refine zs_eq (by omega) ?_)
    first | rfl | omega | exact zc_o rfl | exact zc_x (by omega) (by omega) (by omega) rfl
  · (repeat first | refine zs_ne rfl ?_ | refine zs_miss (by omega) ?_ | refine zs_eq (by omega) ?_)
    first | rfl | omega | exact zc_o rfl | exact zc_x (by omega) (by omega) (by omega) rfl
  · (repeat first | refine zs_ne rfl ?_ | refine zs_miss (by omega) ?_ | refine zs_eq (by omega) ?_)
    first | rfl | omega | exact zc_o rfl | exact zc_x (by omega) (by omega) (by omega) rfl
  · (repeat first | refine zs_ne rfl ?_ | refine zs_miss (by omega) ?_ | refine zs_eq (by omega) ?_)
    first | rfl | omega | exact zc_o rfl | exact zc_x (by omega) (by omega) (by omega) rfl
  · (repeat first | refine zs_ne rfl ?_ | refine zs_miss (by omega) ?_ | refine zs_eq (by omega) ?_)
    first | rfl | omega | exact zc_o rfl | exact zc_x (by omega) (by omega) (by omega) rfl
  · (repeat first | refine zs_ne rfl ?_ | refine zs_miss (by omega) ?_ | refine zs_eq (by omega) ?_)
    first | rfl | omega | exact zc_o rfl | exact zc_x (by omega) (by omega) (by omega) rfl
  · (repeat first | refine zs_ne rfl ?_ | refine zs_miss (by omega) ?_ | refine zs_eq (by omega) ?_)
    first | rfl | omega | exact zc_o rfl | exact zc_x (by omega) (by omega) (by omega) rfl
  · (repeat first | refine zs_ne rfl ?_ | refine zs_miss (by omega) ?_ | refine zs_eq (by omega) ?_)
    first | rfl | omega | exact zc_o rfl | exact zc_x (by omega) (by omega) (by omega) rfl
  · (repeat first | refine zs_ne rfl ?_ | refine zs_miss (by omega) ?_ | refine zs_eq (by omega) ?_)
    first | rfl | omega | exact zc_o rfl | exact zc_x (by omega) (by omega) (by omega) rfl
  · (repeat first | refine zs_ne rfl ?_ | refine zs_miss (by omega) ?_ | refine zs_eq (by omega) ?_)
    first | rfl | omega | exact zc_o rfl | exact zc_x (by omega) (by omega) (by omega) rfl
  · (repeat first | refine zs_ne rfl ?_ | refine zs_miss (by omega) ?_ | refine zs_eq (by omega) ?_)
    first | rfl | omega | exact zc_o rfl | exact zc_x (by omega) (by omega) (by omega) rfl
  · funext i
    unfold inV at hj
    simp only [Bool.or_eq_false_iff, beq_eq_false_iff_ne] at hj
    obtain ⟨⟨⟨⟨⟨⟨⟨⟨⟨⟨h1, h2⟩, h3⟩, h4⟩, h5⟩, h6⟩, h7⟩, h8⟩, h9⟩, h10⟩, h48⟩ := hj
    (repeat refine zs_ne (beq_ne (by assumption)) ?_)
    exact zc_o (by simp [h5, h6, h48])
set_option maxHeartbeats 2000000 in
theorem vJoi {n o1 o2 dv F G : Int} (hs : s < 4) (K : ZS Z s) (hd : Z 1 s + 1 = (d : Int)) (hd2 : d < 24) (hn : Z 2 s ≤ 44) (eF : zatH Z s o1 = F) (hF : 0 ≤ F ∧ F < Z 2 s) (eG : zatH Z s o2 = G) (hG : 0 ≤ G ∧ G < Z 2 s) (hFG : ¬ F = G) : VS Z (zJoi Z s o1 o2 n dv) s d 4 F G (Z 2 s) (-1) dv (Z 2 s + 1) (fun f => if (f : Int) = Z 2 s then n else if (f : Int) = F then -1 else if (f : Int) = G then -1 else Z 5 (48 * (24 * s + (d - 1)) + f)) (fun f => if (f : Int) = Z 2 s then bz (¬ Z 6 (48 * (24 * s + (d - 1)) + F.toNat) = 0 ∨ ¬ Z 6 (48 * (24 * s + (d - 1)) + G.toNat) = 0) else Z 6 (48 * (24 * s + (d - 1)) + f)) := by
  have b1 := K.b1
  have b2 := K.b2
  have z1 : ∀ k0, zs Z 48 0 k0 1 s = Z 1 s := fun _ => rfl
  have z2 : ∀ k0, zs Z 48 0 k0 2 s = Z 2 s := fun _ => rfl
  unfold zJoi zmak zbeg
  rw [eF]
  rw [eG]
  dsimp only
  simp only [Int.toNat_natCast, z1, z2, hd]
  have c6 : (48 * (24 * (s : Int) + Z 1 s) + F).toNat = 48 * (24 * s + (d - 1)) + F.toNat := by omega
  have c7 : (48 * (24 * (s : Int) + Z 1 s) + G).toNat = 48 * (24 * s + (d - 1)) + G.toNat := by omega
  simp only [c6, c7]
  refine ⟨⟨?_, ?_⟩, fun f hf h2 => ⟨?_, ?_⟩, fun v f hv hf hvd => ⟨?_, ?_⟩, fun f hf => ⟨?_, fun hm => ?_⟩, fun v hv hvd => ⟨⟨?_, ?_⟩, fun j hj => ⟨?_, ?_⟩⟩, ⟨?_, fun hw => ?_, ?_, ?_, ?_, ?_⟩, fun s2 h4 hne => ⟨⟨?_, ?_⟩, fun f hf => ⟨?_, ?_⟩, fun v f hv hf => ⟨?_, ?_⟩, fun v hv => ⟨⟨?_, ?_⟩, fun j hj => ⟨?_, ?_⟩⟩⟩, fun j hj => ?_⟩
  · (repeat first | refine zs_ne rfl ?_ | refine zs_miss (by omega) ?_ | refine zs_eq (by omega) ?_)
    first | rfl | omega | exact zc_o rfl | exact zc_x (by omega) (by omega) (by omega) rfl
  · (repeat first | refine zs_ne rfl ?_ | refine zs_miss (by omega) ?_ | refine zs_eq (by omega) ?_)
    first | rfl | omega | exact zc_o rfl | exact zc_x (by omega) (by omega) (by omega) rfl
  · (repeat first | refine zs_ne rfl ?_ | refine zs_miss (by omega) ?_ | refine zs_eq (by omega) ?_)
    first | rfl | omega | exact zc_o rfl | exact zc_x (by omega) (by omega) (by omega) rfl
  · (repeat first | refine zs_ne rfl ?_ | refine zs_miss (by omega) ?_ | refine zs_eq (by omega) ?_)
    first | rfl | omega | exact zc_o rfl | exact zc_x (by omega) (by omega) (by omega) rfl
  · (repeat first | refine zs_ne rfl ?_ | refine zs_miss (by omega) ?_ | refine zs_eq (by omega) ?_)
    first | rfl | omega | exact zc_o rfl | exact zc_x (by omega) (by omega) (by omega) rfl
  · (repeat first | refine zs_ne rfl ?_ | refine zs_miss (by omega) ?_ | refine zs_eq (by omega) ?_)
    first | rfl | omega | exact zc_o rfl | exact zc_x (by omega) (by omega) (by omega) rfl
  · by_cases e0 : (f : Int) = Z 2 s
    · show _ = if (f : Int) = Z 2 s then n else if (f : Int) = F then -1 else if (f : Int) = G then -1 else Z 5 (48 * (24 * s + (d - 1)) + f)
      rw [if_pos e0]
      (repeat first | refine zs_ne rfl ?_ | refine zs_miss (by omega) ?_ | refine zs_eq (by omega) ?_)
      first | rfl | exact zc_5 K hd hd2 hf
    · by_cases e1 : (f : Int) = F
      · show _ = if (f : Int) = Z 2 s then n else if (f : Int) = F then -1 else if (f : Int) = G then -1 else Z 5 (48 * (24 * s + (d - 1)) + f)
        rw [if_neg e0, if_pos e1]
        (repeat first | refine zs_ne rfl ?_ | refine zs_miss (by omega) ?_ | refine zs_eq (by omega) ?_)
        first | rfl | exact zc_5 K hd hd2 hf
      · by_cases e2 : (f : Int) = G
        · show _ = if (f : Int) = Z 2 s then n else if (f : Int) = F then -1 else if (f : Int) = G then -1 else Z 5 (48 * (24 * s + (d - 1)) + f)
          rw [if_neg e0, if_neg e1, if_pos e2]
          (repeat first | refine zs_ne rfl ?_ | refine zs_miss (by omega) ?_ | refine zs_eq (by omega) ?_)
          first | rfl | exact zc_5 K hd hd2 hf
        · show _ = if (f : Int) = Z 2 s then n else if (f : Int) = F then -1 else if (f : Int) = G then -1 else Z 5 (48 * (24 * s + (d - 1)) + f)
          rw [if_neg e0, if_neg e1, if_neg e2]
          (repeat first | refine zs_ne rfl ?_ | refine zs_miss (by omega) ?_ | refine zs_eq (by omega) ?_)
          first | rfl | exact zc_5 K hd hd2 hf
  · by_cases e0 : (f : Int) = Z 2 s
    · have hm : ¬ (if (f : Int) = Z 2 s then n else if (f : Int) = F then -1 else if (f : Int) = G then -1 else Z 5 (48 * (24 * s + (d - 1)) + f)) = -1 := hm
      show _ = if (f : Int) = Z 2 s then bz (¬ Z 6 (48 * (24 * s + (d - 1)) + F.toNat) = 0 ∨ ¬ Z 6 (48 * (24 * s + (d - 1)) + G.toNat) = 0) else Z 6 (48 * (24 * s + (d - 1)) + f)
      rw [if_pos e0] at hm
      rw [if_pos e0]
      (repeat first | refine zs_ne rfl ?_ | refine zs_miss (by omega) ?_ | refine zs_eq (by omega) ?_)
      first | rfl | exact zc_6 K hd hd2 hf hm | (refine zc_6 K hd hd2 hf ?_; first | exact hm | (rw [show f = F.toNat by omega] at *; assumption))
    · by_cases e1 : (f : Int) = F
      · have hm : ¬ (if (f : Int) = Z 2 s then n else if (f : Int) = F then -1 else if (f : Int) = G then -1 else Z 5 (48 * (24 * s + (d - 1)) + f)) = -1 := hm
        show _ = if (f : Int) = Z 2 s then bz (¬ Z 6 (48 * (24 * s + (d - 1)) + F.toNat) = 0 ∨ ¬ Z 6 (48 * (24 * s + (d - 1)) + G.toNat) = 0) else Z 6 (48 * (24 * s + (d - 1)) + f)
        rw [if_neg e0, if_pos e1] at hm
        exact absurd rfl hm
      · by_cases e2 : (f : Int) = G
        · have hm : ¬ (if (f : Int) = Z 2 s then n else if (f : Int) = F then -1 else if (f : Int) = G then -1 else Z 5 (48 * (24 * s + (d - 1)) + f)) = -1 := hm
          show _ = if (f : Int) = Z 2 s then bz (¬ Z 6 (48 * (24 * s + (d - 1)) + F.toNat) = 0 ∨ ¬ Z 6 (48 * (24 * s + (d - 1)) + G.toNat) = 0) else Z 6 (48 * (24 * s + (d - 1)) + f)
          rw [if_neg e0, if_neg e1, if_pos e2] at hm
          exact absurd rfl hm
        · have hm : ¬ (if (f : Int) = Z 2 s then n else if (f : Int) = F then -1 else if (f : Int) = G then -1 else Z 5 (48 * (24 * s + (d - 1)) + f)) = -1 := hm
          show _ = if (f : Int) = Z 2 s then bz (¬ Z 6 (48 * (24 * s + (d - 1)) + F.toNat) = 0 ∨ ¬ Z 6 (48 * (24 * s + (d - 1)) + G.toNat) = 0) else Z 6 (48 * (24 * s + (d - 1)) + f)
          rw [if_neg e0, if_neg e1, if_neg e2] at hm
          rw [if_neg e0]
          (repeat first | refine zs_ne rfl ?_ | refine zs_miss (by omega) ?_ | refine zs_eq (by omega) ?_)
          first | rfl | exact zc_6 K hd hd2 hf hm | (refine zc_6 K hd hd2 hf ?_; first | exact hm | (rw [show f = F.toNat by omega] at *; assumption))
  · (repeat first | refine zs_ne rfl ?_ | refine zs_miss (by omega) ?_ | refine zs_eq (by omega) ?_)
    first | rfl | omega | exact zc_o rfl | exact zc_x (by omega) (by omega) (by omega) rfl
  · (repeat first | refine zs_ne rfl ?_ | refine zs_miss (by omega) ?_ | refine zs_eq (by omega) ?_)
    first | rfl | omega | exact zc_o rfl | exact zc_x (by omega) (by omega) (by omega) rfl
  · (repeat first | refine zs_ne rfl ?_ | refine zs_miss (by omega) ?_ | refine zs_eq (by omega) ?_)
    first | rfl | omega | exact zc_o rfl | exact zc_x (by omega) (by omega) (by omega) rfl
  · (repeat first | refine zs_ne rfl ?_ | refine zs_miss (by omega) ?_ | refine zs_eq (by omega) ?_)
    first | rfl | omega | exact zc_o rfl | exact zc_x (by omega) (by omega) (by omega) rfl
  · (repeat first | refine zs_ne rfl ?_ | refine zs_miss (by omega) ?_ | refine zs_eq (by omega) ?_)
    first | rfl | omega | exact zc_o rfl | exact zc_x (by omega) (by omega) (by omega) rfl
  · (repeat first | refine zs_ne rfl ?_ | refine zs_miss (by omega) ?_ | refine zs_eq (by omega) ?_)
    first | rfl | omega | exact zc_o rfl | exact zc_x (by omega) (by omega) (by omega) rfl
  · (repeat first | refine zs_ne rfl ?_ | refine zs_miss (by omega) ?_ | refine zs_eq (by omega) ?_)
    first | rfl | omega | exact zc_o rfl | exact zc_x (by omega) (by omega) (by omega) rfl
  · (repeat first | refine zs_ne rfl ?_ | refine zs_miss (by omega) ?_ | refine zs_eq (by omega) ?_)
    first | rfl | omega | exact zc_o rfl | exact zc_x (by omega) (by omega) (by omega) rfl
  · (repeat first | refine zs_ne rfl ?_ | refine zs_miss (by omega) ?_ | refine zs_eq (by omega) ?_)
    first | rfl | omega | exact zc_o rfl | exact zc_x (by omega) (by omega) (by omega) rfl
  · (repeat first | refine zs_ne rfl ?_ | refine zs_miss (by omega) ?_ | refine zs_eq (by omega) ?_)
    first | rfl | omega | exact zc_o rfl | exact zc_x (by omega) (by omega) (by omega) rfl
  · (repeat first | refine zs_ne rfl ?_ | refine zs_miss (by omega) ?_ | refine zs_eq (by omega) ?_)
    first | rfl | omega | exact zc_o rfl | exact zc_x (by omega) (by omega) (by omega) rfl
  · (repeat first | refine zs_ne rfl ?_ | refine zs_miss (by omega) ?_ | refine zs_eq (by omega) ?_)
    first | rfl | omega | exact zc_o rfl | exact zc_x (by omega) (by omega) (by omega) rfl
  · (repeat first | refine zs_ne rfl ?_ | refine zs_miss (by omega) ?_ | refine zs_eq (by omega) ?_)
    first | rfl | omega | exact zc_o rfl | exact zc_x (by omega) (by omega) (by omega) rfl
  · (repeat first | refine zs_ne rfl ?_ | refine zs_miss (by omega) ?_ | refine zs_eq (by omega) ?_)
    first | rfl | omega | exact zc_o rfl | exact zc_x (by omega) (by omega) (by omega) rfl
  · (repeat first | refine zs_ne rfl ?_ | refine zs_miss (by omega) ?_ | refine zs_eq (by omega) ?_)
    first | rfl | omega | exact zc_o rfl | exact zc_x (by omega) (by omega) (by omega) rfl
  · (repeat first | refine zs_ne rfl ?_ | refine zs_miss (by omega) ?_ | refine zs_eq (by omega) ?_)
    first | rfl | omega | exact zc_o rfl | exact zc_x (by omega) (by omega) (by omega) rfl
  · (repeat first | refine zs_ne rfl ?_ | refine zs_miss (by omega) ?_ | refine zs_eq (by omega) ?_)
    first | rfl | omega | exact zc_o rfl | exact zc_x (by omega) (by omega) (by omega) rfl
  · (repeat first | refine zs_ne rfl ?_ | refine zs_miss (by omega) ?_ | refine zs_eq (by omega) ?_)
    first | rfl | omega | exact zc_o rfl | exact zc_x (by omega) (by omega) (by omega) rfl
  · (repeat first | refine zs_ne rfl ?_ | refine zs_miss (by omega) ?_ | refine zs_eq (by omega) ?_)
    first | rfl | omega | exact zc_o rfl | exact zc_x (by omega) (by omega) (by omega) rfl
  · (repeat first | refine zs_ne rfl ?_ | refine zs_miss (by omega) ?_ | refine zs_eq (by omega) ?_)
    first | rfl | omega | exact zc_o rfl | exact zc_x (by omega) (by omega) (by omega) rfl
  · funext i
    unfold inV at hj
    simp only [Bool.or_eq_false_iff, beq_eq_false_iff_ne] at hj
    obtain ⟨⟨⟨⟨⟨⟨⟨⟨⟨⟨h1, h2⟩, h3⟩, h4⟩, h5⟩, h6⟩, h7⟩, h8⟩, h9⟩, h10⟩, h48⟩ := hj
    (repeat refine zs_ne (beq_ne (by assumption)) ?_)
    exact zc_o (by simp [h5, h6, h48])
set_option maxHeartbeats 2000000 in
theorem vDro {F : Int} (hs : s < 4) (K : ZS Z s) (hd : Z 1 s + 1 = (d : Int)) (hd2 : d < 24) (hn : Z 2 s ≤ 46) (hF : 0 ≤ F ∧ F < Z 2 s) : VS Z (zdo (zs Z 48 0 k0) s F) s d 5 F (-1) (-1) (-1) 0 (Z 2 s) (fun f => if (f : Int) = F then -1 else Z 5 (48 * (24 * s + (d - 1)) + f)) (fun f => Z 6 (48 * (24 * s + (d - 1)) + f)) := by
  have b1 := K.b1
  have b2 := K.b2
  have z1 : ∀ k0, zs Z 48 0 k0 1 s = Z 1 s := fun _ => rfl
  have z2 : ∀ k0, zs Z 48 0 k0 2 s = Z 2 s := fun _ => rfl
  unfold zdo zbeg
  simp only [Int.toNat_natCast, z1, z2, hd]
  refine ⟨⟨?_, ?_⟩, fun f hf h2 => ⟨?_, ?_⟩, fun v f hv hf hvd => ⟨?_, ?_⟩, fun f hf => ⟨?_, fun hm => ?_⟩, fun v hv hvd => ⟨⟨?_, ?_⟩, fun j hj => ⟨?_, ?_⟩⟩, ⟨?_, fun hw => ?_, ?_, ?_, ?_, ?_⟩, fun s2 h4 hne => ⟨⟨?_, ?_⟩, fun f hf => ⟨?_, ?_⟩, fun v f hv hf => ⟨?_, ?_⟩, fun v hv => ⟨⟨?_, ?_⟩, fun j hj => ⟨?_, ?_⟩⟩⟩, fun j hj => ?_⟩
  · (repeat first | refine zs_ne rfl ?_ | refine zs_miss (by omega) ?_ | refine zs_eq (by omega) ?_)
    first | rfl | omega | exact zc_o rfl | exact zc_x (by omega) (by omega) (by omega) rfl
  · (repeat first | refine zs_ne rfl ?_ | refine zs_miss (by omega) ?_ | refine zs_eq (by omega) ?_)
    first | rfl | omega | exact zc_o rfl | exact zc_x (by omega) (by omega) (by omega) rfl
  · (repeat first | refine zs_ne rfl ?_ | refine zs_miss (by omega) ?_ | refine zs_eq (by omega) ?_)
    first | rfl | omega | exact zc_o rfl | exact zc_x (by omega) (by omega) (by omega) rfl
  · (repeat first | refine zs_ne rfl ?_ | refine zs_miss (by omega) ?_ | refine zs_eq (by omega) ?_)
    first | rfl | omega | exact zc_o rfl | exact zc_x (by omega) (by omega) (by omega) rfl
  · (repeat first | refine zs_ne rfl ?_ | refine zs_miss (by omega) ?_ | refine zs_eq (by omega) ?_)
    first | rfl | omega | exact zc_o rfl | exact zc_x (by omega) (by omega) (by omega) rfl
  · (repeat first | refine zs_ne rfl ?_ | refine zs_miss (by omega) ?_ | refine zs_eq (by omega) ?_)
    first | rfl | omega | exact zc_o rfl | exact zc_x (by omega) (by omega) (by omega) rfl
  · by_cases e0 : (f : Int) = F
    · show _ = if (f : Int) = F then -1 else Z 5 (48 * (24 * s + (d - 1)) + f)
      rw [if_pos e0]
      (repeat first | refine zs_ne rfl ?_ | refine zs_miss (by omega) ?_ | refine zs_eq (by omega) ?_)
      first | rfl | exact zc_5 K hd hd2 hf
    · show _ = if (f : Int) = F then -1 else Z 5 (48 * (24 * s + (d - 1)) + f)
      rw [if_neg e0]
      (repeat first | refine zs_ne rfl ?_ | refine zs_miss (by omega) ?_ | refine zs_eq (by omega) ?_)
      first | rfl | exact zc_5 K hd hd2 hf
  · by_cases e0 : (f : Int) = F
    · have hm : ¬ (if (f : Int) = F then -1 else Z 5 (48 * (24 * s + (d - 1)) + f)) = -1 := hm
      show _ = Z 6 (48 * (24 * s + (d - 1)) + f)
      rw [if_pos e0] at hm
      exact absurd rfl hm
    · have hm : ¬ (if (f : Int) = F then -1 else Z 5 (48 * (24 * s + (d - 1)) + f)) = -1 := hm
      show _ = Z 6 (48 * (24 * s + (d - 1)) + f)
      rw [if_neg e0] at hm
      (repeat first | refine zs_ne rfl ?_ | refine zs_miss (by omega) ?_ | refine zs_eq (by omega) ?_)
      first | rfl | exact zc_6 K hd hd2 hf hm | (refine zc_6 K hd hd2 hf ?_; first | exact hm | (rw [show f = F.toNat by omega] at *; assumption))
  · (repeat first | refine zs_ne rfl ?_ | refine zs_miss (by omega) ?_ | refine zs_eq (by omega) ?_)
    first | rfl | omega | exact zc_o rfl | exact zc_x (by omega) (by omega) (by omega) rfl
  · (repeat first | refine zs_ne rfl ?_ | refine zs_miss (by omega) ?_ | refine zs_eq (by omega) ?_)
    first | rfl | omega | exact zc_o rfl | exact zc_x (by omega) (by omega) (by omega) rfl
  · (repeat first | refine zs_ne rfl ?_ | refine zs_miss (by omega) ?_ | refine zs_eq (by omega) ?_)
    first | rfl | omega | exact zc_o rfl | exact zc_x (by omega) (by omega) (by omega) rfl
  · (repeat first | refine zs_ne rfl ?_ | refine zs_miss (by omega) ?_ | refine zs_eq (by omega) ?_)
    first | rfl | omega | exact zc_o rfl | exact zc_x (by omega) (by omega) (by omega) rfl
  · (repeat first | refine zs_ne rfl ?_ | refine zs_miss (by omega) ?_ | refine zs_eq (by omega) ?_)
    first | rfl | omega | exact zc_o rfl | exact zc_x (by omega) (by omega) (by omega) rfl
  · omega
  · (repeat first | refine zs_ne rfl ?_ | refine zs_miss (by omega) ?_ | refine zs_eq (by omega) ?_)
    first | rfl | omega | exact zc_o rfl | exact zc_x (by omega) (by omega) (by omega) rfl
  · (repeat first | refine zs_ne rfl ?_ | refine zs_miss (by omega) ?_ | refine zs_eq (by omega) ?_)
    first | rfl | omega | exact zc_o rfl | exact zc_x (by omega) (by omega) (by omega) rfl
  · (repeat first | refine zs_ne rfl ?_ | refine zs_miss (by omega) ?_ | refine zs_eq (by omega) ?_)
    first | rfl | omega | exact zc_o rfl | exact zc_x (by omega) (by omega) (by omega) rfl
  · (repeat first | refine zs_ne rfl ?_ | refine zs_miss (by omega) ?_ | refine zs_eq (by omega) ?_)
    first | rfl | omega | exact zc_o rfl | exact zc_x (by omega) (by omega) (by omega) rfl
  · (repeat first | refine zs_ne rfl ?_ | refine zs_miss (by omega) ?_ | refine zs_eq (by omega) ?_)
    first | rfl | omega | exact zc_o rfl | exact zc_x (by omega) (by omega) (by omega) rfl
  · (repeat first | refine zs_ne rfl ?_ | refine zs_miss (by omega) ?_ | refine zs_eq (by omega) ?_)
    first | rfl | omega | exact zc_o rfl | exact zc_x (by omega) (by omega) (by omega) rfl
  · (repeat first | refine zs_ne rfl ?_ | refine zs_miss (by omega) ?_ | refine zs_eq (by omega) ?_)
    first | rfl | omega | exact zc_o rfl | exact zc_x (by omega) (by omega) (by omega) rfl
  · (repeat first | refine zs_ne rfl ?_ | refine zs_miss (by omega) ?_ | refine zs_eq (by omega) ?_)
    first | rfl | omega | exact zc_o rfl | exact zc_x (by omega) (by omega) (by omega) rfl
  · (repeat first | refine zs_ne rfl ?_ | refine zs_miss (by omega) ?_ | refine zs_eq (by omega) ?_)
    first | rfl | omega | exact zc_o rfl | exact zc_x (by omega) (by omega) (by omega) rfl
  · (repeat first | refine zs_ne rfl ?_ | refine zs_miss (by omega) ?_ | refine zs_eq (by omega) ?_)
    first | rfl | omega | exact zc_o rfl | exact zc_x (by omega) (by omega) (by omega) rfl
  · (repeat first | refine zs_ne rfl ?_ | refine zs_miss (by omega) ?_ | refine zs_eq (by omega) ?_)
    first | rfl | omega | exact zc_o rfl | exact zc_x (by omega) (by omega) (by omega) rfl
  · (repeat first | refine zs_ne rfl ?_ | refine zs_miss (by omega) ?_ | refine zs_eq (by omega) ?_)
    first | rfl | omega | exact zc_o rfl | exact zc_x (by omega) (by omega) (by omega) rfl
  · (repeat first | refine zs_ne rfl ?_ | refine zs_miss (by omega) ?_ | refine zs_eq (by omega) ?_)
    first | rfl | omega | exact zc_o rfl | exact zc_x (by omega) (by omega) (by omega) rfl
  · (repeat first | refine zs_ne rfl ?_ | refine zs_miss (by omega) ?_ | refine zs_eq (by omega) ?_)
    first | rfl | omega | exact zc_o rfl | exact zc_x (by omega) (by omega) (by omega) rfl
  · funext i
    unfold inV at hj
    simp only [Bool.or_eq_false_iff, beq_eq_false_iff_ne] at hj
    obtain ⟨⟨⟨⟨⟨⟨⟨⟨⟨⟨h1, h2⟩, h3⟩, h4⟩, h5⟩, h6⟩, h7⟩, h8⟩, h9⟩, h10⟩, h48⟩ := hj
    (repeat refine zs_ne (beq_ne (by assumption)) ?_)
    exact zc_o (by simp [h5, h6, h48])
theorem vAdd_n {n hw v nd : Int} (K : ZS Z s) (hd : Z 1 s + 1 = (d : Int))  : ((zAdd Z s n hw v nd) 3 (48 * s + (Z 2 s).toNat) = hw ∧ (zAdd Z s n hw v nd) 4 (48 * s + (Z 2 s).toNat) = v) := by
  have b1 := K.b1
  have b2 := K.b2
  have z1 : ∀ k0, zs Z 48 0 k0 1 s = Z 1 s := fun _ => rfl
  have z2 : ∀ k0, zs Z 48 0 k0 2 s = Z 2 s := fun _ => rfl
  unfold zAdd zmak zbeg
  try dsimp only
  simp only [Int.toNat_natCast, z1, z2, hd]
  refine ⟨?_, ?_⟩
  · (repeat first | refine zs_ne rfl ?_ | refine zs_miss (by omega) ?_ | refine zs_eq (by omega) ?_)
    first | rfl | omega
  · (repeat first | refine zs_ne rfl ?_ | refine zs_miss (by omega) ?_ | refine zs_eq (by omega) ?_)
    first | rfl | omega
theorem vTur_n {n hw F : Int} (K : ZS Z s) (hd : Z 1 s + 1 = (d : Int)) (eF : zatH Z s n = F) (hF : 0 ≤ F ∧ F < Z 2 s) : ((zTur Z s n hw) 3 (48 * s + (Z 2 s).toNat) = hw ∧ (zTur Z s n hw) 4 (48 * s + (Z 2 s).toNat) = ztur (Z 4 (48 * s + F.toNat)) (Z 3 (48 * s + F.toNat)) hw) := by
  have b1 := K.b1
  have b2 := K.b2
  have z1 : ∀ k0, zs Z 48 0 k0 1 s = Z 1 s := fun _ => rfl
  have z2 : ∀ k0, zs Z 48 0 k0 2 s = Z 2 s := fun _ => rfl
  unfold zTur zmak zbeg
  rw [eF]
  try dsimp only
  simp only [Int.toNat_natCast, z1, z2, hd]
  have c8 : (48 * (s : Int) + F).toNat = 48 * s + F.toNat := by omega
  rw [c8]
  refine ⟨?_, ?_⟩
  · (repeat first | refine zs_ne rfl ?_ | refine zs_miss (by omega) ?_ | refine zs_eq (by omega) ?_)
    first | rfl | omega
  · (repeat first | refine zs_ne rfl ?_ | refine zs_miss (by omega) ?_ | refine zs_eq (by omega) ?_)
    first | rfl | omega
theorem vSpl_n {n o1 o2 dv F : Int} (K : ZS Z s) (hd : Z 1 s + 1 = (d : Int)) (eF : zatH Z s n = F) (hF : 0 ≤ F ∧ F < Z 2 s) : ((zSpl Z s n o1 o2 dv) 3 (48 * s + (Z 2 s).toNat) = 0 ∧ (zSpl Z s n o1 o2 dv) 4 (48 * s + (Z 2 s).toNat) = (Z 4 (48 * s + F.toNat)).tdiv dv) ∧ ((zSpl Z s n o1 o2 dv) 3 (48 * s + ((Z 2 s).toNat + 1)) = 0 ∧ (zSpl Z s n o1 o2 dv) 4 (48 * s + ((Z 2 s).toNat + 1)) = (Z 4 (48 * s + F.toNat)).tmod dv) := by
  have b1 := K.b1
  have b2 := K.b2
  have z1 : ∀ k0, zs Z 48 0 k0 1 s = Z 1 s := fun _ => rfl
  have z2 : ∀ k0, zs Z 48 0 k0 2 s = Z 2 s := fun _ => rfl
  unfold zSpl zmak zbeg
  rw [eF]
  try dsimp only
  simp only [Int.toNat_natCast, z1, z2, hd]
  have c8 : (48 * (s : Int) + F).toNat = 48 * s + F.toNat := by omega
  rw [c8]
  refine ⟨⟨?_, ?_⟩, ?_, ?_⟩
  · (repeat first | refine zs_ne rfl ?_ | refine zs_miss (by omega) ?_ | refine zs_eq (by omega) ?_)
    first | rfl | omega
  · (repeat first | refine zs_ne rfl ?_ | refine zs_miss (by omega) ?_ | refine zs_eq (by omega) ?_)
    first | rfl | omega
  · (repeat first | refine zs_ne rfl ?_ | refine zs_miss (by omega) ?_ | refine zs_eq (by omega) ?_)
    first | rfl | omega
  · (repeat first | refine zs_ne rfl ?_ | refine zs_miss (by omega) ?_ | refine zs_eq (by omega) ?_)
    first | rfl | omega
theorem vJoi_n {n o1 o2 dv F G : Int} (K : ZS Z s) (hd : Z 1 s + 1 = (d : Int)) (eF : zatH Z s o1 = F) (hF : 0 ≤ F ∧ F < Z 2 s) (eG : zatH Z s o2 = G) (hG : 0 ≤ G ∧ G < Z 2 s) (hFG : ¬ F = G) : ((zJoi Z s o1 o2 n dv) 3 (48 * s + (Z 2 s).toNat) = 0 ∧ (zJoi Z s o1 o2 n dv) 4 (48 * s + (Z 2 s).toNat) = zjoi (Z 4 (48 * s + F.toNat)) (Z 4 (48 * s + G.toNat)) dv) := by
  have b1 := K.b1
  have b2 := K.b2
  have z1 : ∀ k0, zs Z 48 0 k0 1 s = Z 1 s := fun _ => rfl
  have z2 : ∀ k0, zs Z 48 0 k0 2 s = Z 2 s := fun _ => rfl
  unfold zJoi zmak zbeg
  rw [eF]
  rw [eG]
  try dsimp only
  simp only [Int.toNat_natCast, z1, z2, hd]
  have c8 : (48 * (s : Int) + F).toNat = 48 * s + F.toNat := by omega
  have c9 : (48 * (s : Int) + G).toNat = 48 * s + G.toNat := by omega
  rw [c8, c9]
  refine ⟨?_, ?_⟩
  · (repeat first | refine zs_ne rfl ?_ | refine zs_miss (by omega) ?_ | refine zs_eq (by omega) ?_)
    first | rfl | omega
  · (repeat first | refine zs_ne rfl ?_ | refine zs_miss (by omega) ?_ | refine zs_eq (by omega) ?_)
    first | rfl | omega
end V1
