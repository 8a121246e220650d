/-! ===== the model stays sound: what is left alone ===== -/
section P0
variable {Z Y : ZT} {h : AH} {A : Nat → Nat} {c : Nat}
def bij (j : Nat) : Bool := j == 0 || j == 1 || j == 2 || j == 6 || j == 8 || j == 9 || j == 11 || j == 12 || j == 13 || j == 14 || j == 15 || j == 16 || j == 17 || j == 18 || j == 46 || j == 47
theorem mkd_bij {j : Nat} (hj : mkd j = 21) : bij j = true := by
  unfold mkd at hj
  split at hj
  all_goals first | rfl | (exact absurd hj (by decide))
theorem BI.o (e : ∀ j, bij j = true → Y j = Z j) (B : BI Z) : BI Y := by
  obtain ⟨⟨b1, b2⟩, b3, b4, ⟨b5, b6⟩, b7, b8⟩ := B
  refine ⟨⟨by rw [e 0 rfl]; exact b1, fun s hs => by rw [e 1 rfl, e 2 rfl, e 11 rfl]; exact b2 s hs⟩, fun j hj i => by rw [e j (mkd_bij hj)]; exact b3 j hj i, fun i => by rw [e 8 rfl, e 9 rfl]; exact b4 i, ⟨by rw [e 13 rfl]; exact b5, fun g hg => by rw [e 14 rfl, e 15 rfl, e 1 rfl]; exact b6 g hg⟩, fun i => by rw [e 12 rfl]; exact b7 i, fun s hs => by rw [e 1 rfl, e 2 rfl]; exact b8 s hs⟩
theorem BR.o (e1 : Y 1 = Z 1) (e19 : Y 19 = Z 19) (e20 : Y 20 = Z 20) (e21 : Y 21 = Z 21) (B : BR Z) : BR Y := by
  unfold BR at *; rw [e1, e19, e20, e21]; exact B
theorem BT.o (e1 : Y 1 = Z 1) (e7 : Y 7 = Z 7) (e9 : Y 9 = Z 9) (e10 : Y 10 = Z 10) (B : BT Z) : BT Y := fun s h1 h2 => stS_c e1 e7 e9 e10 (B s h1 h2)
theorem BM.o (e1 : Y 1 = Z 1) (e28 : Y 28 = Z 28) (e29 : Y 29 = Z 29) (e30 : Y 30 = Z 30) (B : BM Z) : BM Y := by
  unfold BM at *; rw [e1, e28, e29, e30]; exact B
theorem BL.o (e31 : Y 31 = Z 31) (e34 : Y 34 = Z 34) (e37 : Y 37 = Z 37) (B : BL Z) : BL Y := by
  unfold BL at *; rw [e31, e34, e37]; exact B
theorem BN.o (e5 : Y 5 = Z 5) (B : BN Z) : BN Y := by unfold BN at *; rw [e5]; exact B
theorem BK.o (e3 : Y 3 = Z 3) (B : BK Z) : BK Y := by unfold BK at *; rw [e3]; exact B
def SF (Z : ZT) : Prop := ∀ s a : Int, 0 ≤ s → s < 4 → 1 ≤ a → a ≤ Z 1 s.toNat → stF Z (24 * s + a)
theorem SF.o (e1 : Y 1 = Z 1) (e8 : Y 8 = Z 8) (e9 : Y 9 = Z 9) (B : SF Z) : SF Y := by
  unfold SF stF zfr zbe at *; rw [e1, e8, e9]; exact B
theorem NQ.o (e1 : Y 1 = Z 1) (e7 : Y 7 = Z 7) (e8 : Y 8 = Z 8) (e9 : Y 9 = Z 9) (B : NQ Z) : NQ Y := by
  unfold NQ at *; rw [e1, e7, e8, e9]; exact B
/-- all that is known of the model alone -/
def ZI (Z : ZT) : Prop := ZB Z ∧ NZ Z ∧ NQ Z
theorem ZI_0 (Z0 : Z00 Z) : ZI Z := ⟨ZB_0 Z0, NZ_0 Z0, NQ_0 Z0⟩
theorem ZI.o (e : ∀ j, (decide (j < 43) || j == 46 || j == 47) = true → Y j = Z j) (I : ZI Z) : ZI Y := by
  obtain ⟨⟨b1, b2, b3, b4, b5, b6, b7, b8⟩, n, q⟩ := I
  refine ⟨⟨b1.o (fun j hj => e j ?_), b2.o (e 1 rfl) (e 19 rfl) (e 20 rfl) (e 21 rfl), b3.o (e 1 rfl) (e 7 rfl) (e 9 rfl) (e 10 rfl), b4.o (e 1 rfl) (e 28 rfl) (e 29 rfl) (e 30 rfl), b5.o (e 31 rfl) (e 34 rfl) (e 37 rfl), b6.o (e 5 rfl), b7.o (e 3 rfl), SF.o (e 1 rfl) (e 8 rfl) (e 9 rfl) b8⟩, ?_, q.o (e 1 rfl) (e 7 rfl) (e 8 rfl) (e 9 rfl)⟩
  · unfold bij at hj
    simp only [Bool.or_eq_true, beq_iff_eq] at hj
    simp only [Bool.or_eq_true, beq_iff_eq, decide_eq_true_eq]
    omega
  · unfold NZ at *
    rw [e 0 rfl, e 1 rfl, e 2 rfl, e 5 rfl, e 11 rfl, e 13 rfl, e 16 rfl, e 17 rfl, e 19 rfl, e 23 rfl, e 24 rfl]; exact n
theorem ZI.w48 {i : Nat} {x : Int} (I : ZI Z) : ZI (zs Z 48 i x) := I.o (fun j hj => zs_oj (beq_ne (by rintro rfl; exact absurd hj (by decide))))
/-- schema -/
theorem ZI.sch (I : ZI Z) (h4 : Z 0 0 < 4) : ZI (zs (zs Z 48 0 0) 0 0 (Z 0 0 + 1)) := by
  obtain ⟨⟨b1, b2, b3, b4, b5, b6, b7, b8⟩, n, q⟩ := I
  have y0 : zs (zs Z 48 0 0) 0 0 (Z 0 0 + 1) 0 0 = Z 0 0 + 1 := zs_eq rfl rfl
  have ya : ∀ j, ¬ j = 0 → ¬ j = 48 → zs (zs Z 48 0 0) 0 0 (Z 0 0 + 1) j = Z j := fun j h0 h48 => by rw [zs_oj (beq_ne h0), zs_oj (beq_ne h48)]
  generalize zs (zs Z 48 0 0) 0 0 (Z 0 0 + 1) = Y at *
  have e := fun j (h : (j == 0 || j == 48) = false) => ya j (fun z => by subst z; exact absurd h (by decide)) (fun z => by subst z; exact absurd h (by decide))
  obtain ⟨⟨c1, c2⟩, c3, c4, ⟨c5, c6⟩, c7, c8⟩ := b1
  refine ⟨⟨⟨⟨by omega, fun s hs => by rw [e 1 rfl, e 2 rfl, e 11 rfl]; exact c2 s hs⟩, fun j hj i => ?_, fun i => by rw [e 8 rfl, e 9 rfl]; exact c4 i, ⟨by rw [e 13 rfl]; exact c5, fun g hg => by rw [e 14 rfl, e 15 rfl, e 1 rfl]; exact c6 g hg⟩, fun i => by rw [e 12 rfl]; exact c7 i, fun s hs => by rw [e 1 rfl, e 2 rfl]; exact c8 s hs⟩, b2.o (e 1 rfl) (e 19 rfl) (e 20 rfl) (e 21 rfl), b3.o (e 1 rfl) (e 7 rfl) (e 9 rfl) (e 10 rfl), b4.o (e 1 rfl) (e 28 rfl) (e 29 rfl) (e 30 rfl), b5.o (e 31 rfl) (e 34 rfl) (e 37 rfl), b6.o (e 5 rfl), b7.o (e 3 rfl), SF.o (e 1 rfl) (e 8 rfl) (e 9 rfl) b8⟩, ?_, q.o (e 1 rfl) (e 7 rfl) (e 8 rfl) (e 9 rfl)⟩
  · rw [e j (by
      have hb := mkd_bij hj
      have h0 : ¬ j = 0 := by rintro rfl; exact absurd hj (by decide)
      have h48 : ¬ j = 48 := by rintro rfl; exact absurd hj (by decide)
      simp [h0, h48])]; exact c3 j hj i
  · unfold NZ at *
    rw [y0, e 1 rfl, e 2 rfl, e 5 rfl, e 11 rfl, e 13 rfl, e 16 rfl, e 17 rfl, e 19 rfl, e 23 rfl, e 24 rfl]
    exact ⟨fun s hs h => n.1 s hs (by omega), n.2⟩
/-- form -/
theorem ZI.for {s : Nat} (I : ZI Z) (hs : (s : Int) < Z 0 0) (h8 : ¬ Z 13 0 = 8) : ZI (zFor Z s) := by
  obtain ⟨⟨b1, b2, b3, b4, b5, b6, b7, b8⟩, n, q⟩ := I
  obtain ⟨⟨c1, c2⟩, c3, c4, ⟨c5, c6⟩, c7, c8⟩ := b1
  have cs := c2 s (by omega)
  obtain ⟨m, em⟩ := Int.eq_ofNat_of_zero_le c5.1
  have y13 : zFor Z s 13 0 = (m : Int) + 1 := by unfold zFor; rw [zs_eq rfl rfl, em]
  have y14 : ∀ x, zFor Z s 14 x = if x = m then (s : Int) else Z 14 x := fun x => by
    unfold zFor
    rw [em, Int.toNat_natCast, Int.toNat_natCast]
    refine zs_ne rfl (zs_ne rfl ?_)
    rw [zs_if]; rfl
  have y15 : ∀ x, zFor Z s 15 x = if x = m then Z 1 s else Z 15 x := fun x => by
    unfold zFor
    rw [em, Int.toNat_natCast, Int.toNat_natCast]
    refine zs_ne rfl ?_
    rw [zs_if]; rfl
  have e : ∀ j, (j == 13 || j == 14 || j == 15 || j == 48) = false → zFor Z s j = Z j := fun j hj => by
    simp only [Bool.or_eq_false_iff, beq_eq_false_iff_ne] at hj
    obtain ⟨⟨⟨h13, h14⟩, h15⟩, h48⟩ := hj
    unfold zFor; rw [zs_oj (beq_ne h13), zs_oj (beq_ne h15), zs_oj (beq_ne h14), zs_oj (beq_ne h48)]
  generalize zFor Z s = Y at *
  refine ⟨⟨⟨⟨by rw [e 0 rfl]; exact c1, fun s hs => by rw [e 1 rfl, e 2 rfl, e 11 rfl]; exact c2 s hs⟩, fun j hj i => ?_, fun i => by rw [e 8 rfl, e 9 rfl]; exact c4 i, ⟨by rw [y13]; omega, fun g hg => ?_⟩, fun i => by rw [e 12 rfl]; exact c7 i, fun s hs => by rw [e 1 rfl, e 2 rfl]; exact c8 s hs⟩, b2.o (e 1 rfl) (e 19 rfl) (e 20 rfl) (e 21 rfl), b3.o (e 1 rfl) (e 7 rfl) (e 9 rfl) (e 10 rfl), b4.o (e 1 rfl) (e 28 rfl) (e 29 rfl) (e 30 rfl), b5.o (e 31 rfl) (e 34 rfl) (e 37 rfl), b6.o (e 5 rfl), b7.o (e 3 rfl), SF.o (e 1 rfl) (e 8 rfl) (e 9 rfl) b8⟩, ?_, q.o (e 1 rfl) (e 7 rfl) (e 8 rfl) (e 9 rfl)⟩
  · have ne : ∀ x, ¬ mkd x = 21 → ¬ j = x := fun x hx w => hx (w ▸ hj)
    rw [e j (by simp [ne 13 (by decide), ne 14 (by decide), ne 15 (by decide), ne 48 (by decide)])]; exact c3 j hj i
  · rw [y14, y15, e 1 rfl]
    by_cases z : g = m
    · rw [if_pos z, if_pos z, Int.toNat_natCast]; omega
    · rw [if_neg z, if_neg z]; exact c6 g hg
  · unfold NZ at *
    rw [y13, e 0 rfl, e 1 rfl, e 2 rfl, e 5 rfl, e 11 rfl, e 16 rfl, e 17 rfl, e 19 rfl, e 23 rfl, e 24 rfl]
    exact ⟨n.1, fun g hg h => n.2.1 g hg (by omega), n.2.2⟩
end P0
