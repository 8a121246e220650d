/-! ===== the model: drops ===== -/
section M7
variable {Q : AH → AO → Prop} {h : AH} {Z : ZT}
theorem zs_zrow_c {j j0 i : Nat} {t : Nat → Int} {v : Int} (hj : Nat.beq j j0 = false) : zs (zrow Z j0 t) j i v = zrow (zs Z j i v) j0 t := by
  have hj' : ¬ j = j0 := fun e => by subst e; simp at hj
  funext a b
  unfold zs zrow
  by_cases e : a = j0
  · rw [if_neg (fun z => hj' (z.1.symm.trans e)), if_pos e, if_pos e]
  · rw [if_neg e, if_neg e]
theorem zcp_zrow {s a : Int} {n : Nat} {t : Nat → Int} : zcp (zrow Z 46 t) s a n = zrow (zcp Z s a n) 46 t := by
  funext j i
  unfold zcp zrow
  by_cases e : j = 46
  · rw [if_neg (fun z => by have := z.1; omega), if_pos e, if_pos e]
  · rw [if_neg e, if_neg e, if_neg e]
theorem zbeg_zrow {s a f w : Int} {t : Nat → Int} : zbeg (zrow Z 46 t) s a f w = zrow (zbeg Z s a f w) 46 t := by
  unfold zbeg
  rw [zcp_zrow, zs_zrow_c rfl, zs_zrow_c rfl, zs_zrow_c rfl, zs_zrow_c rfl, zs_zrow_c rfl, zs_zrow_c rfl]
def zdo (Z : ZT) (s f : Int) : ZT := zs (zs (zbeg Z s (Z 1 s.toNat + 1) (Z 2 s.toNat) 5) 5 (48 * (24 * s + (Z 1 s.toNat + 1)) + f).toNat (-1)) 8 (2 * (24 * s + (Z 1 s.toNat + 1))).toNat f
theorem zdo_zrow {s f : Int} {t : Nat → Int} : zdo (zrow Z 46 t) s f = zrow (zdo Z s f) 46 t := by
  unfold zdo
  rw [zrow_ne (x := Z 1 s.toNat) rfl rfl, zrow_ne (x := Z 2 s.toNat) rfl rfl, zbeg_zrow, zs_zrow_c rfl, zs_zrow_c rfl]
/-- all bounds -/
def BW (Z : ZT) : Prop := ∀ i, 0 ≤ Z 12 i ∧ Z 12 i < 48
def BI (Z : ZT) : Prop := BS Z ∧ BF Z ∧ BB Z ∧ BG Z ∧ BW Z ∧ (∀ s : Nat, s < 4 → Z 2 s ≤ 2 * Z 1 s)
theorem BI_zs {j i : Nat} {v : Int} (hj : (j == 3 || j == 4 || j == 5 || j == 7 || j == 10 || j == 48 || j == 19 || j == 20 || j == 21 || j == 22 || j == 23 || j == 24 || j == 25) = true) (B : BI Z) : BI (zs Z j i v) := by
  have e : ∀ j', (j' == 0 || j' == 1 || j' == 2 || j' == 11 || j' == 6 || j' == 16 || j' == 17 || j' == 18 || j' == 46 || j' == 47 || j' == 8 || j' == 9 || j' == 13 || j' == 14 || j' == 15 || j' == 12) = true → zs Z j i v j' = Z j' := by
    intro j' hj'
    funext q
    unfold zs
    rw [if_neg]
    rintro ⟨rfl, -⟩
    revert hj hj'
    simp only [Bool.or_eq_true, beq_iff_eq]
    omega
  obtain ⟨b1, b2, b3, b4, b5, b6⟩ := B
  refine ⟨?_, ?_, ?_, ?_, ?_, ?_⟩
  · unfold BS; rw [e 0 rfl, e 1 rfl, e 2 rfl, e 11 rfl]; exact b1
  · intro j' hm q
    have hm2 : j' = 6 ∨ j' = 16 ∨ j' = 17 ∨ j' = 18 ∨ j' = 46 ∨ j' = 47 := by
      unfold mkd at hm; split at hm <;> simp_all
    rw [e j' (by simp only [Bool.or_eq_true, beq_iff_eq]; omega)]
    exact b2 j' hm q
  · unfold BB; rw [e 8 rfl, e 9 rfl]; exact b3
  · unfold BG; rw [e 13 rfl, e 14 rfl, e 15 rfl, e 1 rfl]; exact b4
  · unfold BW; rw [e 12 rfl]; exact b5
  · rw [e 1 rfl, e 2 rfl]; exact b6
theorem BI_z8 {i : Nat} {v : Int} (hv : -1 ≤ v ∧ v < 48) (B : BI Z) : BI (zs Z 8 i v) := by
  obtain ⟨b1, b2, b3, b4, b5, b6⟩ := B
  refine ⟨b1, fun j hm q => ?_, fun q => ?_, b4, b5, b6⟩
  · unfold zs; rw [if_neg]
    · exact b2 j hm q
    · rintro ⟨rfl, -⟩; exact absurd hm (by decide)
  · refine ⟨?_, (b3 q).2⟩
    unfold zs; split
    · exact hv
    · exact (b3 q).1
theorem BI_z9 {i : Nat} {v : Int} (hv : -1 ≤ v ∧ v < 48) (B : BI Z) : BI (zs Z 9 i v) := by
  obtain ⟨b1, b2, b3, b4, b5, b6⟩ := B
  refine ⟨b1, fun j hm q => ?_, fun q => ?_, b4, b5, b6⟩
  · unfold zs; rw [if_neg]
    · exact b2 j hm q
    · rintro ⟨rfl, -⟩; exact absurd hm (by decide)
  · refine ⟨(b3 q).1, ?_⟩
    unfold zs; split
    · exact hv
    · exact (b3 q).2
theorem BI_z12 {i : Nat} {v : Int} (hv : 0 ≤ v ∧ v < 48) (B : BI Z) : BI (zs Z 12 i v) := by
  obtain ⟨b1, b2, b3, b4, b5, b6⟩ := B
  refine ⟨b1, fun j hm q => ?_, b3, b4, fun q => ?_, b6⟩
  · unfold zs; rw [if_neg]
    · exact b2 j hm q
    · rintro ⟨rfl, -⟩; exact absurd hm (by decide)
  · unfold zs; split
    · exact hv
    · exact b5 q
theorem BI_fl {j i : Nat} {v : Int} (hj : (j == 6 || j == 16 || j == 17 || j == 18 || j == 46 || j == 47) = true) (hv : v = 0 ∨ v = 1) (B : BI Z) : BI (zs Z j i v) := by
  have e : ∀ j', (j' == 0 || j' == 1 || j' == 2 || j' == 11 || j' == 8 || j' == 9 || j' == 13 || j' == 14 || j' == 15 || j' == 12) = true → zs Z j i v j' = Z j' := by
    intro j' hj'
    funext q
    unfold zs
    rw [if_neg]
    rintro ⟨rfl, -⟩
    revert hj hj'
    simp only [Bool.or_eq_true, beq_iff_eq]
    omega
  obtain ⟨b1, b2, b3, b4, b5, b6⟩ := B
  refine ⟨?_, ?_, ?_, ?_, ?_, ?_⟩
  · unfold BS; rw [e 0 rfl, e 1 rfl, e 2 rfl, e 11 rfl]; exact b1
  · intro j' hm q
    unfold zs; split
    · exact hv
    · exact b2 j' hm q
  · unfold BB; rw [e 8 rfl, e 9 rfl]; exact b3
  · unfold BG; rw [e 13 rfl, e 14 rfl, e 15 rfl, e 1 rfl]; exact b4
  · unfold BW; rw [e 12 rfl]; exact b5
  · rw [e 1 rfl, e 2 rfl]; exact b6
theorem BI_z1 {s : Nat} {v : Int} (hv : Z 1 s ≤ v ∧ v ≤ 23) (B : BI Z) : BI (zs Z 1 s v) := by
  obtain ⟨b1, b2, b3, b4, b5, b6⟩ := B
  refine ⟨⟨b1.1, fun q hq => ?_⟩, fun j hm q => ?_, b3, ⟨b4.1, fun g hg => ?_⟩, b5, fun q hq => ?_⟩
  · have b := b1.2 q hq
    have e : zs Z 1 s v 1 q = Z 1 q ∨ (q = s ∧ zs Z 1 s v 1 q = v) := by
      unfold zs; split
      · next z => exact Or.inr ⟨z.2, rfl⟩
      · exact Or.inl rfl
    refine ⟨?_, ?_, b.2.2⟩
    · rcases e with e | ⟨rfl, e⟩ <;> rw [e] <;> omega
    · rcases e with e | ⟨rfl, e⟩ <;> rw [e] <;> omega
  · unfold zs; rw [if_neg]
    · exact b2 j hm q
    · rintro ⟨rfl, -⟩; exact absurd hm (by decide)
  · have b := b4.2 g hg
    have e : zs Z 1 s v 1 (Z 14 g).toNat = Z 1 (Z 14 g).toNat ∨ ((Z 14 g).toNat = s ∧ zs Z 1 s v 1 (Z 14 g).toNat = v) := by
      unfold zs; split
      · next z => exact Or.inr ⟨z.2, rfl⟩
      · exact Or.inl rfl
    refine ⟨b.1, b.2.1, b.2.2.1, ?_⟩
    show Z 15 g ≤ zs Z 1 s v 1 (Z 14 g).toNat
    rcases e with e | ⟨e1, e⟩
    · rw [e]; exact b.2.2.2
    · rw [e]; subst e1; omega
  · have b := b6 q hq
    have e : zs Z 1 s v 1 q = Z 1 q ∨ (q = s ∧ zs Z 1 s v 1 q = v) := by
      unfold zs; split
      · next z => exact Or.inr ⟨z.2, rfl⟩
      · exact Or.inl rfl
    show Z 2 q ≤ 2 * zs Z 1 s v 1 q
    rcases e with e | ⟨rfl, e⟩ <;> rw [e] <;> omega
theorem BI_zcp {s a : Int} {n : Nat} (B : BI Z) : BI (zcp Z s a n) := by
  have e : ∀ j', (j' != 5 && j' != 6) = true → zcp Z s a n j' = Z j' := by
    intro j' hj'
    funext q
    exact zcp_o hj' rfl
  obtain ⟨b1, b2, b3, b4, b5, b6⟩ := B
  refine ⟨?_, ?_, ?_, ?_, ?_, ?_⟩
  · unfold BS; rw [e 0 rfl, e 1 rfl, e 2 rfl, e 11 rfl]; exact b1
  · intro j' hm q
    unfold zcp; split
    · exact b2 j' hm _
    · exact b2 j' hm q
  · unfold BB; rw [e 8 rfl, e 9 rfl]; exact b3
  · unfold BG; rw [e 13 rfl, e 14 rfl, e 15 rfl, e 1 rfl]; exact b4
  · unfold BW; rw [e 12 rfl]; exact b5
  · rw [e 1 rfl, e 2 rfl]; exact b6
theorem BI_zbeg {s a f w : Int} (B : BI Z) (ha : Z 1 s.toNat ≤ a ∧ a ≤ 23) : BI (zbeg Z s a f w) := by
  unfold zbeg
  refine BI_z9 (by omega) (BI_z9 (by omega) (BI_z8 (by omega) (BI_z8 (by omega) (BI_zs rfl (BI_z1 ?_ (BI_zcp B))))))
  rw [zcp_o rfl rfl]; exact ha
theorem BI_zdo {s f : Int} (B : BI Z) (ha : Z 1 s.toNat < 23) (hf : 0 ≤ f ∧ f < 48) : BI (zdo Z s f) := by
  unfold zdo
  exact BI_z8 (by omega) (BI_zs rfl (BI_zbeg B (by omega)))
theorem BI_zrow {t : Nat → Int} (B : BI Z) (F : flg t) : BI (zrow Z 46 t) := by
  obtain ⟨b1, b2, b3, b4, b5, b6⟩ := B
  refine ⟨b1, fun j hm q => ?_, b3, b4, b5, b6⟩
  unfold zrow; split
  · exact F q
  · exact b2 j hm q
def zcDro (Z : ZT) (s n : Int) : Int := cd2 (zatH Z s n = -1) (¬ zwt Z s (zatH Z s n) = 0 ∨ Z 1 s.toNat = 23)
end M7
