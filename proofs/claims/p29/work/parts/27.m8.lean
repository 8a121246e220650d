/-! ===== the model: looks at drops; forms ===== -/
section M8
variable {Q : AH → AO → Prop} {h : AH} {Z : ZT}
def zlaS (Z : ZT) (s : Int) : Nat → ZT × Int
  | 0 => (Z, 0)
  | i + 1 => if ¬ (zlaS Z s i).1 1 s.toNat = 23 ∧ zhu (zlaS Z s i).1 s ((zlaS Z s i).1 12 (48 * s + (i : Int)).toNat) = 0 then (zdo (zlaS Z s i).1 s ((zlaS Z s i).1 12 (48 * s + (i : Int)).toNat), (zlaS Z s i).2)
    else (zs (zlaS Z s i).1 12 (48 * s + (zlaS Z s i).2).toNat ((zlaS Z s i).1 12 (48 * s + (i : Int)).toNat), (zlaS Z s i).2 + 1)
theorem zlaS_d {s : Int} {i : Nat} (c : ¬ (zlaS Z s i).1 1 s.toNat = 23 ∧ zhu (zlaS Z s i).1 s ((zlaS Z s i).1 12 (48 * s + (i : Int)).toNat) = 0) : zlaS Z s (i + 1) = (zdo (zlaS Z s i).1 s ((zlaS Z s i).1 12 (48 * s + (i : Int)).toNat), (zlaS Z s i).2) := by
  rw [zlaS]; rw [if_pos c]
theorem zlaS_n {s : Int} {i : Nat} (c : ¬ (¬ (zlaS Z s i).1 1 s.toNat = 23 ∧ zhu (zlaS Z s i).1 s ((zlaS Z s i).1 12 (48 * s + (i : Int)).toNat) = 0)) : zlaS Z s (i + 1) = (zs (zlaS Z s i).1 12 (48 * s + (zlaS Z s i).2).toNat ((zlaS Z s i).1 12 (48 * s + (i : Int)).toNat), (zlaS Z s i).2 + 1) := by
  rw [zlaS]; rw [if_neg c]
theorem zlaS_j {s : Int} : ∀ i : Nat, 0 ≤ (zlaS Z s i).2 ∧ (zlaS Z s i).2 ≤ i
  | 0 => ⟨by show (0 : Int) ≤ 0; omega, by show (0 : Int) ≤ 0; omega⟩
  | i + 1 => by
    have := zlaS_j (s := s) i
    rw [zlaS]; split <;> dsimp only <;> omega
theorem zlaS_BI {s : Int} (B : BI Z) (hs : 0 ≤ s ∧ s < 4) : ∀ i : Nat, BI (zlaS Z s i).1
  | 0 => B
  | i + 1 => by
    have B := zlaS_BI B hs i
    have b := B.1.2 s.toNat (by omega)
    have w := B.2.2.2.2.1 (48 * s + (i : Int)).toNat
    rw [zlaS]; split
    · next c => exact BI_zdo B (by omega) w
    · exact BI_z12 w B
def zla (Z : ZT) (s : Int) : ZT := zs (zlaS Z s (Z 11 s.toNat).toNat).1 11 s.toNat (zlaS Z s (Z 11 s.toNat).toNat).2
def zlaN (Z : ZT) (s : Int) : Int := Z 11 s.toNat - (zlaS Z s (Z 11 s.toNat).toNat).2
theorem BI_z11 {s : Nat} {v : Int} (hv : 0 ≤ v ∧ v ≤ 46) (B : BI Z) : BI (zs Z 11 s v) := by
  obtain ⟨b1, b2, b3, b4, b5, b6⟩ := B
  refine ⟨⟨b1.1, fun q hq => ?_⟩, fun j hm q => ?_, b3, b4, b5, b6⟩
  · have b := b1.2 q hq
    refine ⟨b.1, b.2.1, b.2.2.1, b.2.2.2.1, ?_⟩
    unfold zs; split
    · exact hv
    · exact b.2.2.2.2
  · unfold zs; rw [if_neg]
    · exact b2 j hm q
    · rintro ⟨rfl, -⟩; exact absurd hm (by decide)
theorem BI_zla {s : Int} (B : BI Z) (hs : 0 ≤ s ∧ s < 4) : BI (zla Z s) := by
  have b := B.1.2 s.toNat (by omega)
  have := zlaS_j (Z := Z) (s := s) (Z 11 s.toNat).toNat
  exact BI_z11 (by omega) (zlaS_BI B hs _)
end M8
