/-! ===== the model stays sound: drops taken off ===== -/
section R0x
variable {Z Y : ZT} {h g : AH} {A : Nat → Nat} {c s d : Nat}
theorem zdo_f {F : Int} (hs : s < 4) (hd : Z 1 s + 1 = (d : Int)) (hd1 : 1 ≤ d ∧ d < 24) (hF : 0 ≤ F ∧ F < 48) (h2 : 0 ≤ Z 2 s ∧ Z 2 s ≤ 48) : (∀ x, zdo Z (s : Int) F 1 x = if x = s then (d : Int) else Z 1 x) ∧ (∀ x, zdo Z (s : Int) F 7 x = if x = 24 * s + d then 5 else Z 7 x)
    ∧ (∀ x, ¬ x = 2 * (24 * s + d) → ¬ x = 2 * (24 * s + d) + 1 → zdo Z (s : Int) F 8 x = Z 8 x ∧ zdo Z (s : Int) F 9 x = Z 9 x) ∧ ∀ x, (x < 48 * (24 * s + d) ∨ 48 * (24 * s + d) + 48 ≤ x) → zdo Z (s : Int) F 5 x = Z 5 x := by
  unfold zdo zbeg
  rw [Int.toNat_natCast, hd, show (48 * (24 * (s : Int) + (d : Int)) + F).toNat = 48 * (24 * s + d) + F.toNat by omega, show (2 * (24 * (s : Int) + (d : Int))).toNat = 2 * (24 * s + d) by omega, show (2 * (24 * (s : Int) + (d : Int)) + 1).toNat = 2 * (24 * s + d) + 1 by omega, show (24 * (s : Int) + (d : Int)).toNat = 24 * s + d by omega]
  have z0 : ∀ j x, ¬ j = 5 → ¬ j = 6 → zcp Z (s : Int) (d : Int) (Z 2 s).toNat j x = Z j x := fun j x h5 h6 => by
    unfold zcp; rw [if_neg (by omega)]
  refine ⟨fun x => ?_, fun x => ?_, fun x h1 h2 => ⟨?_, ?_⟩, fun x hx => ?_⟩
  · refine zs_ne rfl (zs_ne rfl (zs_ne rfl (zs_ne rfl (zs_ne rfl (zs_ne rfl (zs_ne rfl ?_))))))
    rw [zs_if, z0 1 _ (by decide) (by decide)]
  · refine zs_ne rfl (zs_ne rfl (zs_ne rfl (zs_ne rfl (zs_ne rfl (zs_ne rfl ?_)))))
    rw [zs_if]
    congr 1
  · rw [zs_if, if_neg h1]
    refine zs_ne rfl (zs_ne rfl (zs_ne rfl ?_))
    rw [zs_if, if_neg h2, zs_if, if_neg h1]
    exact zs_ne rfl (zs_ne rfl (z0 8 _ (by decide) (by decide)))
  · refine zs_ne rfl (zs_ne rfl ?_)
    rw [zs_if, if_neg h2, zs_if, if_neg h1]
    exact zs_ne rfl (zs_ne rfl (zs_ne rfl (zs_ne rfl (z0 9 _ (by decide) (by decide)))))
  · refine zs_ne rfl ?_
    rw [zs_if, if_neg (by omega)]
    refine zs_ne rfl (zs_ne rfl (zs_ne rfl (zs_ne rfl (zs_ne rfl (zs_ne rfl ?_)))))
    unfold zcp
    rw [if_neg (by omega)]
/-- what taking off leaves -/
def LA (Z Y : ZT) (s : Nat) : Prop := (Z 1 s ≤ Y 1 s ∧ Y 1 s ≤ 23) ∧ (∀ s' : Nat, ¬ s' = s → Y 1 s' = Z 1 s') ∧ Y 2 = Z 2 ∧ (∀ s' v f : Nat, s' < 4 → ¬ s' = s → v < 24 → f < 48 → Y 5 (48 * (24 * s' + v) + f) = Z 5 (48 * (24 * s' + v) + f)) ∧ NQ Y
theorem LA.st {F : Int} (L : LA Z Y s) (hs : s < 4) (hz : 0 ≤ Z 1 s) (h23 : ¬ Y 1 s = 23) (hF : 0 ≤ F ∧ F < 48) (h2 : 0 ≤ Z 2 s ∧ Z 2 s ≤ 48) (hb : ∀ s' : Nat, s' < 4 → Z 1 s' ≤ 23) : LA Z (zdo Y (s : Int) F) s := by
  obtain ⟨l1, l2, l3, l5, q⟩ := L
  obtain ⟨d, ed⟩ := Int.eq_ofNat_of_zero_le (show 0 ≤ Y 1 s + 1 by omega)
  obtain ⟨f1, f7, f89, f5⟩ := zdo_f (Z := Y) (F := F) hs ed (by omega) hF (by rw [l3]; exact h2)
  have e2 : zdo Y (s : Int) F 2 = Y 2 := zdo_o2 rfl
  generalize zdo Y (s : Int) F = X at *
  refine ⟨by rw [f1, if_pos rfl]; omega, fun s' h' => by rw [f1, if_neg h']; exact l2 s' h', e2.trans l3, fun s' v f h4 h' hv hf => by rw [f5 _ (by omega)]; exact l5 s' v f h4 h' hv hf, fun s' v h' hv1 hv2 => ?_⟩
  rw [f7]
  by_cases z : 24 * s' + v = 24 * s + d
  · rw [if_pos z]; intro w; omega
  · rw [if_neg z]
    have hv3 : (v : Int) ≤ Y 1 s' ∧ v < 24 := by
      rw [f1] at hv2
      by_cases y : s' = s
      · subst y; rw [if_pos rfl] at hv2; omega
      · rw [if_neg y] at hv2
        have := l2 s' y
        have := hb s' h'
        exact ⟨hv2, by omega⟩
    intro w34 i j hi hj
    rw [(f89 (2 * (24 * s' + v) + i) (by omega) (by omega)).1, (f89 (2 * (24 * s' + v) + j) (by omega) (by omega)).2]
    exact q s' v h' hv1 hv3.1 w34 i j hi hj
theorem LA.all (I : ZI Z) (hs : s < 4) : ∀ i, LA Z (zlaS Z (s : Int) i).1 s
  | 0 => ⟨⟨Int.le_refl _, (I.1.1.1.2 s hs).2.1⟩, fun _ _ => rfl, rfl, fun _ _ _ _ _ _ _ => rfl, I.2.2⟩
  | i + 1 => by
    have ih := LA.all I hs i
    have b := ((RA.of I).laS (s := (s : Int)) i 12 (48 * (s : Int) + (i : Int)).toNat).2.2.2.2 rfl
    have c2 := I.1.1.1.2 s hs
    unfold zlaS
    split
    · next z =>
      rw [Int.toNat_natCast] at z
      exact ih.st hs c2.1 z.1 b (by omega) (fun s' h' => (I.1.1.1.2 s' h').2.1)
    · have e : ∀ j, ¬ j = 12 → zs (zlaS Z (s : Int) i).1 12 (48 * (s : Int) + (zlaS Z (s : Int) i).2).toNat ((zlaS Z (s : Int) i).1 12 (48 * (s : Int) + (i : Int)).toNat) j = (zlaS Z (s : Int) i).1 j := fun j hj => zs_oj (beq_ne hj)
      obtain ⟨l1, l2, l3, l5, q⟩ := ih
      show LA Z (zs (zlaS Z (s : Int) i).1 12 (48 * (s : Int) + (zlaS Z (s : Int) i).2).toNat ((zlaS Z (s : Int) i).1 12 (48 * (s : Int) + (i : Int)).toNat)) s
      unfold LA
      rw [e 1 (by decide), e 2 (by decide), e 5 (by decide)]
      exact ⟨l1, l2, l3, l5, q.o (e 1 (by decide)) (e 7 (by decide)) (e 8 (by decide)) (e 9 (by decide))⟩
theorem ZI.la (I : ZI Z) (S : SIMq A 9 g (zla Z (s : Int)) c) (hs : (s : Int) < Z 0 0) : ZI (zla Z (s : Int)) := by
  have c1 := I.1.1.1.1
  have hs4 : s < 4 := by omega
  have e : ∀ j, ¬ j = 11 → zla Z (s : Int) j = (zlaS Z (s : Int) (Z 11 s).toNat).1 j := fun j hj => by
    unfold zla; rw [Int.toNat_natCast, zs_oj (beq_ne hj)]
  obtain ⟨l1, l2, l3, l5, q⟩ := LA.all I hs4 (Z 11 s).toNat
  have e11 : ∀ x : Nat, ¬ x = s → zla Z (s : Int) 11 x = Z 11 x := fun x hx => by
    unfold zla
    rw [Int.toNat_natCast, zs_if, if_neg hx, zlaS_o rfl (by decide)]
  refine I.ver2 S (RA.of I).la (fun s' h' => ?_) (q.o (e 1 (by decide)) (e 7 (by decide)) (e 8 (by decide)) (e 9 (by decide))) (fun j hj => ?_) (fun s' h' => ?_) (fun s' h' hy => ?_)
  · rw [e 1 (by decide), e 2 (by decide), l3]
    have := I.1.1.2.2.2.2.2 s' h'
    by_cases z : s' = s
    · subst z; omega
    · have := l2 s' z; omega
  · unfold vrj at hj
    simp only [Bool.or_eq_false_iff, beq_eq_false_iff_ne] at hj
    exact zla_o (by simp only [Bool.and_eq_true, bne_iff_ne, ne_eq]; omega) (by omega) (by omega)
  · rw [e 1 (by decide)]
    by_cases z : s' = s
    · subst z; omega
    · have := l2 s' z; omega
  · have z : ¬ s' = s := by omega
    rw [e 1 (by decide), e 2 (by decide), e 5 (by decide), l3, e11 s' z]
    exact ⟨l2 s' z, rfl, rfl, fun v f hv hf => l5 s' v f h' z hv hf⟩
end R0x
