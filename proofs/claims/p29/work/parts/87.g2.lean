/-! ===== the relation: the waiting drops carried out ===== -/
section G2
variable {Q : AH → AO → Prop} {h g G : AH} {Z Y : ZT} {s d c : Nat} {A : Nat → Nat}
theorem vDro' {F : Int} (hs : s < 4) (K : ZS Z s) (hd : Z 1 s + 1 = (d : Int)) (hd2 : d < 24) (hF : 0 ≤ F ∧ F < Z 2 s) : VS Z (zdo Z s F) s d 5 F (-1) (-1) (-1) 0 (Z 2 s) (fun f => if (f : Int) = F then -1 else Z 5 (48 * (24 * s + (d - 1)) + f)) (fun f => Z 6 (48 * (24 * s + (d - 1)) + f)) := by
  have := vDro (k0 := Z 48 0) hs K hd hd2 K.b2.2 hF
  rw [zs_self] at this
  exact this
/-- inside the loop over the waiting drops -/
def TW (A : Nat → Nat) (h0 : AH) (Z : ZT) (s c i : Nat) (g : AH) : Prop :=
  SIMq A s g (zlaS Z s i).1 c ∧ hI g (4, s, 0) 1 = (zlaS Z s i).2 ∧ (∀ k : Nat, (k : Int) < Z 11 s → hI g (4, s, 6) k = (zlaS Z s i).1 12 (48 * s + k)) ∧ (∀ k : Nat, 0 ≤ hI g (4, s, 6) k ∧ hI g (4, s, 6) k < 46)
  ∧ ((zlaS Z s i).1 11 = Z 11 ∧ (zlaS Z s i).1 0 = Z 0) ∧ (∀ k : Nat, ((k : Int) < (zlaS Z s i).2 ∨ (i ≤ k ∧ (k : Int) < Z 11 s)) → (0 ≤ (zlaS Z s i).1 12 (48 * s + k) ∧ (zlaS Z s i).1 12 (48 * s + k) < (zlaS Z s i).1 2 s) ∧ ¬ (zlaS Z s i).1 5 (48 * (24 * s + ((zlaS Z s i).1 1 s).toNat) + ((zlaS Z s i).1 12 (48 * s + k)).toNat) = -1)
  ∧ (∀ k k' : Nat, ((k : Int) < (zlaS Z s i).2 ∨ (i ≤ k ∧ (k : Int) < Z 11 s)) → ((k' : Int) < (zlaS Z s i).2 ∨ (i ≤ k' ∧ (k' : Int) < Z 11 s)) → (zlaS Z s i).1 12 (48 * s + k) = (zlaS Z s i).1 12 (48 * s + k') → k = k')
  ∧ Fr nMo h0 g ∧ (∀ f : Nat, ¬ zhu (zlaS Z s i).1 s f = 0 ↔ ¬ zhu Z s f = 0)
/-- a waiting drop carried out -/
theorem X_to {h0 : AH} {Zi : ZT} {ji F : Int} {i : Nat} (T1 : SIMq A s g Zi c) (K1 : ZS Zi s) (T2 : hI g (4, s, 0) 1 = ji) (T3 : ∀ k : Nat, (k : Int) < Z 11 s → hI g (4, s, 6) k = Zi 12 (48 * s + k)) (T4 : ∀ k : Nat, 0 ≤ hI g (4, s, 6) k ∧ hI g (4, s, 6) k < 46)
    (T5 : Zi 11 = Z 11) (T50 : Zi 0 = Z 0) (T6 : ∀ k : Nat, ((k : Int) < ji ∨ (i ≤ k ∧ (k : Int) < Z 11 s)) → (0 ≤ Zi 12 (48 * s + k) ∧ Zi 12 (48 * s + k) < Zi 2 s) ∧ ¬ Zi 5 (48 * (24 * s + (Zi 1 s).toNat) + (Zi 12 (48 * s + k)).toNat) = -1)
    (T7 : ∀ k k' : Nat, ((k : Int) < ji ∨ (i ≤ k ∧ (k : Int) < Z 11 s)) → ((k' : Int) < ji ∨ (i ≤ k' ∧ (k' : Int) < Z 11 s)) → Zi 12 (48 * s + k) = Zi 12 (48 * s + k') → k = k')
    (T8 : Fr nMo h0 g) (T9 : ∀ f : Nat, ¬ zhu Zi s f = 0 ↔ ¬ zhu Z s f = 0) (BIi : BI Zi) (hs : (s : Int) < Z 0 0) (hd : Zi 1 s + 1 = (d : Int)) (hd2 : d < 24) (eFF : Zi 12 (48 * s + i) = F) (fF : 0 ≤ F ∧ F < Zi 2 s) (f5 : ¬ Zi 5 (48 * (24 * s + (Zi 1 s).toNat) + F.toNat) = -1) (hji : 0 ≤ ji ∧ ji ≤ i) (hi : (i : Int) < Z 11 s)
    (n1 : (zlaS Z s (i + 1)).1 = zdo Zi s F) (n2 : (zlaS Z s (i + 1)).2 = ji) (hu : zhu Zi s F = 0) : TW A h0 Z s c (i + 1) (cE g s d 5 F (-1) (-1) (-1) 0) := by
  have zz := T1.zz
  have b1 := K1.b1
  have b2 := K1.b2
  have V := vDro' (F := F) (by rw [T50] at zz; omega) K1 hd hd2 fF
  have hdn : (Zi 1 s).toNat = d - 1 := by omega
  rw [hdn] at f5
  obtain ⟨P1, P2⟩ := genD (F := F) T1 (by rw [T50]; exact hs) hd.symm hd2 V fF f5 (fun z => absurd rfl z)
  have hu2 := drop_hu (F := F) BIi.2.2.2.1 hd.symm hd2 V ⟨fF.1, by omega⟩ hu
  obtain ⟨⟨c1, c11, c2⟩, -, -, -, -, -, c6, F3⟩ := P2
  obtain ⟨⟨v1, v2⟩, -, -, vd, -, -, -, vo⟩ := V
  have o : ∀ j, inV j = false → zdo Zi s F j = Zi j := vo
  unfold TW
  rw [n1, n2, o 11 rfl, o 0 rfl, o 12 rfl, v2, v1]
  refine ⟨P1, by rw [c11]; exact T2, fun k hk => by rw [c6]; exact T3 k hk, fun k => by rw [c6]; exact T4 k, ⟨T5, T50⟩, fun k hk => ?_, fun k k' hk hk' => T7 k k' (by omega) (by omega), ?_, fun f => by rw [hu2]; exact T9 f⟩
  · obtain ⟨t1, t2⟩ := T6 k (by omega)
    refine ⟨t1, ?_⟩
    rw [Int.toNat_natCast, (vd _ (by omega)).1]
    rw [hdn] at t2
    have hne : ¬ Zi 12 (48 * s + k) = F := fun z => by
      have := T7 k i (by omega) (Or.inr ⟨by omega, hi⟩) (by rw [z, eFF])
      omega
    (try dsimp only)
    rw [if_neg (by omega)]
    exact t2
  · refine T8.tr (F3.mo (fun n z => ⟨fun y => ?_, fun y => ?_⟩))
    · have := y.1; rcases z with z | z <;> omega
    · rcases y.1 with y | y | y <;> rcases z with z | z <;> omega
end G2
