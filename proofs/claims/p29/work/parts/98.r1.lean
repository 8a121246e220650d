/-! ===== the model stays sound: drop, rename, toggleNeed ===== -/
section R1x
variable {Z Y : ZT} {h g : AH} {A A2 : Nat → Nat} {c c2 s d : Nat}
theorem ZI.wt {F : Int} (I : ZI Z) (S : SIMq A 9 g (zs (zs (zs Z 48 0 0) 12 (48 * (s : Int) + Z 11 s).toNat F) 11 s (Z 11 s + 1)) c) (hs : (s : Int) < Z 0 0) (hF : 0 ≤ F ∧ F < 48) : ZI (zs (zs (zs Z 48 0 0) 12 (48 * (s : Int) + Z 11 s).toNat F) 11 s (Z 11 s + 1)) := by
  have e : ∀ j, ¬ j = 11 → ¬ j = 12 → ¬ j = 48 → zs (zs (zs Z 48 0 0) 12 (48 * (s : Int) + Z 11 s).toNat F) 11 s (Z 11 s + 1) j = Z j := fun j h11 h12 h48 => by rw [zs_oj (beq_ne h11), zs_oj (beq_ne h12), zs_oj (beq_ne h48)]
  have e11 : ∀ x : Nat, ¬ x = s → zs (zs (zs Z 48 0 0) 12 (48 * (s : Int) + Z 11 s).toNat F) 11 s (Z 11 s + 1) 11 x = Z 11 x := fun x hx => by
    rw [zs_if, if_neg hx]; exact zs_ne rfl (zs_ne rfl rfl)
  refine I.ver2 S ((((RA.of I).w (PR.fr rfl)).w (PR.f12 hF)).w (PR.fr rfl)) (fun s' h' => ?_) (I.2.2.o (e 1 (by decide) (by decide) (by decide)) (e 7 (by decide) (by decide) (by decide)) (e 8 (by decide) (by decide) (by decide)) (e 9 (by decide) (by decide) (by decide))) (fun j hj => ?_) (fun s' h' => ?_) (fun s' h' hy => ?_)
  · rw [e 1 (by decide) (by decide) (by decide), e 2 (by decide) (by decide) (by decide)]; exact I.1.1.2.2.2.2.2 s' h'
  · unfold vrj at hj
    simp only [Bool.or_eq_false_iff, beq_eq_false_iff_ne] at hj
    exact e j (by omega) (by omega) (by omega)
  · rw [e 1 (by decide) (by decide) (by decide)]; exact Int.le_refl _
  · rw [e 1 (by decide) (by decide) (by decide), e 2 (by decide) (by decide) (by decide), e 5 (by decide) (by decide) (by decide), e11 s' (by omega)]
    exact ⟨rfl, rfl, rfl, fun _ _ _ _ => rfl⟩
theorem ZI.dro {F : Int} (I : ZI Z) (S0 : SIMq A 9 h Z c) (S : SIMq A2 9 g (zdo (zs Z 48 0 0) (s : Int) F) c2) (hs : (s : Int) < Z 0 0) (hd : Z 1 s + 1 = (d : Int)) (hd2 : d < 24) (hF : 0 ≤ F ∧ F < Z 2 s) : ZI (zdo (zs Z 48 0 0) (s : Int) F) := by
  have zz := S0.zz
  have K := (S0.sc hs).2.1
  have b2 := K.b2
  exact I.vs S (vDro (k0 := 0) (by omega) K hd hd2 (by omega) hF) hd hd2 hs (((RA.of I).w (PR.fr rfl)).dro (by omega)) (by omega) (fun w => by omega)
theorem ZI.tog {n F : Int} (I : ZI Z) (S0 : SIMq A 9 h Z c) (S : SIMq A2 9 g (zTog Z s n) c2) (hs : (s : Int) < Z 0 0) (hd : Z 1 s + 1 = (d : Int)) (hd2 : d < 24) (eF : zatH Z s n = F) (hF : 0 ≤ F ∧ F < Z 2 s) : ZI (zTog Z s n) := by
  have zz := S0.zz
  have K := (S0.sc hs).2.1
  have b2 := K.b2
  exact I.vs S (vTog (by omega) K hd hd2 (by omega) eF hF) hd hd2 hs ((RA.of I).tog (by omega)) (by omega) (fun w => by omega)
end R1x
