/-! ===== the model stays sound: split, join, forms ===== -/
section Q4
variable {Z Y : ZT}
theorem RA.spl {s n o1 o2 d : Int} (R : RA Z) (hf : -1 ≤ zatH Z s n ∧ zatH Z s n < 48) (h1 : 0 ≤ o1 ∧ o1 ≤ 25) (h2 : 0 ≤ o2 ∧ o2 ≤ 25) (h9 : 0 ≤ Z 2 s.toNat ∧ Z 2 s.toNat + 1 < 48) : RA (zSpl Z s n o1 o2 d) := by
  have h6 := (R 6 (48 * (24 * s + Z 1 s.toNat) + zatH Z s n).toNat).2.2.1 rfl
  unfold zSpl
  exact (((((((((R.w (PR.fr rfl)).beg).w (PR.m1 rfl)).w (PR.fr rfl)).w (PR.f8 hf)).mak (by omega) (by omega) h6).w (PR.f9 (by omega))).mak (by omega) (by omega) h6).w (PR.f9 (by omega)))
theorem RA.joi {s n o1 o2 d : Int} (R : RA Z) (hf : -1 ≤ zatH Z s o1 ∧ zatH Z s o1 < 48) (hg : -1 ≤ zatH Z s o2 ∧ zatH Z s o2 < 48) (h1 : 0 ≤ n ∧ n ≤ 25) (h9 : 0 ≤ Z 2 s.toNat ∧ Z 2 s.toNat < 48) : RA (zJoi Z s o1 o2 n d) := by
  unfold zJoi
  exact ((((((((R.w (PR.fr rfl)).beg).w (PR.m1 rfl)).w (PR.m1 rfl)).w (PR.fr rfl)).w (PR.f8 hf)).w (PR.f8 hg)).mak (by omega) (by omega) (bz01 _)).w (PR.f9 (by omega))
/-- forms alone are touched -/
theorem ZI.frm (I : ZI Z) (hb : BI Y) (o : ∀ j, (j == 15 || j == 16 || j == 17 || j == 18 || j == 48) = false → Y j = Z j) (on : ∀ g : Nat, g < 8 → Z 13 0 ≤ (g : Int) → Y 16 g = Z 16 g ∧ ∀ f : Nat, f < 48 → Y 17 (48 * g + f) = Z 17 (48 * g + f)) : ZI Y := by
  obtain ⟨⟨-, b2, b3, b4, b5, b6, b7, b8⟩, n, q⟩ := I
  refine ⟨⟨hb, b2.o (o 1 rfl) (o 19 rfl) (o 20 rfl) (o 21 rfl), b3.o (o 1 rfl) (o 7 rfl) (o 9 rfl) (o 10 rfl), b4.o (o 1 rfl) (o 28 rfl) (o 29 rfl) (o 30 rfl), b5.o (o 31 rfl) (o 34 rfl) (o 37 rfl), b6.o (o 5 rfl), b7.o (o 3 rfl), SF.o (o 1 rfl) (o 8 rfl) (o 9 rfl) b8⟩, ?_, q.o (o 1 rfl) (o 7 rfl) (o 8 rfl) (o 9 rfl)⟩
  unfold NZ at *
  rw [o 0 rfl, o 1 rfl, o 2 rfl, o 5 rfl, o 11 rfl, o 13 rfl, o 19 rfl, o 23 rfl, o 24 rfl]
  refine ⟨n.1, fun g hg hy => ?_, n.2.2⟩
  obtain ⟨e16, e17⟩ := on g hg hy
  rw [e16]
  exact ⟨(n.2.1 g hg hy).1, fun f hf => by rw [e17 f hf]; exact (n.2.1 g hg hy).2 f hf⟩
theorem ZI.let0 {k : Nat} {nm : Int} (I : ZI Z) (hk : (k : Int) < Z 13 0) (hF : 0 ≤ zinF Z (k : Int) nm ∧ zinF Z (k : Int) nm < 48) : ZI (zLet0 Z k nm) := by
  have e : ∀ j, ¬ j = 17 → ¬ j = 48 → zLet0 Z k nm j = Z j := fun j h17 h48 => by unfold zLet0; rw [zs_oj (beq_ne h17), zs_oj (beq_ne h48)]
  refine I.frm (BI_fl rfl (Or.inl rfl) (BI_zs rfl I.1.1)) (fun j hj => ?_) (fun g hg hy => ⟨by rw [e 16 (by decide) (by decide)], fun f hf => ?_⟩)
  · simp only [Bool.or_eq_false_iff, beq_eq_false_iff_ne] at hj
    exact e j (by omega) (by omega)
  · unfold zLet0
    rw [zs_if, if_neg (by omega)]
    exact zs_ne rfl rfl
theorem ZI.ret0 {k : Nat} (I : ZI Z) (hk : (k : Int) < Z 13 0) : ZI (zRet0 Z k) := by
  have Yo : ∀ j, ¬ j = 17 → ¬ j = 16 → ¬ j = 48 → zRet0 Z k j = Z j := fun j h17 h16 h48 => by
    funext i
    unfold zRet0 zclr
    rw [if_neg (fun z => h17 z.1), zs_ne (beq_ne h16) (zs_ne (beq_ne h48) rfl)]
  refine I.frm (BI_zclr (BI_fl rfl (Or.inr rfl) (BI_zs rfl I.1.1))) (fun j hj => ?_) (fun g hg hy => ⟨?_, fun f hf => ?_⟩)
  · simp only [Bool.or_eq_false_iff, beq_eq_false_iff_ne] at hj
    exact Yo j (by omega) (by omega) (by omega)
  · unfold zRet0 zclr
    rw [if_neg (fun z => absurd z.1 (by decide)), Int.toNat_natCast, zs_if, if_neg (by omega)]
    exact zs_ne rfl rfl
  · unfold zRet0 zclr
    rw [if_neg (by omega)]
    exact zs_ne rfl (zs_ne rfl rfl)
theorem ZI.rnw0 {k : Nat} (I : ZI Z) (hk : (k : Int) < Z 13 0) (G : 0 ≤ Z 15 k ∧ Z 15 k ≤ Z 1 (Z 14 k).toNat) : ZI (zRnw0 Z k) := by
  have Yo : ∀ j, ¬ j = 15 → ¬ j = 17 → ¬ j = 18 → ¬ j = 48 → zRnw0 Z k j = Z j := fun j h15 h17 h18 h48 => by
    unfold zRnw0
    rw [zs_oj (beq_ne h15)]
    funext i
    unfold zrnF
    rw [if_neg (by omega)]
    exact congrFun (zs_oj (beq_ne h48)) i
  have BY : BI (zRnw0 Z k) := BI_z15 (by show 0 ≤ Z 1 _ ∧ _ ≤ Z 1 (Z 14 (k : Int).toNat).toNat; rw [Int.toNat_natCast]; omega) (BI_zrnF (BI_zs rfl I.1.1) zTo_flg zTo_flg)
  refine I.frm BY (fun j hj => ?_) (fun g hg hy => ⟨by rw [Yo 16 (by decide) (by decide) (by decide) (by decide)], fun f hf => ?_⟩)
  · simp only [Bool.or_eq_false_iff, beq_eq_false_iff_ne] at hj
    exact Yo j (by omega) (by omega) (by omega) (by omega)
  · unfold zRnw0
    refine zs_ne rfl ?_
    unfold zrnF
    rw [if_neg (by omega)]
    exact zs_ne rfl rfl
end Q4
