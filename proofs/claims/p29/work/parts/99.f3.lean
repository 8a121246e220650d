/-! ===== a move taken back ===== -/
section F3
variable {h g G : AH} {Z Y : ZT} {c b L r0 mv : Nat}
/-- the law's arrays, the row r0 as the copies of the mover mv tell -/
def FU (mv r0 : Nat) (h g : AH) : Prop := FL (fun j => j = 5 ∨ j = 6 ∨ j = 7 ∨ j = 8) h g ∧ ((∀ i, ¬ (10 * r0 ≤ i ∧ i < 10 * r0 + 10) → hI g (la 5) i = hI h (la 5) i) ∧ (∀ i, ¬ (2 * r0 ≤ i ∧ i < 2 * r0 + 2) → hI g (la 6) i = hI h (la 6) i) ∧ ∀ i, ¬ (13 * r0 + 1 ≤ i ∧ i < 13 * r0 + 12) → hL g (la 7) i = hL h (la 7) i)
  ∧ ((∀ j : Nat, j < 10 → hI g (la 5) (10 * r0 + j) = hI h (la 10) (12 * mv + j)) ∧ hI g (la 6) (2 * r0) = hI h (la 10) (12 * mv + 10) ∧ hI g (la 6) (2 * r0 + 1) = hI h (la 10) (12 * mv + 11) ∧ ∀ w : Nat, 1 ≤ w → w < 12 → hL g (la 7) (13 * r0 + w) = hL h (la 11) (13 * mv + w))
  ∧ (∀ i, ¬ i = 3 * mv + 2 → hI g (la 8) i = hI h (la 8) i) ∧ hI g (la 8) (3 * mv + 2) = 0
theorem zUnd_23 {m : Int} {t : Int} (h34 : Z 34 t.toNat = (r0 : Int)) : zUnd Z m t 23 r0 = Z 38 t.toNat := by
  unfold zUnd
  rw [h34]
  refine zs_ne rfl (zs_ne rfl ?_)
  unfold zUnd2 zUnd1 zUnd0
  rw [zUf_o rfl, zUf_o rfl, zUb_o rfl, zUb_o rfl]
  exact zs_ne rfl (zs_eq (by omega) rfl)
theorem und_go (J : IV L h Z c b) (V : JV h Z) (hmv : (mv : Int) < Z 28 0) (hr0 : (r0 : Int) < Z 19 0) (hm1 : hI h (la 8) (3 * mv + 1) = (r0 : Int)) (hm2 : hI h (la 8) (3 * mv + 2) = 1) (U : UD h Z mv r0) (F : FU mv r0 h g) (S : SIM G (zUnd Z (mv : Int) (Z 31 mv)) c) (I : ZI (zUnd Z (mv : Int) (Z 31 mv))) (Fr : Fr nMo g G) : IV L G (zUnd Z (mv : Int) (Z 31 mv)) c b ∧ JV G (zUnd Z (mv : Int) (Z 31 mv)) := by
  obtain ⟨u1, u2, u3, u4, u5⟩ := U
  obtain ⟨f1, ⟨f2, f3, f4⟩, ⟨f5, f6, f7, f8⟩, f9, f10⟩ := F
  have K := J.K
  have b1 := K.b1
  have v2 := V.b2
  have v3 := V.b3
  have BBz := J.I.1.1.2.2.1
  obtain ⟨R, B, h20⟩ := V.r hr0
  have bv := B.v
  obtain ⟨x1, x2⟩ := zUnd_21 (m := (mv : Int)) u2
  have uv := u5.v
  rw [x1, x2] at uv
  have e23 := zUnd_23 (m := (mv : Int)) u2
  have et : (((Z 31 mv).toNat : Nat) : Int) = Z 31 mv := Int.toNat_of_nonneg u1.1
  have eA : ∃ i : Nat, (i : Int) ≤ Z 1 0 ∧ zundA Z (r0 : Int) (Z 31 mv) = (i : Int) := by
    unfold zundA
    rw [Int.toNat_natCast]
    split
    · exact ⟨(Z 21 r0).toNat, by omega, by omega⟩
    · exact ⟨(Z 37 (Z 31 mv).toNat).toNat, by omega, by omega⟩
  obtain ⟨i, hi, eA⟩ := eA
  have xx : ∀ x : Nat, ¬ x = r0 → zRw (zUnd Z (mv : Int) (Z 31 mv)) Z x ∧ zUnd Z (mv : Int) (Z 31 mv) 26 x = Z 26 x := fun x hx => by
    have := zUnd_x (Z := Z) (t := (Z 31 mv).toNat) (r := r0) (i := i) (m := (mv : Int)) (x := x) u2 (by rw [et]; exact eA) (by omega) (fun u j => zon_rng BBz) hx
    rw [et] at this
    exact this
  have o : ∀ j, (j == 21 || j == 22 || j == 23 || j == 24 || j == 25 || j == 26 || j == 31 || j == 48) = false → zUnd Z (mv : Int) (Z 31 mv) j = Z j := fun j hj => by
    simp only [Bool.or_eq_false_iff, beq_eq_false_iff_ne] at hj
    unfold zUnd
    rw [zs_oj (beq_ne hj.1.2), zs_oj (beq_ne hj.1.1.2), zUnd2_o (by simp only [Bool.and_eq_true, bne_iff_ne, ne_eq]; omega)]
  have o31 : ∀ k : Nat, ¬ k = mv → zUnd Z (mv : Int) (Z 31 mv) 31 k = Z 31 k := fun k hk => by
    unfold zUnd
    rw [Int.toNat_natCast]
    refine zs_miss hk (zs_ne rfl ?_)
    rw [zUnd2_o rfl]
  have eS : ∀ j, sj j = true → zUnd Z (mv : Int) (Z 31 mv) j = Z j := fun j hj => o j (by
    unfold sj at hj
    simp only [Bool.or_eq_true, beq_iff_eq] at hj
    rcases hj with ((((((((rfl | rfl) | rfl) | rfl) | rfl) | rfl) | rfl) | rfl) | rfl) | rfl <;> rfl)
  have J1 : IV L g Z c b := J.fl f1
  have lb := J.lb
  have LY : LB (zUnd Z (mv : Int) (Z 31 mv)) c := by
    refine ⟨fun x => ?_, fun t => by rw [o 38 rfl]; exact lb.2 t⟩
    by_cases hx : x = r0
    · rw [hx, e23]; exact lb.2 _
    · rw [(xx x hx).1.2.1]; exact lb.1 x
  have row0 : LR g (zUnd Z (mv : Int) (Z 31 mv)) r0 r0 := by
    obtain ⟨l1, l2, l3, l4⟩ := u4
    exact ⟨fun k hk => (f5 k hk).trans (l1 k hk), f6.trans l2, f7.trans l3, fun w h1 h2 => (f8 w h1 h2).trans (l4 w h1 h2)⟩
  generalize zUnd Z (mv : Int) (Z 31 mv) = Y at *
  refine ⟨J1.go Fr S I ⟨by rw [o 0 rfl]; exact J.z0, by rw [o 13 rfl]; exact J.z13, by rw [o 11 rfl]; exact J.z11, LY⟩ (QX.o eS J.X), ?_⟩
  refine JV.as (h := g) (la_mo Fr) ?_
  refine V.rw0 (r0 := r0) (mv := mv) (f1.mo (fun j e => by omega)) eS (by rw [o 19 rfl]) (by rw [o 28 rfl]) (o 20 rfl) (fun q _ hq => xx q hq) (fun t _ => ⟨⟨by rw [o 34 rfl], by rw [o 35 rfl], by rw [o 37 rfl], by rw [o 38 rfl], by rw [o 39 rfl]⟩, fun j _ => ⟨by rw [o 40 rfl], by rw [o 41 rfl], by rw [o 42 rfl]⟩⟩) (by rw [o 32 rfl]; exact Int.le_refl _) (fun q w a1 a2 a3 a4 => by rw [f4 _ (by omega)]; exact V.fz q w a1 a2 a3 a4) (fun q hq hr R' => ?_) (fun _ => ⟨row0, u5⟩) (o 29 rfl) (o 30 rfl) (fun k hk hkm => ⟨⟨f9 _ (by omega), f9 _ (by omega)⟩, ?_, o31 k hkm, fun j _ => f1.I (by decide) _, fun j _ _ => f1.L (by decide) _⟩) (fun _ => ⟨f9 _ (by omega), ?_, Or.inl f10⟩)
  · obtain ⟨r1, r2, r3, r4⟩ := R'
    exact ⟨fun k hk => by rw [f2 _ (by omega)]; exact r1 k hk, by rw [f3 _ (by omega)]; exact r2, by rw [f3 _ (by omega)]; exact r3, fun w h1 h2 => by rw [f4 _ (by omega)]; exact r4 w h1 h2⟩
  · rw [f9 _ (by omega)]
    by_cases er : hI h (la 8) (3 * k + 1) = (r0 : Int)
    · rw [if_pos er]
      rcases (V.m.1 k hk).2 with ⟨z1, z2, z3⟩ | ⟨z1, z2⟩
      · exact z3
      · rcases z2 with z2 | z2
        · exact z2
        · exact absurd (er.trans hm1.symm) (V.m.2 k mv hk hmv hkm z2.1 hm2)
    · rw [if_neg er]
  · rw [f9 _ (by omega), hm1]; omega
end F3
