/-! ===== a mover's step, in the model: the notes, the row taken back ===== -/
section G2
variable {h g G : AH} {Z Y X : ZT} {A : Nat → Nat} {c b L r m i t a f : Nat} {u l0 l1 g0 g1 r0 r1 : Int}
theorem zY1_n {j x : Nat} (hj : ntk j = true) : zY1 Z Y j x = Y j x := by
  unfold zY1; rw [if_pos hj]
/-- what a move leaves of a row -/
def MK (r a : Nat) (Y Z : ZT) : Prop := (∀ w, ¬ w = a → Y 24 (24 * r + w) = Z 24 (24 * r + w)) ∧ (∀ j, ¬ j = 2 * a → ¬ j = 2 * a + 1 → Y 25 (48 * r + j) = Z 25 (48 * r + j)) ∧ (Y 23 r = Z 23 r ∨ Y 23 r = wr (Z 23 r + 1))
theorem MK.rf : MK r a Z Z := ⟨fun _ _ => rfl, fun _ _ _ => rfl, Or.inl rfl⟩
theorem MK.d24 {v : Int} (M : MK r a Y Z) : MK r a (zs Y 24 (24 * r + a) v) Z := ⟨fun w hw => zs_miss (by omega) (M.1 w hw), fun j h0 h1 => zs_ne rfl (M.2.1 j h0 h1), M.2.2.imp (fun e => zs_ne rfl e) (fun e => zs_ne rfl e)⟩
theorem MK.d25 {v : Int} (M : MK r a Y Z) : MK r a (zs Y 25 (2 * (24 * r + a)) v) Z := ⟨fun w hw => zs_ne rfl (M.1 w hw), fun j h0 h1 => zs_miss (by omega) (M.2.1 j h0 h1), M.2.2.imp (fun e => zs_ne rfl e) (fun e => zs_ne rfl e)⟩
theorem MK.d26 {v : Int} (M : MK r a Y Z) : MK r a (zs Y 25 (2 * (24 * r + a) + 1) v) Z := ⟨fun w hw => zs_ne rfl (M.1 w hw), fun j h0 h1 => zs_miss (by omega) (M.2.1 j h0 h1), M.2.2.imp (fun e => zs_ne rfl e) (fun e => zs_ne rfl e)⟩
theorem MK.o (e : ∀ j, j = 23 ∨ j = 24 ∨ j = 25 → X j = Y j) (M : MK r a Y Z) : MK r a X Z := by
  unfold MK
  rw [e 23 (Or.inl rfl), e 24 (Or.inr (Or.inl rfl)), e 25 (Or.inr (Or.inr rfl))]
  exact M
theorem MK.C : MK r a (zmvC Z (r : Int) 0 (a : Int) (24 * (r : Int) + (a : Int)) u l0 l1 g0 g1).1 Z ∧ ∀ j, ¬ j = 23 → ¬ j = 24 → ¬ j = 25 → (zmvC Z (r : Int) 0 (a : Int) (24 * (r : Int) + (a : Int)) u l0 l1 g0 g1).1 j = Z j := by
  by_cases e : Z 24 (24 * r + a) = (if u = 0 then 1 else 2)
  · by_cases k : nbk Z r a u l0 l1
    · rw [zC_in e k]
      exact ⟨MK.rf.d24, fun j _ h24 _ => zs_oj (beq_ne h24)⟩
    · rw [zC_lo e k]
      have M : MK r a (zs Z 24 (24 * r + a) 0) Z := MK.rf.d24
      exact ⟨⟨fun w hw => by show zs (zs Z 24 (24 * r + a) 0) 23 r (wr (Z 23 r + 1)) 24 (24 * r + w) = _; exact zs_ne rfl (M.1 w hw), fun j h0 h1 => by show zs (zs Z 24 (24 * r + a) 0) 23 r (wr (Z 23 r + 1)) 25 (48 * r + j) = _; exact zs_ne rfl (M.2.1 j h0 h1), Or.inr (zs_eq rfl rfl)⟩, fun j h23 h24 _ => (zs_oj (beq_ne h23)).trans (zs_oj (beq_ne h24))⟩
  · rw [zC_no e]
    exact ⟨MK.rf, fun _ _ _ _ => rfl⟩
theorem MK.D (M : MK r a Y Z) (o : ∀ j, ¬ j = 23 → ¬ j = 24 → ¬ j = 25 → Y j = Z j) : MK r a (zmvD Y 0 (a : Int) (24 * (r : Int) + (a : Int)) u l0 l1 r0 r1) Z ∧ ∀ j, ¬ j = 23 → ¬ j = 24 → ¬ j = 25 → zmvD Y 0 (a : Int) (24 * (r : Int) + (a : Int)) u l0 l1 r0 r1 j = Z j := by
  by_cases k : zG0 Y (nu u) 0 (a : Int) r0 r1 = l0 ∧ zG1 Y (nu u) 0 (a : Int) r0 = l1
  · rw [zD_no k]; exact ⟨M, o⟩
  · rw [zD_in k]
    exact ⟨M.d24.d25.d26, fun j h23 h24 h25 => by rw [zs_oj (beq_ne h25), zs_oj (beq_ne h25), zs_oj (beq_ne h24)]; exact o j h23 h24 h25⟩
theorem zmv_k (K : QS Z) (h1 : 1 ≤ a) (ha : (a : Int) ≤ Z 1 0) (hu : u = 0 ∨ u = 1) : MK r a (zmv Z (r : Int) 0 (a : Int) u) Z ∧ ∀ f : Nat, (∀ w j : Int, (w = 0 ∨ w = 1) → (j = 0 ∨ j = 1) → ¬ zo Z a w j = (f : Int)) → zmv Z (r : Int) 0 (a : Int) u 22 (48 * r + f) = Z 22 (48 * r + f) := by
  rw [zmv_n K h1 ha]
  have hC : MK r a (nC Z r a u).1 Z ∧ ∀ j, ¬ j = 23 → ¬ j = 24 → ¬ j = 25 → (nC Z r a u).1 j = Z j := MK.C
  generalize (nC Z r a u).1 = C at *
  generalize (nC Z r a u).2.1 = p at *
  generalize (nC Z r a u).2.2 = q at *
  obtain ⟨mD, oD⟩ := MK.D (u := u) (l0 := nL Z r a u 0) (l1 := nL Z r a u 1) (r0 := p) (r1 := q) hC.1 hC.2
  generalize zmvD C 0 (a : Int) (24 * (r : Int) + (a : Int)) u (nL Z r a u 0) (nL Z r a u 1) p q = D at *
  have zr := fun w j hj => zo_r K h1 ha w j hj
  have zc : ∀ w j, zo D a w j = zo Z a w j := fun w j => by
    unfold zo zsd
    rw [oD 7 (by decide) (by decide) (by decide), oD 8 (by decide) (by decide) (by decide), oD 9 (by decide) (by decide) (by decide)]
  rw [zE_n, zc, zc, zc, zc]
  refine ⟨mD.o (fun j hj => ?_), fun f hf => ?_⟩
  · have n22 : ¬ j = 22 := by omega
    rw [zs_oj (beq_ne (by omega)), zv_o (beq_ne n22), zv_o (beq_ne n22), zv_o (beq_ne n22), zv_o (beq_ne n22)]
  · refine zs_ne rfl ?_
    rw [zv_2f (zr _ _ (Or.inr rfl)).1, if_neg (hf _ _ (nu01 hu) (Or.inr rfl)), zv_2f (zr _ _ (Or.inl rfl)).1, if_neg (hf _ _ (nu01 hu) (Or.inl rfl)), zv_2f (zr _ _ (Or.inr rfl)).1, if_neg (hf _ _ hu (Or.inr rfl)), zv_2f (zr _ _ (Or.inl rfl)).1, if_neg (hf _ _ hu (Or.inl rfl))]
    rw [oD 22 (by decide) (by decide) (by decide)]
theorem uf22 {p x : Int} {j : Int} (hz : -1 ≤ zon Y p 1 j) (hn : ¬ zon Y p 1 j = (f : Int)) : zUf Y (r : Int) p (t : Int) x j 22 (48 * r + f) = Y 22 (48 * r + f) := by
  unfold zUf
  split
  · rw [zv_2f hz, if_neg hn]
  · rfl
theorem ub22 {p q : Int} {j : Int} (hz : -1 ≤ zon Y p 0 j) (hn : ¬ zon Y p 0 j = (f : Int)) : zUb Y (r : Int) p q (t : Int) j 22 (48 * r + f) = Y 22 (48 * r + f) := by
  unfold zUb
  rw [zv_2f hz, if_neg hn]
  rfl
theorem und_22 {m : Int} (e20 : Y 20 r = 0) (er : Y 34 t = (r : Int)) (ea : zundA Y (r : Int) (t : Int) = (i : Int)) (hz : ∀ w j : Int, (w = 0 ∨ w = 1) → (j = 0 ∨ j = 1) → -1 ≤ zon Y (24 * 0 + (i : Int)) w j ∧ ¬ zon Y (24 * 0 + (i : Int)) w j = (f : Int)) : zUnd Y m (t : Int) 22 (48 * r + f) = Y 22 (48 * r + f) := by
  rw [zUnd_2 rfl, Int.toNat_natCast, er]
  unfold zUnd2 zUnd1
  rw [ea, Int.toNat_natCast, e20]
  have hb : ∀ X : ZT, X 7 = Y 7 → X 8 = Y 8 → X 9 = Y 9 → ∀ w j : Int, (w = 0 ∨ w = 1) → (j = 0 ∨ j = 1) → -1 ≤ zon X (24 * 0 + (i : Int)) w j ∧ ¬ zon X (24 * 0 + (i : Int)) w j = (f : Int) := fun X e7 e8 e9 w j hw hj => by
    rw [zon_c3 e7 e8 e9]; exact hz w j hw hj
  have o0 : ∀ j, (j != 21 && j != 23 && j != 24 && j != 48) = true → zUnd0 Y (r : Int) (t : Int) j = Y j := fun j hj => by
    simp only [Bool.and_eq_true, bne_iff_ne, ne_eq] at hj
    unfold zUnd0
    rw [zs_oj (beq_ne hj.1.2), zs_oj (beq_ne hj.1.1.2), zs_oj (beq_ne hj.1.1.1), zs_oj (beq_ne hj.2)]
  have o1 : ∀ (X : ZT) (p q j : Int), X 7 = Y 7 ∧ X 8 = Y 8 ∧ X 9 = Y 9 → zUb X (r : Int) p q (t : Int) j 7 = Y 7 ∧ zUb X (r : Int) p q (t : Int) j 8 = Y 8 ∧ zUb X (r : Int) p q (t : Int) j 9 = Y 9 := fun X p q j e => by
    rw [zUb_o rfl, zUb_o rfl, zUb_o rfl]; exact e
  have o2 : ∀ (X : ZT) (p x j : Int), X 7 = Y 7 ∧ X 8 = Y 8 ∧ X 9 = Y 9 → zUf X (r : Int) p (t : Int) x j 7 = Y 7 ∧ zUf X (r : Int) p (t : Int) x j 8 = Y 8 ∧ zUf X (r : Int) p (t : Int) x j 9 = Y 9 := fun X p x j e => by
    rw [zUf_o rfl, zUf_o rfl, zUf_o rfl]; exact e
  have k0 : zUnd0 Y (r : Int) (t : Int) 7 = Y 7 ∧ zUnd0 Y (r : Int) (t : Int) 8 = Y 8 ∧ zUnd0 Y (r : Int) (t : Int) 9 = Y 9 := ⟨o0 7 rfl, o0 8 rfl, o0 9 rfl⟩
  have k1 := o1 _ (24 * 0 + (i : Int)) (24 * (r : Int) + (i : Int)) 0 k0
  have k2 := o1 _ (24 * 0 + (i : Int)) (24 * (r : Int) + (i : Int)) 1 k1
  have k3 := o2 _ (24 * 0 + (i : Int)) (i : Int) 0 k2
  have b0 := hb _ k0.1 k0.2.1 k0.2.2 0 0 (Or.inl rfl) (Or.inl rfl)
  have b1 := hb _ k1.1 k1.2.1 k1.2.2 0 1 (Or.inl rfl) (Or.inr rfl)
  have b2 := hb _ k2.1 k2.2.1 k2.2.2 1 0 (Or.inr rfl) (Or.inl rfl)
  have b3 := hb _ k3.1 k3.2.1 k3.2.2 1 1 (Or.inr rfl) (Or.inr rfl)
  rw [uf22 b3.1 b3.2, uf22 b2.1 b2.2, ub22 b1.1 b1.2, ub22 b0.1 b0.2, o0 22 rfl]
/-- the step's notes -/
theorem stp_ntj (N : YN Z (zY1 Z Y) t r i m) (ht : Z 32 0 = (t : Int)) : NTs Y Z := fun t' ht' => by
  rw [ht] at ht'
  have n1 := N.2.2.2.1
  have n2 := N.2.2.2.2.1
  have e1 : ∀ j, ntk j = true → (33 ≤ j ∧ j ≤ 39) → Y j t' = Z j t' := fun j hj h => (zY1_n (Z := Z) (Y := Y) hj).symm.trans (n1 j t' h (by omega))
  have e2 : ∀ j q, ntk j = true → (40 ≤ j ∧ j ≤ 42) → q < 2 → Y j (2 * t' + q) = Z j (2 * t' + q) := fun j q hj h hq => (zY1_n (Z := Z) (Y := Y) hj).symm.trans (n2 j t' q h (by omega) hq)
  exact ⟨⟨e1 34 rfl (by omega), e1 35 rfl (by omega), e1 37 rfl (by omega), e1 38 rfl (by omega), e1 39 rfl (by omega)⟩, fun j hj => ⟨e2 40 j rfl (by omega) hj, e2 41 j rfl (by omega) hj, e2 42 j rfl (by omega) hj⟩⟩
set_option maxHeartbeats 1000000 in
/-- the step taken back: the row as it was -/
theorem stp_u (K : QS Z) (KY : ZS Y 0) (N : YN Z (zY1 Z Y) t r i m) (E : MvQ Y (zmv Z (r : Int) 0 (i : Int) u)) (h20 : Z 20 r = 0) (y20 : Y 20 r = 0) (h1 : 1 ≤ i) (ha : (i : Int) ≤ Z 1 0) (hu : u = 0 ∨ u = 1) (hV : Z 21 r = if u = 0 then (i : Int) else (i : Int) - 1) : zRw (zUnd Y (m : Int) (t : Int)) Z r := by
  have eS : ∀ j, sj j = true → Y j = Z j := fun j hj => (E.sj j hj).trans (sj_mv j hj)
  obtain ⟨mk, m22⟩ := zmv_k (r := r) K h1 ha hu
  have b1 := K.b1
  have b2 := K.b2
  obtain ⟨-, -, -, -, -, ⟨-, y34, -, -, y37, y38, y39⟩, y40, y41⟩ := N
  rw [zY1_n rfl] at y34 y37 y38 y39
  have y40' : ∀ q, q < 2 → Y 40 (2 * t + q) = Z 25 (2 * (24 * r + i) + q) := fun q hq => by have := y40 q hq; rwa [zY1_n rfl] at this
  have e0 : 24 * (Z 20 r).toNat + i = i := by omega
  rw [e0] at y41
  have y21 : Y 21 r = if u = 0 then (i : Int) - 1 else (i : Int) := by
    rw [E 21 rfl]
    have := zmv_21 (Z := Z) (r := (r : Int)) (s := 0) (a := (i : Int)) (u := u)
    rwa [Int.toNat_natCast] at this
  have ea : zundA Y (r : Int) (t : Int) = (i : Int) := by
    unfold zundA
    rw [Int.toNat_natCast, Int.toNat_natCast, y37, y21, hV]
    rcases hu with rfl | rfl
    · rw [if_pos rfl, if_pos rfl, if_neg (by omega)]
    · rw [if_neg (show ¬ (1 : Int) = 0 by decide), if_neg (show ¬ (1 : Int) = 0 by decide), if_pos (by omega)]
  have hz : ∀ w j : Int, (w = 0 ∨ w = 1) → (j = 0 ∨ j = 1) → zon Y (24 * 0 + (i : Int)) w j = zo Z i w j := fun w j _ hj => by
    rw [zon_c3 (eS 7 rfl) (eS 8 rfl) (eS 9 rfl)]
    rcases hj with rfl | rfl
    · exact zon0_n
    · exact zon1_n
  have zr := fun w j hj => zo_r K h1 ha w j hj
  obtain ⟨U21, U23, U24, U25, Ua, Ub⟩ := (UR_und (m := (m : Int)) (s := 0) KY h1 (by rw [eS 1 rfl]; exact ha) y34 y20 ea).1
  rw [show 24 * 0 + i = i by omega, eS 7 rfl] at Ua Ub
  rw [eS 8 rfl, eS 9 rfl] at Ub
  refine ⟨U21.trans y37, U23.trans y38, fun f hf => ?_, fun w hw => ?_, fun j hj => ?_⟩
  · by_cases hf46 : f < 46
    · by_cases h7 : Z 7 i = 1
      · rw [Ua h7 f hf46, E 22 rfl]
        refine m22 f (fun w j _ _ => ?_)
        unfold zo
        rw [if_pos h7]; omega
      · rw [Ub h7 f hf46, y37]
        have z1 : ∀ j, zo Z i 1 j = zsd Z i 1 j := fun j => by unfold zo; rw [if_neg h7]
        have z0 : ∀ j, zo Z i 0 j = zsd Z i 0 j := fun j => by unfold zo; rw [if_neg h7]
        have v0 := y41 0 (by decide) h7
        have v1 := y41 1 (by decide) h7
        rw [zY1_n rfl, zY1_n rfl, Nat.add_zero, Nat.add_zero] at v0
        rw [zY1_n rfl, zY1_n rfl] at v1
        have pk := (K.p h1 ha).2.1
        by_cases c1 : (Z 21 r < (i : Int) ∨ ¬ Z 7 i = 6) ∧ Z 8 (2 * i + 1) = (f : Int)
        · rw [if_pos c1, v1.1 (by omega), c1.2, Int.toNat_natCast]
        · rw [if_neg c1]
          by_cases c2 : (Z 21 r < (i : Int) ∨ ¬ Z 7 i = 6) ∧ Z 8 (2 * i) = (f : Int)
          · rw [if_pos c2, v0.1 (by omega), c2.2, Int.toNat_natCast]
          · rw [if_neg c2]
            by_cases c3 : Z 9 (2 * i + 1) = (f : Int)
            · rw [if_pos c3, v1.2 (by omega), c3, Int.toNat_natCast]
            · rw [if_neg c3]
              by_cases c4 : Z 9 (2 * i) = (f : Int)
              · rw [if_pos c4, v0.2 (by omega), c4, Int.toNat_natCast]
              · rw [if_neg c4, E 22 rfl]
                have n8 : ¬ Z 8 (2 * i) = (f : Int) ∧ ¬ Z 8 (2 * i + 1) = (f : Int) := by
                  by_cases h6 : Z 7 i = 6
                  · have q6 : Z 9 (2 * i) = Z 8 (2 * i) ∧ Z 8 (2 * i + 1) = -1 := by
                      unfold StK at pk
                      dsimp only at pk
                      omega
                    omega
                  · exact ⟨fun z => c2 ⟨Or.inr h6, z⟩, fun z => c1 ⟨Or.inr h6, z⟩⟩
                refine m22 f (fun w j hw hj => ?_)
                rcases hw with rfl | rfl <;> rcases hj with rfl | rfl
                · rw [z0, zsd_00]; exact c4
                · rw [z0, zsd_01]; exact c3
                · rw [z1, zsd_10]; exact n8.1
                · rw [z1, zsd_11]; exact n8.2
    · have lt : ∀ w j : Int, (j = 0 ∨ j = 1) → ¬ zo Z i w j = (f : Int) := fun w j hj => by have := (zr w j hj).2; omega
      rw [und_22 y20 y34 ea (fun w j hw hj => by rw [hz w j hw hj]; exact ⟨(zr w j hj).1, lt w j hj⟩), E 22 rfl]
      exact m22 f (fun w j _ hj => lt w j hj)
  · rw [U24 w hw]
    by_cases e : w = i
    · rw [if_pos e, y39, e]
    · rw [if_neg e, E 24 rfl]
      exact mk.1 w e
  · rw [U25 j hj]
    by_cases e1 : j = 2 * i + 1
    · rw [if_pos e1, y40' 1 (by decide), e1]
      congr 1; omega
    · rw [if_neg e1]
      by_cases e2 : j = 2 * i
      · rw [if_pos e2, e2]
        refine (y40' 0 (by decide)).trans ?_
        congr 1; omega
      · rw [if_neg e2, E 25 rfl]
        exact mk.2.1 j e2 e1
end G2
