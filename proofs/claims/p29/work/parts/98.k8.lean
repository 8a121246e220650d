/-! ===== the model's undo ===== -/
section K8
variable {h g H G : AH} {Z Y X : ZT} {c q s a b r x m v k t : Nat} {A : Nat → Nat}
theorem zv_2f {F y : Int} {f : Nat} (hF : -1 ≤ F) : zv Z (r : Int) F y 22 (48 * r + f) = if F = (f : Int) then y else Z 22 (48 * r + f) := by
  unfold zv
  by_cases e : F = -1
  · rw [if_pos e, if_neg (by omega)]
  · rw [if_neg e, zs_if]
    by_cases w : F = (f : Int)
    · rw [if_pos w, if_pos (by omega)]
    · rw [if_neg w, if_neg (by omega)]
theorem zRw.ub {p : Int} {j : Int} (hr : ¬ r = x) (hq : q = 24 * r + a) (ha : a < 24) (hj : j = 0 ∨ j = 1) (hz : -1 ≤ zon Z p 0 j ∧ zon Z p 0 j < 48) : zRw (zUb Z (r : Int) p (q : Int) (t : Int) j) Z x := by
  unfold zUb
  exact (zRw.z25 (fun f hf => by omega)).tr (zRw.zvv hr hz)
theorem zRw.uf {p : Int} {y j : Int} (hr : ¬ r = x) (hz : -1 ≤ zon Z p 1 j ∧ zon Z p 1 j < 48) : zRw (zUf Z (r : Int) p (t : Int) y j) Z x := by
  unfold zUf
  split
  · exact zRw.zvv hr hz
  · exact zRw.rf
theorem zon_c3 {p u j : Int} (e7 : Y 7 = Z 7) (e8 : Y 8 = Z 8) (e9 : Y 9 = Z 9) : zon Y p u j = zon Z p u j := by
  unfold zon zbe zfr; rw [e7, e8, e9]
theorem zUnd_o {m t : Int} {j : Nat} (hj : (j != 21 && j != 22 && j != 23 && j != 24 && j != 25 && j != 26 && j != 31 && j != 48) = true) : zUnd Z m t j = Z j := by
  simp only [Bool.and_eq_true, bne_iff_ne, ne_eq] at hj
  obtain ⟨⟨⟨⟨⟨⟨⟨a1, a2⟩, a3⟩, a4⟩, a5⟩, a6⟩, a7⟩, a8⟩ := hj
  unfold zUnd
  rw [zs_oj (beq_ne a7), zs_oj (beq_ne a6)]
  refine zUnd2_o ?_
  simp only [Bool.and_eq_true, bne_iff_ne, ne_eq]
  omega
theorem zUnd_2 {m t : Int} {j : Nat} (hj : (j == 21 || j == 22 || j == 23 || j == 24 || j == 25) = true) : zUnd Z m t j = zUnd2 Z (Z 34 t.toNat) t j := by
  simp only [Bool.or_eq_true, beq_iff_eq] at hj
  unfold zUnd
  rw [zs_oj (beq_ne (by omega)), zs_oj (beq_ne (by omega))]
set_option maxHeartbeats 1000000 in
/-- undo, in the model -/
theorem UR_und {m : Int} (K : ZS Z s) (h1 : 1 ≤ a) (h2 : (a : Int) ≤ Z 1 s) (er : Z 34 t = (r : Int)) (es : Z 20 r = (s : Int)) (ea : zundA Z (r : Int) (t : Int) = (a : Int)) : UR Z (zUnd Z m (t : Int)) s r t a ∧ ∀ x, ¬ r = x → zRw (zUnd Z m (t : Int)) Z x := by
  have b1 := K.b1
  have b2 := K.b2
  have hs9 : s = s := rfl
  obtain ⟨⟨⟨p1, p1'⟩, ⟨p2, p2'⟩, ⟨p3, p3'⟩, ⟨p4, p4'⟩⟩, -⟩ := K.zp h1 h2
  have ep : (24 * (s : Int) + (a : Int)).toNat = 24 * s + a := by omega
  have g0 : (2 * (24 * (s : Int) + (a : Int)) + 0).toNat = 2 * (24 * s + a) := by omega
  have g1 : (2 * (24 * (s : Int) + (a : Int)) + 1).toNat = 2 * (24 * s + a) + 1 := by omega
  have zz : ∀ u j : Int, (u = 0 ∨ u = 1) → (j = 0 ∨ j = 1) → -1 ≤ zon Z (24 * (s : Int) + (a : Int)) u j ∧ zon Z (24 * (s : Int) + (a : Int)) u j < 48 := fun u j hu hj => by
    unfold zon zbe zfr
    rw [ep]
    rcases hu with e | e <;> rcases hj with e' | e' <;> subst e <;> subst e' <;> (try rw [g0]) <;> (try rw [g1]) <;> (repeat' split) <;> omega
  obtain ⟨Y0, eY0⟩ : ∃ Y0, Y0 = zUnd0 Z (r : Int) (t : Int) := ⟨_, rfl⟩
  obtain ⟨Y1, eY1⟩ : ∃ Y1, Y1 = zUb Y0 (r : Int) (24 * (s : Int) + (a : Int)) (24 * (r : Int) + (a : Int)) (t : Int) 0 := ⟨_, rfl⟩
  obtain ⟨Y2, eY2⟩ : ∃ Y2, Y2 = zUb Y1 (r : Int) (24 * (s : Int) + (a : Int)) (24 * (r : Int) + (a : Int)) (t : Int) 1 := ⟨_, rfl⟩
  obtain ⟨Y3, eY3⟩ : ∃ Y3, Y3 = zUf Y2 (r : Int) (24 * (s : Int) + (a : Int)) (t : Int) (a : Int) 0 := ⟨_, rfl⟩
  obtain ⟨Y4, eY4⟩ : ∃ Y4, Y4 = zUf Y3 (r : Int) (24 * (s : Int) + (a : Int)) (t : Int) (a : Int) 1 := ⟨_, rfl⟩
  have e4 : zUnd2 Z (Z 34 (t : Int).toNat) (t : Int) = Y4 := by
    unfold zUnd2 zUnd1
    rw [Int.toNat_natCast, er, Int.toNat_natCast, es, ea, ← eY0, ← eY1, ← eY2, ← eY3, ← eY4]
  -- frames
  have f0 : ∀ j, (j != 21 && j != 23 && j != 24 && j != 48) = true → Y0 j = Z j := fun j hj => by
    simp only [Bool.and_eq_true, bne_iff_ne, ne_eq] at hj
    rw [eY0]; unfold zUnd0
    rw [zs_oj (beq_ne hj.1.2), zs_oj (beq_ne hj.1.1.2), zs_oj (beq_ne hj.1.1.1), zs_oj (beq_ne hj.2)]
  have f1 : ∀ j, (j != 22 && j != 25) = true → Y1 j = Y0 j := fun j hj => by rw [eY1]; exact zUb_o hj
  have f2 : ∀ j, (j != 22 && j != 25) = true → Y2 j = Y1 j := fun j hj => by rw [eY2]; exact zUb_o hj
  have f3 : ∀ j, (j != 22) = true → Y3 j = Y2 j := fun j hj => by rw [eY3]; exact zUf_o hj
  have f4 : ∀ j, (j != 22) = true → Y4 j = Y3 j := fun j hj => by rw [eY4]; exact zUf_o hj
  have on0 : ∀ u j, zon Y0 (24 * (s : Int) + (a : Int)) u j = zon Z (24 * (s : Int) + (a : Int)) u j := fun u j => zon_c3 (f0 7 rfl) (f0 8 rfl) (f0 9 rfl)
  have on1 : ∀ u j, zon Y1 (24 * (s : Int) + (a : Int)) u j = zon Z (24 * (s : Int) + (a : Int)) u j := fun u j => (zon_c3 (f1 7 rfl) (f1 8 rfl) (f1 9 rfl)).trans (on0 u j)
  have on2 : ∀ u j, zon Y2 (24 * (s : Int) + (a : Int)) u j = zon Z (24 * (s : Int) + (a : Int)) u j := fun u j => (zon_c3 (f2 7 rfl) (f2 8 rfl) (f2 9 rfl)).trans (on1 u j)
  have on3 : ∀ u j, zon Y3 (24 * (s : Int) + (a : Int)) u j = zon Z (24 * (s : Int) + (a : Int)) u j := fun u j => (zon_c3 (f3 7 rfl) (f3 8 rfl) (f3 9 rfl)).trans (on2 u j)
  have c37 : ∀ i, Y3 37 i = Z 37 i ∧ Y2 37 i = Z 37 i := fun i => ⟨by rw [f3 37 rfl, f2 37 rfl, f1 37 rfl, f0 37 rfl], by rw [f2 37 rfl, f1 37 rfl, f0 37 rfl]⟩
  have c7 : ∀ i, Y3 7 i = Z 7 i ∧ Y2 7 i = Z 7 i := fun i => ⟨by rw [f3 7 rfl, f2 7 rfl, f1 7 rfl, f0 7 rfl], by rw [f2 7 rfl, f1 7 rfl, f0 7 rfl]⟩
  have c41 : ∀ i, Y3 41 i = Z 41 i ∧ Y2 41 i = Z 41 i := fun i => ⟨by rw [f3 41 rfl, f2 41 rfl, f1 41 rfl, f0 41 rfl], by rw [f2 41 rfl, f1 41 rfl, f0 41 rfl]⟩
  have c42 : ∀ i, Y1 42 i = Z 42 i ∧ Y0 42 i = Z 42 i := fun i => ⟨by rw [f1 42 rfl, f0 42 rfl], by rw [f0 42 rfl]⟩
  have c40 : ∀ i, Y1 40 i = Z 40 i ∧ Y0 40 i = Z 40 i := fun i => ⟨by rw [f1 40 rfl, f0 40 rfl], by rw [f0 40 rfl]⟩
  have t0 : (2 * (t : Int) + 0).toNat = 2 * t := by omega
  have t1 : (2 * (t : Int) + 1).toNat = 2 * t + 1 := by omega
  have q0 : (2 * (24 * (r : Int) + (a : Int)) + 0).toNat = 48 * r + 2 * a := by omega
  have q1 : (2 * (24 * (r : Int) + (a : Int)) + 1).toNat = 48 * r + (2 * a + 1) := by omega
  refine ⟨⟨?_, ?_, fun w hw => ?_, fun j hj => ?_, fun e1 f hf => ?_, fun e1 f hf => ?_⟩, fun x hx => ?_⟩
  · rw [zUnd_2 rfl, e4, f4 21 rfl, f3 21 rfl, f2 21 rfl, f1 21 rfl, eY0]
    unfold zUnd0
    refine zs_ne rfl (zs_ne rfl ?_)
    rw [zs_if, Int.toNat_natCast, Int.toNat_natCast, if_pos rfl]
  · rw [zUnd_2 rfl, e4, f4 23 rfl, f3 23 rfl, f2 23 rfl, f1 23 rfl, eY0]
    unfold zUnd0
    refine zs_ne rfl ?_
    rw [zs_if, Int.toNat_natCast, Int.toNat_natCast, if_pos rfl]
  · rw [zUnd_2 rfl, e4, f4 24 rfl, f3 24 rfl, f2 24 rfl, f1 24 rfl, eY0]
    unfold zUnd0
    rw [zs_if, ea, show (24 * (r : Int) + (a : Int)).toNat = 24 * r + a by omega, Int.toNat_natCast]
    by_cases y : w = a
    · rw [if_pos (by omega), if_pos y]
    · rw [if_neg (by omega), if_neg y]
      exact zs_ne rfl (zs_ne rfl (zs_ne rfl rfl))
  · rw [zUnd_2 rfl, e4, f4 25 rfl, f3 25 rfl, eY2]
    unfold zUb
    rw [zv_o rfl, zs_if, q1, t1, (c40 _).1, eY1]
    unfold zUb
    rw [zv_o rfl, zs_if, q0, t0, (c40 _).2, f0 25 rfl]
    by_cases y1 : j = 2 * a + 1
    · rw [if_pos (by omega), if_pos y1]
    · rw [if_neg (by omega), if_neg y1]
      by_cases y0 : j = 2 * a
      · rw [if_pos (by omega), if_pos y0]
      · rw [if_neg (by omega), if_neg y0]
  · have zn : ∀ u j, zon Z (24 * (s : Int) + (a : Int)) u j = -1 := fun u j => by
      unfold zon; rw [ep, if_pos e1]
    rw [zUnd_2 rfl, e4]
    have g4 : Y4 22 = Y3 22 := by rw [eY4]; unfold zUf zv; rw [on3, zn]; simp
    have g3 : Y3 22 = Y2 22 := by rw [eY3]; unfold zUf zv; rw [on2, zn]; simp
    have g2 : Y2 22 = Y1 22 := by rw [eY2]; unfold zUb zv; rw [show zon Y1 (24 * (s : Int) + (a : Int)) 0 1 = -1 from (on1 _ _).trans (zn _ _), if_pos rfl]; exact zs_oj rfl
    have g1' : Y1 22 = Y0 22 := by rw [eY1]; unfold zUb zv; rw [show zon Y0 (24 * (s : Int) + (a : Int)) 0 0 = -1 from (on0 _ _).trans (zn _ _), if_pos rfl]; exact zs_oj rfl
    rw [g4, g3, g2, g1', f0 22 rfl]
  · have zf0 : zon Z (24 * (s : Int) + (a : Int)) 1 0 = Z 8 (2 * (24 * s + a)) := by unfold zon zfr; rw [ep, if_neg e1, if_neg (by decide), g0]
    have zf1 : zon Z (24 * (s : Int) + (a : Int)) 1 1 = Z 8 (2 * (24 * s + a) + 1) := by unfold zon zfr; rw [ep, if_neg e1, if_neg (by decide), g1]
    have zb0 : zon Z (24 * (s : Int) + (a : Int)) 0 0 = Z 9 (2 * (24 * s + a)) := by unfold zon zbe; rw [ep, if_neg e1, if_pos rfl, g0]
    have zb1 : zon Z (24 * (s : Int) + (a : Int)) 0 1 = Z 9 (2 * (24 * s + a) + 1) := by unfold zon zbe; rw [ep, if_neg e1, if_pos rfl, g1]
    have w4 : Y4 22 (48 * r + f) = if (Z 37 t < (a : Int) ∨ ¬ Z 7 (24 * s + a) = 6) ∧ Z 8 (2 * (24 * s + a) + 1) = (f : Int) then Z 41 (2 * t + 1) else Y3 22 (48 * r + f) := by
      rw [eY4]; unfold zUf
      rw [Int.toNat_natCast, (c37 _).1, ep, (c7 _).1]
      by_cases y : Z 37 t < (a : Int) ∨ ¬ Z 7 (24 * s + a) = 6
      · rw [if_pos y, zv_2f (by rw [on3, zf1]; exact p2), on3, zf1, t1, (c41 _).1]
        by_cases u : Z 8 (2 * (24 * s + a) + 1) = (f : Int)
        · rw [if_pos u, if_pos ⟨y, u⟩]
        · rw [if_neg u, if_neg (fun w => u w.2)]
      · rw [if_neg y, if_neg (fun w => y w.1)]
    have w3 : Y3 22 (48 * r + f) = if (Z 37 t < (a : Int) ∨ ¬ Z 7 (24 * s + a) = 6) ∧ Z 8 (2 * (24 * s + a)) = (f : Int) then Z 41 (2 * t) else Y2 22 (48 * r + f) := by
      rw [eY3]; unfold zUf
      rw [Int.toNat_natCast, (c37 _).2, ep, (c7 _).2]
      by_cases y : Z 37 t < (a : Int) ∨ ¬ Z 7 (24 * s + a) = 6
      · rw [if_pos y, zv_2f (by rw [on2, zf0]; exact p1), on2, zf0, t0, (c41 _).2]
        by_cases u : Z 8 (2 * (24 * s + a)) = (f : Int)
        · rw [if_pos u, if_pos ⟨y, u⟩]
        · rw [if_neg u, if_neg (fun w => u w.2)]
      · rw [if_neg y, if_neg (fun w => y w.1)]
    have w2 : Y2 22 (48 * r + f) = if Z 9 (2 * (24 * s + a) + 1) = (f : Int) then Z 42 (2 * t + 1) else Y1 22 (48 * r + f) := by
      rw [eY2]; unfold zUb
      rw [zv_2f (by rw [on1, zb1]; exact p4), on1, zb1, t1, (c42 _).1]
      congr 1
    have w1 : Y1 22 (48 * r + f) = if Z 9 (2 * (24 * s + a)) = (f : Int) then Z 42 (2 * t) else Z 22 (48 * r + f) := by
      rw [eY1]; unfold zUb
      rw [zv_2f (by rw [on0, zb0]; exact p3), on0, zb0, t0, (c42 _).2]
      congr 1
      exact (zs_ne rfl rfl).trans (congrFun (f0 22 rfl) _)
    rw [zUnd_2 rfl, e4, w4, w3, w2, w1]
  · have a0 : zRw Y0 Z x := by
      rw [eY0]; unfold zUnd0
      rw [Int.toNat_natCast, ea, show (24 * (r : Int) + (a : Int)).toNat = 24 * r + a by omega]
      exact (((zRw.o rfl).tr (zRw.z21 hx)).tr (zRw.z23 hx)).tr (zRw.z24 (fun f hf => by omega))
    have a1 : zRw Y1 Y0 x := by
      rw [eY1]
      have := zRw.ub (Z := Y0) (t := t) (p := 24 * (s : Int) + (a : Int)) (j := 0) hx (q := 24 * r + a) rfl (by omega) (Or.inl rfl) (by rw [on0]; exact zz 0 0 (Or.inl rfl) (Or.inl rfl))
      rw [show ((24 * r + a : Nat) : Int) = 24 * (r : Int) + (a : Int) by omega] at this
      exact this
    have a2 : zRw Y2 Y1 x := by
      rw [eY2]
      have := zRw.ub (Z := Y1) (t := t) (p := 24 * (s : Int) + (a : Int)) (j := 1) hx (q := 24 * r + a) rfl (by omega) (Or.inr rfl) (by rw [on1]; exact zz 0 1 (Or.inl rfl) (Or.inr rfl))
      rw [show ((24 * r + a : Nat) : Int) = 24 * (r : Int) + (a : Int) by omega] at this
      exact this
    have a3 : zRw Y3 Y2 x := by rw [eY3]; exact zRw.uf hx (by rw [on2]; exact zz 1 0 (Or.inr rfl) (Or.inl rfl))
    have a4 : zRw Y4 Y3 x := by rw [eY4]; exact zRw.uf hx (by rw [on3]; exact zz 1 1 (Or.inr rfl) (Or.inr rfl))
    have a5 : zRw (zUnd Z m (t : Int)) Y4 x := zRw.fn (fun j hj => by rw [zUnd_2 hj, e4])
    exact ((((a0.tr a1).tr a2).tr a3).tr a4).tr a5
end K8
