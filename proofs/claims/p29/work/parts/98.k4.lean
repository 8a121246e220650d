/-! ===== the model's notes of a step ===== -/
section K4
variable {h g H G : AH} {Z Y X : ZT} {c q s a b r x m v k : Nat} {A : Nat → Nat}
theorem zs_if {j i x : Nat} {y : Int} : zs Z j i y j x = if x = i then y else Z j x := by
  by_cases e : x = i
  · rw [if_pos e, zs_eq e rfl]
  · rw [if_neg e, zs_miss e rfl]
/-- the fields that a step notes -/
def ntk (j : Nat) : Bool := j == 27 || j == 32 || j == 33 || j == 34 || j == 35 || j == 36 || j == 37 || j == 38 || j == 39 || j == 40 || j == 41 || j == 42
def zY1 (Z Y : ZT) : ZT := fun j => if ntk j = true then Y j else Z j
theorem zL_c {r u p j : Int} (e7 : Y 7 = Z 7) (e8 : Y 8 = Z 8) (e9 : Y 9 = Z 9) (e22 : Y 22 = Z 22) : zL Y r u p j = zL Z r u p j := by
  unfold zL zon zbe zfr; rw [e7, e8, e9, e22]
theorem zRec0_o {r m q : Int} {j : Nat} (hj : (j != 33 && j != 34 && j != 36 && j != 37 && j != 38 && j != 39) = true) : zRec0 Z r m q j = Z j := by
  simp only [Bool.and_eq_true, bne_iff_ne, ne_eq] at hj
  obtain ⟨⟨⟨⟨⟨a1, a2⟩, a3⟩, a4⟩, a5⟩, a6⟩ := hj
  unfold zRec0
  rw [zs_oj (beq_ne a6), zs_oj (beq_ne a5), zs_oj (beq_ne a4), zs_oj (beq_ne a3), zs_oj (beq_ne a2), zs_oj (beq_ne a1)]
theorem zRecJ_o {r p q n i : Int} {j : Nat} (hj : (j != 40 && j != 41 && j != 42) = true) : zRecJ Z r p q n i j = Z j := by
  simp only [Bool.and_eq_true, bne_iff_ne, ne_eq] at hj
  obtain ⟨⟨a1, a2⟩, a3⟩ := hj
  unfold zRecJ
  rw [zs_oj (beq_ne a3), zs_oj (beq_ne a2), zs_oj (beq_ne a1)]
theorem zStp_n {r m : Int} {j : Nat} (hj : (j == 33 || j == 34 || j == 36 || j == 37 || j == 38 || j == 39 || j == 40 || j == 41 || j == 42) = true) : zStp Z r m j = zStp2 Z r (24 * Z 20 r.toNat + zstA' Z r m) (24 * r + zstA' Z r m) m j := by
  have e : ∀ j', j = j' → (j == 33 || j == 34 || j == 36 || j == 37 || j == 38 || j == 39 || j == 40 || j == 41 || j == 42) = true := fun _ _ => hj
  simp only [Bool.or_eq_true, beq_iff_eq] at hj
  have h35 : ¬ j = 35 := by omega
  have h31 : ¬ j = 31 := by omega
  have h32 : ¬ j = 32 := by omega
  have h26 : ¬ j = 26 := by omega
  have h27 : ¬ j = 27 := by omega
  unfold zStp
  rw [zs_oj (beq_ne h32), zs_oj (beq_ne h31), zs_oj (beq_ne h35)]
  unfold zStp3 zcnt
  rw [zs_oj (beq_ne h26), zs_oj (beq_ne h27)]
  refine zmv_o ?_
  unfold offR
  simp only [Bool.and_eq_true, bne_iff_ne, ne_eq]
  omega
theorem zStp2_9 {r p q m : Int} {j : Nat} (hj : (j == 33 || j == 34 || j == 36 || j == 37 || j == 38 || j == 39) = true) : zStp2 Z r p q m j = zRec0 (zs Z 48 0 0) r m q j := by
  simp only [Bool.or_eq_true, beq_iff_eq] at hj
  unfold zStp2
  have h40 : (j != 40 && j != 41 && j != 42) = true := by
    simp only [Bool.and_eq_true, bne_iff_ne, ne_eq]
    omega
  rw [zRecJ_o h40, zRecJ_o h40]
set_option maxHeartbeats 1000000 in
theorem YN_stp (S : SIMq A 9 h Z c) (hc : c < 512) (em : Z 32 0 = (k : Int)) (ev : zstA' Z (r : Int) (m : Int) = (v : Int)) (es : Z 20 r = (s : Int)) (hs : (s : Int) < Z 0 0) (hv : 1 ≤ v ∧ (v : Int) ≤ Z 1 s) : YN Z (zY1 Z (zStp Z r m)) k r v m := by
  have yn : ∀ {j}, (j == 33 || j == 34 || j == 36 || j == 37 || j == 38 || j == 39 || j == 40 || j == 41 || j == 42) = true → zStp Z (r : Int) (m : Int) j = zStp2 Z r (24 * (s : Int) + (v : Int)) (24 * (r : Int) + (v : Int)) m j := fun hj => by
    rw [zStp_n hj, Int.toNat_natCast, es, ev]
  have yl : ∀ {j}, ntk j = true → zY1 Z (zStp Z r m) j = zStp Z r m j := fun hj => if_pos hj
  have e0 : ∀ j i, ¬ j = 48 → zs Z 48 0 0 j i = Z j i := fun j i hj => congrFun (zs_oj (beq_ne hj)) i
  have w33 : ∀ x, zRec0 (zs Z 48 0 0) (r : Int) (m : Int) (24 * (r : Int) + (v : Int)) 33 x = if x = k then Z 31 m else Z 33 x := fun x => by
    unfold zRec0
    refine zs_ne rfl (zs_ne rfl (zs_ne rfl (zs_ne rfl (zs_ne rfl ?_))))
    rw [zs_if, e0 32 _ (by decide), e0 31 _ (by decide), e0 33 _ (by decide), em, Int.toNat_natCast, Int.toNat_natCast]
  have w34 : ∀ x, zRec0 (zs Z 48 0 0) (r : Int) (m : Int) (24 * (r : Int) + (v : Int)) 34 x = if x = k then (r : Int) else Z 34 x := fun x => by
    unfold zRec0
    refine zs_ne rfl (zs_ne rfl (zs_ne rfl (zs_ne rfl ?_)))
    rw [zs_if, e0 32 _ (by decide), em, Int.toNat_natCast]
    rfl
  have w36 : ∀ x, zRec0 (zs Z 48 0 0) (r : Int) (m : Int) (24 * (r : Int) + (v : Int)) 36 x = if x = k then Z 26 r else Z 36 x := fun x => by
    unfold zRec0
    refine zs_ne rfl (zs_ne rfl (zs_ne rfl ?_))
    rw [zs_if, e0 32 _ (by decide), e0 26 _ (by decide), em, Int.toNat_natCast, Int.toNat_natCast]
    rfl
  have w37 : ∀ x, zRec0 (zs Z 48 0 0) (r : Int) (m : Int) (24 * (r : Int) + (v : Int)) 37 x = if x = k then Z 21 r else Z 37 x := fun x => by
    unfold zRec0
    refine zs_ne rfl (zs_ne rfl ?_)
    rw [zs_if, e0 32 _ (by decide), e0 21 _ (by decide), em, Int.toNat_natCast, Int.toNat_natCast]
    rfl
  have w38 : ∀ x, zRec0 (zs Z 48 0 0) (r : Int) (m : Int) (24 * (r : Int) + (v : Int)) 38 x = if x = k then Z 23 r else Z 38 x := fun x => by
    unfold zRec0
    refine zs_ne rfl ?_
    rw [zs_if, e0 32 _ (by decide), e0 23 _ (by decide), em, Int.toNat_natCast, Int.toNat_natCast]
    rfl
  have w39 : ∀ x, zRec0 (zs Z 48 0 0) (r : Int) (m : Int) (24 * (r : Int) + (v : Int)) 39 x = if x = k then Z 24 (24 * r + v) else Z 39 x := fun x => by
    unfold zRec0
    rw [zs_if, e0 32 _ (by decide), e0 24 _ (by decide), em, Int.toNat_natCast, show (24 * (r : Int) + (v : Int)).toNat = 24 * r + v by omega]
    rfl
  have y33 : ∀ x, zY1 Z (zStp Z r m) 33 x = if x = k then Z 31 m else Z 33 x := fun x => by rw [yl rfl, yn rfl, zStp2_9 rfl, w33]
  have y34 : ∀ x, zY1 Z (zStp Z r m) 34 x = if x = k then (r : Int) else Z 34 x := fun x => by rw [yl rfl, yn rfl, zStp2_9 rfl, w34]
  have y36 : ∀ x, zY1 Z (zStp Z r m) 36 x = if x = k then Z 26 r else Z 36 x := fun x => by rw [yl rfl, yn rfl, zStp2_9 rfl, w36]
  have y37 : ∀ x, zY1 Z (zStp Z r m) 37 x = if x = k then Z 21 r else Z 37 x := fun x => by rw [yl rfl, yn rfl, zStp2_9 rfl, w37]
  have y38 : ∀ x, zY1 Z (zStp Z r m) 38 x = if x = k then Z 23 r else Z 38 x := fun x => by rw [yl rfl, yn rfl, zStp2_9 rfl, w38]
  have y39 : ∀ x, zY1 Z (zStp Z r m) 39 x = if x = k then Z 24 (24 * r + v) else Z 39 x := fun x => by rw [yl rfl, yn rfl, zStp2_9 rfl, w39]
  -- act and counts
  have z26 : zmv (zStp2 Z r (24 * Z 20 (r : Int).toNat + zstA' Z r m) (24 * (r : Int) + zstA' Z r m) m) r (Z 20 (r : Int).toNat) (zstA' Z r m) (bz (Z 21 (r : Int).toNat < Z 30 (m : Int).toNat)) 27 0 = Z 27 0 := by
    rw [zmv_o rfl, zStp2_o rfl]
  have y3_26 : zStp3 Z r m 26 r = Z 27 0 + 1 := by
    unfold zStp3 zcnt
    rw [zcnt_27 S hc z26]
    exact zs_eq (Int.toNat_natCast _) rfl
  have y3_27 : zStp3 Z r m 27 0 = Z 27 0 + 1 := by
    unfold zStp3 zcnt
    rw [zcnt_27 S hc z26]
    exact zs_ne rfl (zs_eq rfl rfl)
  have y35 : ∀ x, zY1 Z (zStp Z r m) 35 x = if x = k then Z 27 0 + 1 else Z 35 x := fun x => by
    rw [yl rfl]
    unfold zStp
    refine zs_ne rfl (zs_ne rfl ?_)
    rw [zs_if, em, Int.toNat_natCast, Int.toNat_natCast, y3_26]
    congr 1
    unfold zStp3 zcnt
    refine zs_ne rfl (zs_ne rfl ?_)
    rw [zmv_o rfl, zStp2_o rfl]
  have y27 : zY1 Z (zStp Z r m) 27 0 = Z 27 0 + 1 := by
    rw [yl rfl]
    unfold zStp
    exact zs_ne rfl (zs_ne rfl (zs_ne rfl y3_27))
  have y32 : zY1 Z (zStp Z r m) 32 0 = (k : Int) + 1 := by
    rw [yl rfl]
    unfold zStp
    rw [zs_eq rfl rfl, em]
  -- the pairs
  have pr : ∀ (j : Nat) (w0 w1 : Int), (40 ≤ j ∧ j ≤ 42) → (∀ x, zY1 Z (zStp Z r m) j x = if x = 2 * k + 1 then w1 else if x = 2 * k then w0 else Z j x) → (∀ x i, ¬ x = k → i < 2 → zY1 Z (zStp Z r m) j (2 * x + i) = Z j (2 * x + i)) ∧ zY1 Z (zStp Z r m) j (2 * k) = w0 ∧ zY1 Z (zStp Z r m) j (2 * k + 1) = w1 := by
    intro j w0 w1 hj e
    refine ⟨fun x i hx hi => ?_, ?_, ?_⟩
    · rw [e, if_neg (by omega), if_neg (by omega)]
    · rw [e, if_neg (by omega), if_pos rfl]
    · rw [e, if_pos rfl]
  have i0 : (2 * Z 32 0 + 0).toNat = 2 * k := by omega
  have i1 : (2 * Z 32 0 + 1).toNat = 2 * k + 1 := by omega
  have rj : ∀ j, (j != 33 && j != 34 && j != 36 && j != 37 && j != 38 && j != 39) = true → ¬ j = 48 → zRec0 (zs Z 48 0 0) (r : Int) (m : Int) (24 * (r : Int) + (v : Int)) j = Z j := fun j hj h48 => by rw [zRec0_o hj, zs_oj (beq_ne h48)]
  have rj2 : ∀ j, (j != 33 && j != 34 && j != 36 && j != 37 && j != 38 && j != 39) = true → ¬ j = 48 → (j != 40 && j != 41 && j != 42) = true → zRecJ (zRec0 (zs Z 48 0 0) (r : Int) (m : Int) (24 * (r : Int) + (v : Int))) r (24 * (s : Int) + (v : Int)) (24 * (r : Int) + (v : Int)) (Z 32 0) 0 j = Z j := fun j hj h48 h40 => by rw [zRecJ_o h40, rj j hj h48]
  have p40 := pr 40 (Z 25 (2 * (24 * r + v))) (Z 25 (2 * (24 * r + v) + 1)) (by omega) (fun x => by
    rw [yl rfl, yn rfl]
    unfold zStp2
    rw [show ∀ X : ZT, zRecJ X (r : Int) (24 * (s : Int) + (v : Int)) (24 * (r : Int) + (v : Int)) (Z 32 0) 1 40 x = zs X 40 (2 * Z 32 0 + 1).toNat (X 25 (2 * (24 * (r : Int) + (v : Int)) + 1).toNat) 40 x from fun X => rfl, zs_if, rj2 25 rfl (by decide) rfl, i1]
    rw [show ∀ X : ZT, zRecJ X (r : Int) (24 * (s : Int) + (v : Int)) (24 * (r : Int) + (v : Int)) (Z 32 0) 0 40 x = zs X 40 (2 * Z 32 0 + 0).toNat (X 25 (2 * (24 * (r : Int) + (v : Int)) + 0).toNat) 40 x from fun X => rfl, zs_if, rj 25 rfl (by decide), rj 40 rfl (by decide), i0, show (2 * (24 * (r : Int) + (v : Int)) + 0).toNat = 2 * (24 * r + v) by omega, show (2 * (24 * (r : Int) + (v : Int)) + 1).toNat = 2 * (24 * r + v) + 1 by omega])
  have p41 := pr 41 (zL Z r 1 (24 * (s : Int) + (v : Int)) 0) (zL Z r 1 (24 * (s : Int) + (v : Int)) 1) (by omega) (fun x => by
    rw [yl rfl, yn rfl]
    unfold zStp2
    rw [show ∀ X : ZT, zRecJ X (r : Int) (24 * (s : Int) + (v : Int)) (24 * (r : Int) + (v : Int)) (Z 32 0) 1 41 x = zs X 41 (2 * Z 32 0 + 1).toNat (zL X r 1 (24 * (s : Int) + (v : Int)) 1) 41 x from fun X => rfl, zs_if, zL_c (rj2 7 rfl (by decide) rfl) (rj2 8 rfl (by decide) rfl) (rj2 9 rfl (by decide) rfl) (rj2 22 rfl (by decide) rfl), i1]
    rw [show ∀ X : ZT, zRecJ X (r : Int) (24 * (s : Int) + (v : Int)) (24 * (r : Int) + (v : Int)) (Z 32 0) 0 41 x = zs X 41 (2 * Z 32 0 + 0).toNat (zL X r 1 (24 * (s : Int) + (v : Int)) 0) 41 x from fun X => rfl, zs_if, zL_c (rj 7 rfl (by decide)) (rj 8 rfl (by decide)) (rj 9 rfl (by decide)) (rj 22 rfl (by decide)), rj 41 rfl (by decide), i0])
  have p42 := pr 42 (zL Z r 0 (24 * (s : Int) + (v : Int)) 0) (zL Z r 0 (24 * (s : Int) + (v : Int)) 1) (by omega) (fun x => by
    rw [yl rfl, yn rfl]
    unfold zStp2
    rw [show ∀ X : ZT, zRecJ X (r : Int) (24 * (s : Int) + (v : Int)) (24 * (r : Int) + (v : Int)) (Z 32 0) 1 42 x = zs X 42 (2 * Z 32 0 + 1).toNat (zL X r 0 (24 * (s : Int) + (v : Int)) 1) 42 x from fun X => rfl, zs_if, zL_c (rj2 7 rfl (by decide) rfl) (rj2 8 rfl (by decide) rfl) (rj2 9 rfl (by decide) rfl) (rj2 22 rfl (by decide) rfl), i1]
    rw [show ∀ X : ZT, zRecJ X (r : Int) (24 * (s : Int) + (v : Int)) (24 * (r : Int) + (v : Int)) (Z 32 0) 0 42 x = zs X 42 (2 * Z 32 0 + 0).toNat (zL X r 0 (24 * (s : Int) + (v : Int)) 0) 42 x from fun X => rfl, zs_if, zL_c (rj 7 rfl (by decide)) (rj 8 rfl (by decide)) (rj 9 rfl (by decide)) (rj 22 rfl (by decide)), rj 42 rfl (by decide), i0])
  refine ⟨fun j hj => ?_, y27, y32, fun j x hj hx => ?_, fun j x i hj hx hi => ?_, ⟨?_, ?_, ?_, ?_, ?_, ?_, ?_⟩, fun i hi => ?_, fun i hi z7 => ?_⟩
  · refine if_neg (fun w => ?_)
    unfold ntj at hj
    unfold ntk at w
    rw [w] at hj
    exact absurd hj (by simp)
  · rcases (show j = 33 ∨ j = 34 ∨ j = 35 ∨ j = 36 ∨ j = 37 ∨ j = 38 ∨ j = 39 by omega) with e | e | e | e | e | e | e <;> subst e
    · rw [y33, if_neg hx]
    · rw [y34, if_neg hx]
    · rw [y35, if_neg hx]
    · rw [y36, if_neg hx]
    · rw [y37, if_neg hx]
    · rw [y38, if_neg hx]
    · rw [y39, if_neg hx]
  · rcases (show j = 40 ∨ j = 41 ∨ j = 42 by omega) with e | e | e <;> subst e
    · exact p40.1 x i hx hi
    · exact p41.1 x i hx hi
    · exact p42.1 x i hx hi
  · rw [y33, if_pos rfl]
  · rw [y34, if_pos rfl]
  · rw [y35, if_pos rfl]
  · rw [y36, if_pos rfl]
  · rw [y37, if_pos rfl]
  · rw [y38, if_pos rfl]
  · rw [y39, if_pos rfl]
  · rcases (show i = 0 ∨ i = 1 by omega) with e | e <;> subst e
    · exact p40.2.1
    · exact p40.2.2
  · have ep : (24 * (s : Int) + (v : Int)).toNat = 24 * (Z 20 r).toNat + v := by omega
    have fr : ∀ j : Nat, j < 2 → (2 * (24 * (s : Int) + (v : Int)) + (j : Int)).toNat = 2 * (24 * (Z 20 r).toNat + v) + j := fun j _ => by omega
    have f0 := fr 0 (by omega)
    have f1 := fr 1 (by omega)
    rw [Nat.add_zero] at f0
    have l : ∀ u j : Int, zL Z (r : Int) u (24 * (s : Int) + (v : Int)) j = if (if u = 0 then Z 9 (2 * (24 * (s : Int) + (v : Int)) + j).toNat else Z 8 (2 * (24 * (s : Int) + (v : Int)) + j).toNat) = -1 then -1 else Z 22 (48 * (r : Int) + (if u = 0 then Z 9 (2 * (24 * (s : Int) + (v : Int)) + j).toNat else Z 8 (2 * (24 * (s : Int) + (v : Int)) + j).toNat)).toNat := fun u j => by
      unfold zL zon zbe zfr
      rw [ep, if_neg z7]
    have q41 := p41.2
    have q42 := p42.2
    rw [l, l, if_neg (show ¬ (1 : Int) = 0 by decide), if_neg (show ¬ (1 : Int) = 0 by decide)] at q41
    rw [l, l, if_pos rfl, if_pos rfl] at q42
    obtain ⟨⟨⟨a1, -⟩, ⟨a2, -⟩, ⟨a3, -⟩, ⟨a4, -⟩⟩, -⟩ := (S.sc hs).2.1.zp hv.1 hv.2
    have nz : ∀ w : Int, -1 ≤ w → ¬ w = -1 → (48 * (r : Int) + w).toNat = 48 * r + w.toNat := fun w h1 h2 => by omega
    have eS : (Z 20 r).toNat = s := by omega
    have g0 : (2 * (24 * (s : Int) + (v : Int)) + 0).toNat = 2 * (24 * s + v) := by omega
    have g1 : (2 * (24 * (s : Int) + (v : Int)) + 1).toNat = 2 * (24 * s + v) + 1 := by omega
    rw [g0, g1] at q41 q42
    rw [eS]
    rcases (show i = 0 ∨ i = 1 by omega) with e | e <;> subst e
    · rw [Nat.add_zero, Nat.add_zero]
      exact ⟨fun w => by rw [q41.1, if_neg w, nz _ a1 w], fun w => by rw [q42.1, if_neg w, nz _ a3 w]⟩
    · exact ⟨fun w => by rw [q41.2, if_neg w, nz _ a2 w], fun w => by rw [q42.2, if_neg w, nz _ a4 w]⟩
end K4
