/-! ===== a move of a row, in the model: the row's part, its bounds kept ===== -/
section B2
variable {h g G : AH} {Z Y : ZT} {rl rz a : Nat} {u : Int}
theorem nu01 (hu : u = 0 ∨ u = 1) : nu u = 0 ∨ nu u = 1 := by unfold nu; split <;> omega
/-- the value on a side -/
def nL (Z : ZT) (rz a : Nat) (u j : Int) : Int := if zo Z a u j = -1 then -1 else Z 22 (48 * rz + (zo Z a u j).toNat)
theorem zL0_n (K : QS Z) (h1 : 1 ≤ a) (ha : (a : Int) ≤ Z 1 0) : zL Z (rz : Int) u (24 * 0 + (a : Int)) 0 = nL Z rz a u 0 := by
  have r := zo_r K h1 ha u 0 (Or.inl rfl)
  unfold zL nL
  rw [zon0_n]
  split
  · rfl
  · rw [show (48 * (rz : Int) + zo Z a u 0).toNat = 48 * rz + (zo Z a u 0).toNat by omega]
theorem zL1_n (K : QS Z) (h1 : 1 ≤ a) (ha : (a : Int) ≤ Z 1 0) : zL Z (rz : Int) u (24 * 0 + (a : Int)) 1 = nL Z rz a u 1 := by
  have r := zo_r K h1 ha u 1 (Or.inr rfl)
  unfold zL nL
  rw [zon1_n]
  split
  · rfl
  · rw [show (48 * (rz : Int) + zo Z a u 1).toNat = 48 * rz + (zo Z a u 1).toNat by omega]
theorem nL_sb (K : QS Z) (B : VB Z rz) (h1 : 1 ≤ a) (ha : (a : Int) ≤ Z 1 0) {j : Int} (hj : j = 0 ∨ j = 1) : sb Z (zo Z a u j) (nL Z rz a u j) := by
  have r := zo_r K h1 ha u j hj
  have b2 := K.b2
  unfold sb nL
  by_cases e : zo Z a u j = -1
  · rw [if_pos e, if_pos e]; omega
  · rw [if_neg e, if_neg e]
    have := B.x (k := (zo Z a u j).toNat) (by omega)
    exact ⟨this.1, this.2.1 (by omega)⟩
theorem zq {r : Nat} : (24 * (r : Int) + (a : Int)).toNat = 24 * r + a := by omega
theorem zq2 {r : Nat} : (2 * (24 * (r : Int) + (a : Int))).toNat = 2 * (24 * r + a) := by omega
theorem zq3 {r : Nat} : (2 * (24 * (r : Int) + (a : Int)) + 1).toNat = 2 * (24 * r + a) + 1 := by omega
/-- whether the box gives back -/
def nbk (Z : ZT) (rz a : Nat) (u l0 l1 : Int) : Prop := zG0 Z (nu u) 0 (a : Int) (Z 25 (2 * (24 * rz + a))) (Z 25 (2 * (24 * rz + a) + 1)) = l0 ∧ zG1 Z (nu u) 0 (a : Int) (Z 25 (2 * (24 * rz + a))) = l1
theorem zC_no {l0 l1 g0 g1 : Int} (e : ¬ Z 24 (24 * rz + a) = (if u = 0 then 1 else 2)) : zmvC Z (rz : Int) 0 (a : Int) (24 * (rz : Int) + (a : Int)) u l0 l1 g0 g1 = (Z, g0, g1) := by
  unfold zmvC; rw [zq, if_neg e]
theorem zC_in {l0 l1 g0 g1 : Int} (e : Z 24 (24 * rz + a) = (if u = 0 then 1 else 2)) (k : nbk Z rz a u l0 l1) : zmvC Z (rz : Int) 0 (a : Int) (24 * (rz : Int) + (a : Int)) u l0 l1 g0 g1 = (zs Z 24 (24 * rz + a) 0, Z 25 (2 * (24 * rz + a)), Z 25 (2 * (24 * rz + a) + 1)) := by
  unfold zmvC zbk; rw [zq, zq2, zq3, if_pos e]; exact if_pos k
theorem zC_lo {l0 l1 g0 g1 : Int} (e : Z 24 (24 * rz + a) = (if u = 0 then 1 else 2)) (k : ¬ nbk Z rz a u l0 l1) : zmvC Z (rz : Int) 0 (a : Int) (24 * (rz : Int) + (a : Int)) u l0 l1 g0 g1 = (zs (zs Z 24 (24 * rz + a) 0) 23 rz (wr (Z 23 rz + 1)), g0, g1) := by
  unfold zmvC zbk; rw [zq, zq2, zq3, if_pos e, Int.toNat_natCast]; exact if_neg k
theorem zD_no {l0 l1 r0 r1 : Int} (k : zG0 Z (nu u) 0 (a : Int) r0 r1 = l0 ∧ zG1 Z (nu u) 0 (a : Int) r0 = l1) : zmvD Z 0 (a : Int) (24 * (rz : Int) + (a : Int)) u l0 l1 r0 r1 = Z := by
  unfold zmvD; rw [if_pos k]
theorem zD_in {l0 l1 r0 r1 : Int} (k : ¬ (zG0 Z (nu u) 0 (a : Int) r0 r1 = l0 ∧ zG1 Z (nu u) 0 (a : Int) r0 = l1)) : zmvD Z 0 (a : Int) (24 * (rz : Int) + (a : Int)) u l0 l1 r0 r1 = zs (zs (zs Z 24 (24 * rz + a) (if u = 0 then 2 else 1)) 25 (2 * (24 * rz + a)) l0) 25 (2 * (24 * rz + a) + 1) l1 := by
  unfold zmvD; rw [if_neg k, zq, zq2, zq3]
theorem zE_n {r0 r1 : Int} : zmvE Z (rz : Int) (a : Int) u 0 r0 r1 = zs (zv (zv (zv (zv Z (rz : Int) (zo Z a u 0) (-1)) (rz : Int) (zo Z a u 1) (-1)) (rz : Int) (zo Z a (nu u) 0) r0) (rz : Int) (zo Z a (nu u) 1) r1) 21 rz (if u = 0 then (a : Int) - 1 else (a : Int)) := by
  unfold zmvE; rw [zon0_n, zon1_n, zon0_n, zon1_n, Int.toNat_natCast]
/-- what the schema's rows alone tell -/
theorem zo_c (e : ∀ j, sj j = true → Y j = Z j) (a : Nat) (u j : Int) : zo Y a u j = zo Z a u j := by
  unfold zo zsd; rw [e 7 rfl, e 8 rfl, e 9 rfl]
theorem zG0_y (e : ∀ j, sj j = true → Y j = Z j) {x y b : Int} : zG0 Y u 0 b x y = zG0 Z u 0 b x y := by
  unfold zG0 zU0 zD0 zU0r zD0r zned zkof zfr zbe
  rw [e 3 rfl, e 4 rfl, e 6 rfl, e 7 rfl, e 8 rfl, e 9 rfl, e 10 rfl]
theorem zG1_y (e : ∀ j, sj j = true → Y j = Z j) {x b : Int} : zG1 Y u 0 b x = zG1 Z u 0 b x := by
  unfold zG1 zU1 zD1 zU1r zD1r zned zfr zbe
  rw [e 4 rfl, e 6 rfl, e 7 rfl, e 8 rfl, e 9 rfl, e 10 rfl]
theorem sj_lt {j k : Nat} (hj : sj j = true) (hk : 11 ≤ k) : Nat.beq j k = false := beq_ne (fun e => by
  subst e
  unfold sj at hj
  simp only [Bool.or_eq_true, beq_iff_eq] at hj
  omega)
theorem sj_zs {k i : Nat} {v : Int} (hk : 11 ≤ k) : ∀ j, sj j = true → zs Z k i v j = Z j := fun j hj => zs_oj (sj_lt hj hk)
theorem sj_zv {r f v : Int} : ∀ j, sj j = true → zv Z r f v j = Z j := fun j hj => zv_o (sj_lt hj (by decide))
theorem sj_tr {X : ZT} (e1 : ∀ j, sj j = true → Y j = Z j) (e2 : ∀ j, sj j = true → X j = Y j) : ∀ j, sj j = true → X j = Z j := fun j hj => (e2 j hj).trans (e1 j hj)
theorem sj_mv {s b : Int} {r : Int} : ∀ j, sj j = true → zmv Z r s b u j = Z j := fun j hj => zmv_o (by
  unfold sj at hj
  simp only [Bool.or_eq_true, beq_iff_eq] at hj
  rcases hj with ((((((((rfl | rfl) | rfl) | rfl) | rfl) | rfl) | rfl) | rfl) | rfl) | rfl <;> rfl)
/-! bounds by single changes -/
theorem VB.byS (e : ∀ j, sj j = true → Y j = Z j) (k22 : ∀ k : Nat, k < 48 → -1 ≤ Y 22 (48 * rz + k) ∧ ((k : Int) < Z 2 0 → Y 22 (48 * rz + k) ≤ zmost (Z 3 k)) ∧ (Z 2 0 ≤ (k : Int) → Y 22 (48 * rz + k) = -1)) (k21 : 0 ≤ Y 21 rz ∧ Y 21 rz ≤ Z 1 0)
    (k24 : ∀ w : Nat, w < 24 → (0 ≤ Y 24 (24 * rz + w) ∧ Y 24 (24 * rz + w) ≤ 2) ∧ (¬ Y 24 (24 * rz + w) = 0 → 1 ≤ w ∧ (w : Int) ≤ Z 1 0 ∧ ¬ Z 7 w = 1)
    ∧ (Y 24 (24 * rz + w) = 1 → sb Z (Z 8 (2 * w)) (Y 25 (2 * (24 * rz + w))) ∧ sb Z (Z 8 (2 * w + 1)) (Y 25 (2 * (24 * rz + w) + 1)))
    ∧ (Y 24 (24 * rz + w) = 2 → sb Z (Z 9 (2 * w)) (Y 25 (2 * (24 * rz + w))) ∧ sb Z (Z 9 (2 * w + 1)) (Y 25 (2 * (24 * rz + w) + 1)))) : VB Y rz := by
  unfold VB sb at *
  rw [e 1 rfl, e 2 rfl, e 3 rfl, e 7 rfl, e 8 rfl, e 9 rfl]
  exact ⟨k21, k22, k24⟩
theorem VB.out (B : VB Z rz) : VB (zs Z 24 (24 * rz + a) 0) rz := by
  refine VB.byS (sj_zs (by decide)) (fun k hk => B.x hk) B.v (fun w hw => ?_)
  by_cases e : w = a
  · subst e
    have e0 : zs Z 24 (24 * rz + w) 0 24 (24 * rz + w) = 0 := zs_eq rfl rfl
    rw [e0]
    exact ⟨by omega, fun z => absurd rfl z, fun z => by omega, fun z => by omega⟩
  · have e0 : zs Z 24 (24 * rz + a) 0 24 (24 * rz + w) = Z 24 (24 * rz + w) := zs_miss (by omega) rfl
    rw [e0]
    exact B.w hw
theorem VB.los {v : Int} (B : VB Z rz) : VB (zs Z 23 rz v) rz := VB.byS (sj_zs (by decide)) (fun k hk => B.x hk) B.v (fun w hw => B.w hw)
theorem VB.ver {v : Int} (B : VB Z rz) (hv : 0 ≤ v ∧ v ≤ Z 1 0) : VB (zs Z 21 rz v) rz := VB.byS (sj_zs (by decide)) (fun k hk => B.x hk) (by rw [zs_eq (Z := Z) (j := 21) (i := rz) rfl rfl]; exact hv) (fun w hw => B.w hw)
theorem VB.put {f x : Int} (B : VB Z rz) (hf : -1 ≤ f ∧ f < Z 2 0) (hx : 0 ≤ f → -1 ≤ x ∧ x ≤ zmost (Z 3 f.toNat)) : VB (zv Z (rz : Int) f x) rz := by
  unfold zv
  by_cases e : f = -1
  · rw [if_pos e]; exact B
  · rw [if_neg e, show (48 * (rz : Int) + f).toNat = 48 * rz + f.toNat by omega]
    refine VB.byS (sj_zs (by decide)) (fun k hk => ?_) B.v (fun w hw => B.w hw)
    by_cases e2 : k = f.toNat
    · have e0 : zs Z 22 (48 * rz + f.toNat) x 22 (48 * rz + k) = x := zs_eq (by omega) rfl
      rw [e0]
      have := hx (by omega)
      exact ⟨this.1, fun _ => by rw [e2]; exact this.2, fun z => by omega⟩
    · have e0 : zs Z 22 (48 * rz + f.toNat) x 22 (48 * rz + k) = Z 22 (48 * rz + k) := zs_miss (by omega) rfl
      rw [e0]
      exact B.x hk
theorem VB.inn {s x y : Int} (B : VB Z rz) (h1 : 1 ≤ a) (h2 : (a : Int) ≤ Z 1 0) (h7 : ¬ Z 7 a = 1) (hs : (s = 1 ∧ sb Z (Z 8 (2 * a)) x ∧ sb Z (Z 8 (2 * a + 1)) y) ∨ (s = 2 ∧ sb Z (Z 9 (2 * a)) x ∧ sb Z (Z 9 (2 * a + 1)) y)) : VB (zs (zs (zs Z 24 (24 * rz + a) s) 25 (2 * (24 * rz + a)) x) 25 (2 * (24 * rz + a) + 1) y) rz := by
  refine VB.byS (sj_tr (sj_tr (sj_zs (by decide)) (sj_zs (by decide))) (sj_zs (by decide))) (fun k hk => B.x hk) B.v (fun w hw => ?_)
  by_cases e : w = a
  · subst e
    have e24 : (zs (zs (zs Z 24 (24 * rz + w) s) 25 (2 * (24 * rz + w)) x) 25 (2 * (24 * rz + w) + 1) y) 24 (24 * rz + w) = s := zs_ne rfl (zs_ne rfl (zs_eq rfl rfl))
    have e0 : (zs (zs (zs Z 24 (24 * rz + w) s) 25 (2 * (24 * rz + w)) x) 25 (2 * (24 * rz + w) + 1) y) 25 (2 * (24 * rz + w)) = x := zs_miss (by omega) (zs_eq rfl rfl)
    have e1 : (zs (zs (zs Z 24 (24 * rz + w) s) 25 (2 * (24 * rz + w)) x) 25 (2 * (24 * rz + w) + 1) y) 25 (2 * (24 * rz + w) + 1) = y := zs_eq rfl rfl
    rw [e24, e0, e1]
    rcases hs with ⟨s1, s2⟩ | ⟨s1, s2⟩
    · exact ⟨by omega, fun _ => ⟨h1, h2, h7⟩, fun _ => s2, fun z => by omega⟩
    · exact ⟨by omega, fun _ => ⟨h1, h2, h7⟩, fun z => by omega, fun _ => s2⟩
  · have e24 : (zs (zs (zs Z 24 (24 * rz + a) s) 25 (2 * (24 * rz + a)) x) 25 (2 * (24 * rz + a) + 1) y) 24 (24 * rz + w) = Z 24 (24 * rz + w) := zs_ne rfl (zs_ne rfl (zs_miss (by omega) rfl))
    have e0 : (zs (zs (zs Z 24 (24 * rz + a) s) 25 (2 * (24 * rz + a)) x) 25 (2 * (24 * rz + a) + 1) y) 25 (2 * (24 * rz + w)) = Z 25 (2 * (24 * rz + w)) := zs_miss (by omega) (zs_miss (by omega) (zs_ne rfl rfl))
    have e1 : (zs (zs (zs Z 24 (24 * rz + a) s) 25 (2 * (24 * rz + a)) x) 25 (2 * (24 * rz + a) + 1) y) 25 (2 * (24 * rz + w) + 1) = Z 25 (2 * (24 * rz + w) + 1) := zs_miss (by omega) (zs_miss (by omega) (zs_ne rfl rfl))
    rw [e24, e0, e1]
    exact B.w hw
/-- what is reached, before the row is changed -/
def nC (Z : ZT) (rz a : Nat) (u : Int) : ZT × Int × Int := zmvC Z (rz : Int) 0 (a : Int) (24 * (rz : Int) + (a : Int)) u (nL Z rz a u 0) (nL Z rz a u 1) (zG0 Z u 0 (a : Int) (nL Z rz a u 0) (nL Z rz a u 1)) (zG1 Z u 0 (a : Int) (nL Z rz a u 0))
theorem zmv_n (K : QS Z) (h1 : 1 ≤ a) (ha : (a : Int) ≤ Z 1 0) : zmv Z (rz : Int) 0 (a : Int) u = zmvE (zmvD (nC Z rz a u).1 0 (a : Int) (24 * (rz : Int) + (a : Int)) u (nL Z rz a u 0) (nL Z rz a u 1) (nC Z rz a u).2.1 (nC Z rz a u).2.2) (rz : Int) (a : Int) u 0 (nC Z rz a u).2.1 (nC Z rz a u).2.2 := by
  unfold nC zmv
  rw [zL0_n K h1 ha, zL1_n K h1 ha]
theorem nC_x (K : QS Z) (B : VB Z rz) (h1 : 1 ≤ a) (ha : (a : Int) ≤ Z 1 0) (hu : u = 0 ∨ u = 1) : (∀ j, sj j = true → (nC Z rz a u).1 j = Z j) ∧ VB (nC Z rz a u).1 rz ∧ sb Z (zo Z a (nu u) 0) (nC Z rz a u).2.1 ∧ sb Z (zo Z a (nu u) 1) (nC Z rz a u).2.2 := by
  have b1 := K.b1
  have sG := sb_G K h1 ha hu (nL_sb K B h1 ha (u := u) (Or.inl rfl)) (nL_sb K B h1 ha (u := u) (Or.inr rfl))
  unfold nC
  by_cases e : Z 24 (24 * rz + a) = (if u = 0 then 1 else 2)
  · have bw := (B.w (w := a) (by omega)).2.2
    by_cases k : nbk Z rz a u (nL Z rz a u 0) (nL Z rz a u 1)
    · rw [zC_in e k]
      refine ⟨sj_zs (by decide), B.out, ?_⟩
      by_cases hw : Z 7 a = 1
      · exact absurd hw ((B.w (w := a) (by omega)).2.1 (by rw [e]; split <;> omega)).2.2
      · have e0 : ∀ j, zo Z a (nu u) j = zsd Z a (nu u) j := fun j => by unfold zo; rw [if_neg hw]
        rw [e0, e0]
        unfold nu
        rcases hu with rfl | rfl
        · rw [if_pos rfl, zsd_10, zsd_11]; exact bw.1 e
        · rw [if_neg (by decide), zsd_00, zsd_01]; exact bw.2 e
    · rw [zC_lo e k]
      exact ⟨sj_tr (sj_zs (by decide)) (sj_zs (by decide)), B.out.los, sG⟩
  · rw [zC_no e]
    exact ⟨fun _ _ => rfl, B, sG⟩
/-- the moved row keeps its bounds -/
theorem VB.mv (K : QS Z) (B : VB Z rz) (h1 : 1 ≤ a) (ha : (a : Int) ≤ Z 1 0) (hu : u = 0 ∨ u = 1) : VB (zmv Z (rz : Int) 0 (a : Int) u) rz := by
  obtain ⟨eC, bC, s0, s1⟩ := nC_x K B h1 ha hu
  have t0 := nL_sb K B h1 ha (u := u) (Or.inl rfl)
  have t1 := nL_sb K B h1 ha (u := u) (Or.inr rfl)
  have r := fun w j hj => zo_r K h1 ha w j hj
  rw [zmv_n K h1 ha]
  generalize (nC Z rz a u).1 = C at *
  generalize (nC Z rz a u).2.1 = p at *
  generalize (nC Z rz a u).2.2 = q at *
  have D : (∀ j, sj j = true → zmvD C 0 (a : Int) (24 * (rz : Int) + (a : Int)) u (nL Z rz a u 0) (nL Z rz a u 1) p q j = Z j) ∧ VB (zmvD C 0 (a : Int) (24 * (rz : Int) + (a : Int)) u (nL Z rz a u 0) (nL Z rz a u 1) p q) rz := by
    by_cases k : zG0 C (nu u) 0 (a : Int) p q = nL Z rz a u 0 ∧ zG1 C (nu u) 0 (a : Int) p = nL Z rz a u 1
    · rw [zD_no k]; exact ⟨eC, bC⟩
    · rw [zD_in k]
      refine ⟨sj_tr (sj_tr (sj_tr eC (sj_zs (by decide))) (sj_zs (by decide))) (sj_zs (by decide)), ?_⟩
      have h7 : ¬ Z 7 a = 1 := fun hw => by
        apply k
        have e0 : ∀ w j, zo Z a w j = -1 := fun w j => by unfold zo; rw [if_pos hw]
        have l0 : nL Z rz a u 0 = -1 := by unfold nL; rw [if_pos (e0 _ _)]
        have l1 : nL Z rz a u 1 = -1 := by unfold nL; rw [if_pos (e0 _ _)]
        have sG := sb_G K h1 ha (nu01 hu) (x := p) (y := q) (by rw [e0]; rw [e0] at s0; exact s0) (by rw [e0]; rw [e0] at s1; exact s1)
        rw [zG0_y eC, zG1_y eC, l0, l1]
        rw [e0, e0] at sG
        have g0 := sG.1
        have g1 := sG.2
        unfold sb at g0 g1
        rw [if_pos rfl] at g0 g1
        omega
      have e0 : ∀ w j, zo Z a w j = zsd Z a w j := fun w j => by unfold zo; rw [if_neg h7]
      refine bC.inn h1 (by rw [eC 1 rfl]; exact ha) (by rw [eC 7 rfl]; exact h7) ?_
      rw [e0] at t0 t1
      unfold sb at *
      rw [eC 3 rfl, eC 8 rfl, eC 9 rfl]
      rcases hu with rfl | rfl
      · rw [zsd_00] at t0; rw [zsd_01] at t1
        exact Or.inr ⟨by rw [if_pos rfl], t0, t1⟩
      · rw [zsd_10] at t0; rw [zsd_11] at t1
        exact Or.inl ⟨by rw [if_neg (by decide)], t0, t1⟩
  generalize zmvD C 0 (a : Int) (24 * (rz : Int) + (a : Int)) u (nL Z rz a u 0) (nL Z rz a u 1) p q = D' at D
  obtain ⟨eD, bD⟩ := D
  rw [zE_n, zo_c eD, zo_c eD, zo_c eD, zo_c eD]
  have m : ∀ {Y : ZT} {f x : Int}, (∀ j, sj j = true → Y j = Z j) → (-1 ≤ f ∧ f < Z 2 0) → (sb Z f x ∨ x = -1) → VB Y rz → VB (zv Y (rz : Int) f x) rz := fun {Y f x} eY hf hx bY => bY.put (by rw [eY 2 rfl]; exact hf) (fun z => by
    rw [eY 3 rfl]
    rcases hx with hx | hx
    · exact ⟨hx.1, hx.m z⟩
    · have := zmost_b (Z 3 f.toNat); omega)
  have b1 := m eD (r u 0 (Or.inl rfl)) (x := -1) (Or.inr rfl) bD
  have e1 := sj_tr eD (sj_zv (Z := D') (r := (rz : Int)) (f := zo Z a u 0) (v := -1))
  have b2 := m e1 (r u 1 (Or.inr rfl)) (x := -1) (Or.inr rfl) b1
  have e2 := sj_tr e1 (sj_zv (r := (rz : Int)) (f := zo Z a u 1) (v := -1))
  have b3 := m e2 (r (nu u) 0 (Or.inl rfl)) (x := p) (Or.inl s0) b2
  have e3 := sj_tr e2 (sj_zv (r := (rz : Int)) (f := zo Z a (nu u) 0) (v := p))
  have b4 := m e3 (r (nu u) 1 (Or.inr rfl)) (x := q) (Or.inl s1) b3
  have e4 := sj_tr e3 (sj_zv (r := (rz : Int)) (f := zo Z a (nu u) 1) (v := q))
  refine b4.ver ?_
  rw [e4 1 rfl]
  split <;> omega
end B2
