/-! ===== a mover's step: law, model and class go on ===== -/
section G3
variable {h g G : AH} {Z Y X : ZT} {A : Nat → Nat} {c b L r0 mv i t n : Nat} {u : Int}
/-- the law's arrays behind a mover's step of the row r0 -/
def FT (Z : ZT) (mv r0 i : Nat) (u : Int) (h g : AH) : Prop := FL (fun j => j = 5 ∨ j = 6 ∨ j = 7 ∨ j = 8 ∨ j = 9 ∨ j = 10 ∨ j = 11) h g ∧ ((∀ i, ¬ (10 * r0 ≤ i ∧ i < 10 * r0 + 10) → hI g (la 5) i = hI h (la 5) i) ∧ (∀ i, ¬ (2 * r0 ≤ i ∧ i < 2 * r0 + 2) → hI g (la 6) i = hI h (la 6) i) ∧ ∀ i, ¬ (13 * r0 + 1 ≤ i ∧ i < 13 * r0 + 12) → hL g (la 7) i = hL h (la 7) i)
  ∧ LR g (zmv Z (r0 : Int) 0 (i : Int) u) r0 r0 ∧ (LU g Z mv r0 ∧ ∀ k, ¬ k = mv → LK2 h g k)
  ∧ (∀ k, hI g (la 8) (3 * k) = hI h (la 8) (3 * k)) ∧ (∀ k : Nat, ¬ k = mv → (k : Int) < Z 28 0 → hI g (la 8) (3 * k + 1) = hI h (la 8) (3 * k + 1) ∧ hI g (la 8) (3 * k + 2) = if hI h (la 8) (3 * k + 1) = (r0 : Int) then 0 else hI h (la 8) (3 * k + 2)) ∧ hI g (la 8) (3 * mv + 1) = (r0 : Int) ∧ hI g (la 8) (3 * mv + 2) = 1
set_option maxHeartbeats 1000000 in
theorem stp_go (J : IV L h Z c b) (V : JV h Z) (hc : c < 512) (hmv : (mv : Int) < Z 28 0) (hr0 : (r0 : Int) < Z 19 0) (h1 : 1 ≤ i) (ha : (i : Int) ≤ Z 1 0) (hu : u = 0 ∨ u = 1) (eu : u = bz (Z 21 r0 < Z 30 mv)) (hi : zstA' Z (r0 : Int) (mv : Int) = (i : Int)) (hV : Z 21 r0 = if u = 0 then (i : Int) else (i : Int) - 1) (F : FT Z mv r0 i u h g) (S : SIM G (zStp Z (r0 : Int) (mv : Int)) (c + 1)) (I : ZI (zStp Z (r0 : Int) (mv : Int))) (Fr : Fr nMo g G) : IV L G (zStp Z (r0 : Int) (mv : Int)) (c + 1) b ∧ JV G (zStp Z (r0 : Int) (mv : Int)) := by
  obtain ⟨f1, ⟨f2, f3, f4⟩, f5, ⟨f6, f7⟩, f8, f9, f10, f11⟩ := F
  have K := J.K
  have b1 := K.b1
  have v2 := V.b2
  have v3 := V.b3
  have lb := J.lb
  have BBz := J.I.1.1.2.2.1
  obtain ⟨R, B, h20⟩ := V.r hr0
  have ⟨A, SA⟩ := J.S
  obtain ⟨t, ht⟩ := Int.eq_ofNat_of_zero_le SA.c32.1
  have N := YN_stp SA hc ht hi (s := 0) h20 (by rw [J.z0]; decide) ⟨h1, ha⟩
  have E := zStp_mq h20 hi ht
  rw [← eu] at E
  have oo := zStp_oo h20 hi ht
  have ee := zStp_e h20 hi ht
  have J1 : IV L g Z c b := J.fl f1
  have y31 : zStp Z (r0 : Int) (mv : Int) 31 mv = (t : Int) := by rw [ee]; exact zs_ne rfl (zs_eq rfl rfl)
  have y31k : ∀ k : Nat, ¬ k = mv → zStp Z (r0 : Int) (mv : Int) 31 k = Z 31 k := fun k hk => by
    rw [ee]
    refine zs_ne rfl (zs_miss hk (zs_ne rfl ?_))
    unfold zcnt
    refine zs_ne rfl (zs_ne rfl ?_)
    rw [zmv_o rfl]
    exact congrFun (zStp2_o rfl) k
  have y26 : ∀ x : Nat, ¬ x = r0 → zStp Z (r0 : Int) (mv : Int) 26 x = Z 26 x := fun x hx => by
    rw [ee]
    refine zs_ne rfl (zs_ne rfl (zs_ne rfl ?_))
    unfold zcnt
    refine zs_miss (by omega) (zs_ne rfl ?_)
    rw [zmv_o rfl]
    exact congrFun (zStp2_o rfl) x
  have y35 : zStp Z (r0 : Int) (mv : Int) 26 r0 = zStp Z (r0 : Int) (mv : Int) 35 t := by
    rw [ee]
    exact (zs_ne rfl (zs_ne rfl (zs_ne rfl rfl))).trans (zs_ne rfl (zs_ne rfl (zs_eq rfl rfl))).symm
  have y32 : zStp Z (r0 : Int) (mv : Int) 32 0 = (t : Int) + 1 := by rw [ee]; exact zs_eq rfl rfl
  have eT := stp_ntj N ht
  have y34 : zStp Z (r0 : Int) (mv : Int) 34 t = (r0 : Int) := (zY1_n (Z := Z) rfl).symm.trans N.2.2.2.2.2.1.2.1
  have y38 : zStp Z (r0 : Int) (mv : Int) 38 t = Z 23 r0 := (zY1_n (Z := Z) rfl).symm.trans N.2.2.2.2.2.1.2.2.2.2.2.1
  have y38x : ∀ x, ¬ x = t → zStp Z (r0 : Int) (mv : Int) 38 x = Z 38 x := fun x hx => (zY1_n (Z := Z) rfl).symm.trans (N.2.2.2.1 38 x (by omega) hx)
  have KY : ZS (zStp Z (r0 : Int) (mv : Int)) 0 := (S.zs0 (by rw [oo 0 rfl]; exact J.z0)).2
  have un := stp_u (m := mv) K KY N E h20 (by rw [oo 20 rfl]; exact h20) h1 ha hu hV
  have BM := B.mv K h1 ha hu
  have mk := (zmv_k (r := r0) K h1 ha hu).1.2.2
  have eS : ∀ j, sj j = true → zStp Z (r0 : Int) (mv : Int) j = Z j := fun j hj => (E.sj j hj).trans (sj_mv j hj)
  have zE : ∀ x, zRw (zStp Z (r0 : Int) (mv : Int)) (zmv Z (r0 : Int) 0 (i : Int) u) x := fun x => zRw.fn (fun j hj => E j (by
    simp only [Bool.or_eq_true, beq_iff_eq] at hj
    simp only [Bool.or_eq_true, beq_iff_eq]
    omega))
  have rw0 : ∀ x : Nat, ¬ x = r0 → zRw (zStp Z (r0 : Int) (mv : Int)) Z x := fun x hx => (zRw.mv (s := 0) (v := (i : Int)) (u := u) BBz (show ¬ r0 = x by omega) ⟨by omega, by omega⟩).tr (zE x)
  have eU : ∀ j, sj j = true → zUnd (zStp Z (r0 : Int) (mv : Int)) (mv : Int) (t : Int) j = Z j := fun j hj => (zUnd_o (by
    unfold sj at hj
    simp only [Bool.or_eq_true, beq_iff_eq] at hj
    simp only [Bool.and_eq_true, bne_iff_ne, ne_eq]
    omega)).trans (eS j hj)
  have LY : LB (zStp Z (r0 : Int) (mv : Int)) (c + 1) := by
    refine ⟨fun x => ?_, fun x => ?_⟩
    · have l := lb.1 x
      by_cases hx : x = r0
      · rw [hx] at l ⊢
        rw [E 23 rfl]
        rcases mk with e | e
        · rw [e]; omega
        · rw [e, wr_id ⟨by omega, by omega⟩]; omega
      · rw [(rw0 x hx).2.1]; omega
    · by_cases hx : x = t
      · rw [hx, y38]; have := lb.1 r0; omega
      · rw [y38x x hx]; have := lb.2 x; omega
  have row0 : LR g (zStp Z (r0 : Int) (mv : Int)) r0 r0 ∧ VB (zStp Z (r0 : Int) (mv : Int)) r0 := ⟨f5.zr (zE r0), BM.zr (fun j hj => E.sj j hj) (zE r0)⟩
  have ud : UD g (zStp Z (r0 : Int) (mv : Int)) mv r0 := by
    unfold UD
    rw [y31, Int.toNat_natCast]
    exact ⟨⟨by omega, by omega⟩, y34, y35, f6.kp ⟨fun _ _ => rfl, fun _ _ _ => rfl⟩ un, B.zr eU un⟩
  generalize zStp Z (r0 : Int) (mv : Int) = Y at *
  refine ⟨J1.go Fr S I ⟨by rw [oo 0 rfl]; exact J.z0, by rw [oo 13 rfl]; exact J.z13, by rw [oo 11 rfl]; exact J.z11, LY⟩ (QX.o eS J.X), ?_⟩
  refine JV.as (h := g) (la_mo Fr) ?_
  refine V.rw0 (r0 := r0) (mv := mv) f1 eS (by rw [oo 19 rfl]) (by rw [oo 28 rfl]) (oo 20 rfl) (fun q _ hq => ⟨rw0 q hq, y26 q hq⟩) eT (by omega) (fun q w a1 a2 a3 a4 => by rw [f4 _ (by omega)]; exact V.fz q w a1 a2 a3 a4) (fun q hq hr R' => ?_) (fun _ => row0) (oo 29 rfl) (oo 30 rfl) (fun k hk hkm => ⟨⟨f8 k, (f9 k hkm hk).1⟩, (f9 k hkm hk).2, y31k k hkm, f7 k hkm⟩) (fun _ => ⟨f8 mv, by rw [f10]; omega, Or.inr ⟨f11, f10, ud⟩⟩)
  obtain ⟨r1, r2, r3, r4⟩ := R'
  exact ⟨fun k hk => by rw [f2 _ (by omega)]; exact r1 k hk, by rw [f3 _ (by omega)]; exact r2, by rw [f3 _ (by omega)]; exact r3, fun w h1 h2 => by rw [f4 _ (by omega)]; exact r4 w h1 h2⟩
end G3
