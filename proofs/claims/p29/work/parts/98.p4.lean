/-! ===== the model stays sound: set, undo, step, the calls ===== -/
section P4
variable {Z Y : ZT} {h g : AH} {A A2 : Nat → Nat} {c c2 r : Nat}
theorem ZI.set {n x : Int} (I : ZI Z) (S : SIMq A 9 g (zSet Z (r : Int) n x) c) (hr : (r : Int) < Z 19 0) (hF : 0 ≤ zinR Z (r : Int) n ∧ zinR Z (r : Int) n < 48) : ZI (zSet Z (r : Int) n x) := by
  have yo : ∀ j, ¬ j = 22 → ¬ j = 26 → ¬ j = 27 → ¬ j = 48 → zSet Z (r : Int) n x j = Z j := fun j h22 h26 h27 h48 => by
    unfold zSet zcnt; rw [zs_oj (beq_ne h26), zs_oj (beq_ne h27), zs_oj (beq_ne h22), zs_oj (beq_ne h48)]
  refine I.rw S (fun j hj => ?_) (fun x' hx hy => ⟨by rw [yo 20 (by decide) (by decide) (by decide) (by decide)], ?_⟩)
  · unfold rwj at hj
    simp only [Bool.or_eq_false_iff, beq_eq_false_iff_ne] at hj
    exact yo j (by omega) (by omega) (by omega) (by omega)
  · refine ⟨by rw [yo 21 (by decide) (by decide) (by decide) (by decide)], by rw [yo 23 (by decide) (by decide) (by decide) (by decide)], fun f hf => ?_, fun _ _ => by rw [yo 24 (by decide) (by decide) (by decide) (by decide)], fun _ _ => by rw [yo 25 (by decide) (by decide) (by decide) (by decide)]⟩
    unfold zSet zcnt
    refine zs_ne rfl (zs_ne rfl ?_)
    rw [zs_if, if_neg (by omega)]
    exact zs_ne rfl rfl
theorem ZI.und {m t : Nat} (I : ZI Z) (S : SIMq A 9 h Z c) (S' : SIMq A2 9 g (zUnd Z (m : Int) (t : Int)) c2) (hc : c2 ≤ 512) (hm : (m : Int) < Z 28 0) (ht : (t : Int) < Z 32 0) (er : Z 34 t = (r : Int)) (hr : (r : Int) < Z 19 0) (el : hI h (9, r, 0) 2 = (t : Int)) : ZI (zUnd Z (m : Int) (t : Int)) := by
  have zz := S.zz
  obtain ⟨RWr, r2, R3, r4, r5, r6, r7⟩ := S.2.2.2.2.1 r hr
  obtain ⟨k1, k2, k3, k4, k5, k6, k7, k8, k9, k10, k11⟩ := S.2.2.2.2.2.2 t ht
  rw [er, Int.toNat_natCast] at k10
  obtain ⟨s, es⟩ := Int.eq_ofNat_of_zero_le r2.1
  have eS : (Z 20 r).toNat = s := by omega
  rw [eS] at R3 r7 k10
  have hs : (s : Int) < Z 0 0 := by omega
  obtain ⟨S1, K, -⟩ := S.sc hs
  have r7 := r7 (by omega)
  rw [el, Int.toNat_natCast] at r7
  have J := r7.2
  have hA := J.1
  have hVV : Z 21 r + Z 37 t = 2 * (A t : Int) - 1 := by have := J.2.1; rw [R3.1.1, k10.2.1.1] at this; exact this
  have ea : zundA Z (r : Int) (t : Int) = ((A t : Nat) : Int) := by
    have := k10.2.1.2.1
    unfold zundA
    rw [Int.toNat_natCast, Int.toNat_natCast]
    split <;> omega
  obtain ⟨-, UX⟩ := UR_und (m := (m : Int)) (t := t) K hA.1 hA.2 er es ea
  have o := fun (j : Nat) hj => zUnd_o (Z := Z) (m := (m : Int)) (t := (t : Int)) (j := j) hj
  refine I.st S' hc (fun j h1 h2 h31 => o j ?_) (fun x hx hy => ⟨by rw [o 20 rfl], UX x (by omega)⟩) (fun t' _ => ⟨by rw [o 34 rfl], by rw [o 37 rfl]⟩) (fun m' hm' => ?_)
  · unfold rwj at h1
    simp only [Bool.or_eq_false_iff, beq_eq_false_iff_ne] at h1
    simp only [Bool.and_eq_true, bne_iff_ne, ne_eq]
    omega
  · unfold zUnd
    rw [Int.toNat_natCast, Int.toNat_natCast, zs_if, if_neg (by omega)]
    exact zs_ne rfl (by rw [zUnd2_o rfl])
theorem ZI.stp {m v k s : Nat} {u : Int} (I : ZI Z) (S : SIMq A 9 h Z c) (S' : SIMq A2 9 g (zStp Z (r : Int) (m : Int)) c2) (hc : c < 512) (hc2 : c2 ≤ 512) (em : Z 32 0 = (k : Int)) (hr : (r : Int) < Z 19 0) (hm : (m : Int) < Z 28 0) (ev : zstA' Z (r : Int) (m : Int) = (v : Int)) (es : Z 20 r = (s : Int)) (hv : 1 ≤ v ∧ (v : Int) ≤ Z 1 s) (eu : u = bz (Z 21 r < Z 30 m)) : ZI (zStp Z (r : Int) (m : Int)) := by
  have zz := S.zz
  have hs : (s : Int) < Z 0 0 := by have := (S.2.2.2.2.1 r hr).2.1; omega
  have b1 := (S.sc hs).2.1.b1
  have N := YN_stp S hc em ev es hs hv
  obtain ⟨-, -, n32, nk, -⟩ := N
  have z1 : ∀ j, ntk j = true → zY1 Z (zStp Z (r : Int) (m : Int)) j = zStp Z (r : Int) (m : Int) j := fun j hj => if_pos hj
  have yc : ∀ j, (j != 33 && j != 34 && j != 35 && j != 36 && j != 37 && j != 38 && j != 39 && j != 40 && j != 41 && j != 42 && j != 48 && j != 31 && j != 32 && j != 26 && j != 27) = true → zStp Z (r : Int) (m : Int) j = zmv (zStp2 Z r (24 * (s : Int) + (v : Int)) (24 * (r : Int) + (v : Int)) m) r s v u j := fun j hj => by
    rw [zStp_o hj, Int.toNat_natCast, Int.toNat_natCast, es, ev, eu]
  have BX : BB (zStp2 Z r (24 * (s : Int) + (v : Int)) (24 * (r : Int) + (v : Int)) m) := BB_c (zStp2_o rfl) (zStp2_o rfl) I.1.1.2.2.1
  refine I.st S' hc2 (fun j h1 h2 h31 => ?_) (fun x hx hy => ⟨by rw [yc 20 rfl, zmv_o rfl, zStp2_o rfl], ?_⟩) (fun t ht => ?_) (fun m' hm' => ?_)
  · unfold ntk at h2
    unfold rwj at h1
    simp only [Bool.or_eq_false_iff, beq_eq_false_iff_ne] at h1 h2
    rw [yc j (by simp only [Bool.and_eq_true, bne_iff_ne, ne_eq]; omega), zmv_o (by unfold offR; simp only [Bool.and_eq_true, bne_iff_ne, ne_eq]; omega), zStp2_o (by simp only [Bool.and_eq_true, bne_iff_ne, ne_eq]; omega)]
  · have a1 : zRw (zStp2 Z r (24 * (s : Int) + (v : Int)) (24 * (r : Int) + (v : Int)) m) Z x := zRw.fn (fun j hj => by
      simp only [Bool.or_eq_true, beq_iff_eq] at hj
      rcases hj with (((hj | hj) | hj) | hj) | hj <;> subst hj <;> exact zStp2_o rfl)
    have a2 := zRw.mv (s := (s : Int)) (v := (v : Int)) (u := u) BX (show ¬ r = x by omega) ⟨by omega, by omega⟩
    have a3 : zRw (zStp Z (r : Int) (m : Int)) (zmv (zStp2 Z r (24 * (s : Int) + (v : Int)) (24 * (r : Int) + (v : Int)) m) r s v u) x := zRw.fn (fun j hj => by
      simp only [Bool.or_eq_true, beq_iff_eq] at hj
      rcases hj with (((hj | hj) | hj) | hj) | hj <;> subst hj <;> exact yc _ rfl)
    exact (a1.tr a2).tr a3
  · rw [← z1 32 rfl, n32] at ht
    exact ⟨by rw [← z1 34 rfl, nk 34 t (by omega) (by omega)], by rw [← z1 37 rfl, nk 37 t (by omega) (by omega)]⟩
  · unfold zStp
    refine zs_ne rfl ?_
    rw [em, Int.toNat_natCast, Int.toNat_natCast, zs_if, if_neg (by omega)]
    unfold zStp3 zcnt
    refine zs_ne rfl (zs_ne rfl (zs_ne rfl ?_))
    rw [zmv_o rfl, zStp2_o rfl]
end P4
