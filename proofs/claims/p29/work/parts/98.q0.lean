/-! ===== the model stays sound: versions ===== -/
section Q0
variable {Z Y : ZT} {h g : AH} {A : Nat → Nat} {c : Nat}
def vrj (j : Nat) : Bool := j == 1 || j == 2 || j == 3 || j == 4 || j == 5 || j == 6 || j == 7 || j == 8 || j == 9 || j == 10 || j == 11 || j == 12 || j == 43 || j == 44 || j == 45 || j == 48
theorem ZI.ver (I : ZI Z) (S : SIMq A 9 g Y c) (hb : BI Y) (hn : BN Y) (hk : BK Y) (q : NQ Y) (o : ∀ j, vrj j = false → Y j = Z j) (h1 : ∀ s : Nat, s < 4 → Z 1 s ≤ Y 1 s)
    (on : ∀ s : Nat, s < 4 → Z 0 0 ≤ (s : Int) → Y 1 s = Z 1 s ∧ Y 2 s = Z 2 s ∧ Y 11 s = Z 11 s ∧ ∀ v f : Nat, v < 24 → f < 48 → Y 5 (48 * (24 * s + v) + f) = Z 5 (48 * (24 * s + v) + f)) : ZI Y := by
  obtain ⟨⟨b1, ⟨d1, d2⟩, b3, ⟨m1, m2⟩, b5, b6, b7, b8⟩, n, -⟩ := I
  have zz := S.zz
  have e0 := o 0 rfl
  have kp : ∀ s a : Int, 0 ≤ s → s < 4 → 1 ≤ a → a ≤ Y 1 s.toNat → ∃ p : Nat, 24 * s + a = (p : Int) ∧ ZP Y s.toNat p := by
    intro s a h0 h4 h2 h3
    obtain ⟨s, rfl⟩ := Int.eq_ofNat_of_zero_le h0
    obtain ⟨a, rfl⟩ := Int.eq_ofNat_of_zero_le (show 0 ≤ a by omega)
    rw [Int.toNat_natCast] at h3 ⊢
    by_cases hs : (s : Int) < Y 0 0
    · exact ⟨24 * s + a, by omega, (S.sc hs).2.1.zp (by omega) h3⟩
    · rw [e0] at hs
      have := (n.1 s (by omega) (by omega)).1
      rw [(on s (by omega) (by omega)).1] at h3
      omega
  refine ⟨⟨hb, ⟨by rw [o 19 rfl]; exact d1, fun x hx => ?_⟩, fun s x y a u v => ?_, ⟨by rw [o 28 rfl]; exact m1, fun m hm => ?_⟩, b5.o (o 31 rfl) (o 34 rfl) (o 37 rfl), hn, hk, fun s a x y u v => ?_⟩, ?_, q⟩
  · rw [o 20 rfl, o 21 rfl]
    have := d2 x hx
    have := h1 (Z 20 x).toNat (by omega)
    omega
  · obtain ⟨p, ep, zp⟩ := kp s a x y u v
    have k := zp.2.1
    show (Y 7 (24 * s + a).toNat = 0 → 0 ≤ Y 9 (2 * (24 * s + a)).toNat) ∧ (Y 7 (24 * s + a).toNat = 3 ∨ Y 7 (24 * s + a).toNat = 4 → 0 < Y 10 (24 * s + a).toNat)
    rw [ep, Int.toNat_natCast, show (2 * (p : Int)).toNat = 2 * p by omega]
    rcases k with k | k | k | k | k | k
    · exact ⟨fun _ => k.2.2.2.1, fun w => by omega⟩
    · exact ⟨fun w => by omega, fun w => by omega⟩
    · exact ⟨fun w => by omega, fun w => by omega⟩
    · exact ⟨fun w => by omega, fun _ => k.2.2.2.2.2⟩
    · exact ⟨fun w => by omega, fun _ => k.2.2.2.2.2⟩
    · exact ⟨fun w => by omega, fun w => by omega⟩
  · rw [o 29 rfl, o 30 rfl]
    have := m2 m hm
    have := h1 (Z 29 m).toNat (by omega)
    omega
  · obtain ⟨p, ep, zp⟩ := kp s a x y u v
    have k := zp.2.1
    unfold stF zfr zbe
    rw [ep, show (2 * (p : Int) + 0).toNat = 2 * p by omega, show (2 * (p : Int) + 1).toNat = 2 * p + 1 by omega]
    rcases k with k | k | k | k | k | k
    · exact ⟨fun w => by omega, fun w => by omega⟩
    · exact ⟨fun w => by omega, fun w => by omega⟩
    · exact ⟨fun w => by omega, fun w => by omega⟩
    · exact ⟨fun w => by omega, fun w => by omega⟩
    · exact ⟨fun w => by omega, fun w => by omega⟩
    · exact ⟨fun w => by omega, fun w => by omega⟩
  · unfold NZ at *
    rw [e0, o 13 rfl, o 16 rfl, o 17 rfl, o 19 rfl, o 23 rfl, o 24 rfl]
    refine ⟨fun s hs hy => ?_, n.2⟩
    obtain ⟨n1, n2, n11, n5⟩ := n.1 s hs hy
    obtain ⟨q1, q2, q11, q5⟩ := on s hs hy
    exact ⟨q1.trans n1, q2.trans n2, q11.trans n11, fun v f hv hf => (q5 v f hv hf).trans (n5 v f hv hf)⟩
end Q0
