/-! ===== counting bits: the answer ===== -/
section M3
variable {x y : Int64}
abbrev bN (x : Int64) : Nat := x.toBitVec.toNat
theorem bN_lt : bN x < 2 ^ 64 := x.toBitVec.isLt
theorem bN_add : bN (x + y) = (bN x + bN y) % 2 ^ 64 := by unfold bN; rw [Int64.toBitVec_add, BitVec.toNat_add]
theorem bN_sub (h : bN y ≤ bN x) : bN (x - y) = bN x - bN y := by
  have h1 := bN_lt (x := x)
  have h2 := bN_lt (x := y)
  unfold bN at *
  rw [Int64.toBitVec_sub, BitVec.toNat_sub]
  omega
theorem bN_and : bN (x &&& y) = bN x &&& bN y := by unfold bN; rw [Int64.toBitVec_and, BitVec.toNat_and]
theorem bN_ush {k : Nat} (hk : k < 64) : bN (ush x k) = bN x / 2 ^ k := by
  unfold bN ush
  show (x.toUInt64 >>> UInt64.ofNat k).toNat = _
  rw [UInt64.toNat_shiftRight, UInt64.toNat_ofNat', Nat.shiftRight_eq_div_pow]
  show x.toBitVec.toNat / _ = _
  congr 2
  omega
theorem bN_5 : bN 6148914691236517205 = mk8 85 8 := by decide +kernel
theorem bN_3 : bN 3689348814741910323 = mk8 51 8 := by decide +kernel
theorem bN_f : bN 1085102592571150095 = mk8 15 8 := by decide +kernel
theorem bc1_N : bN (bc1 x) = g1 8 (bN x) := by
  unfold bc1 g1
  have e : bN (ush x 1 &&& 6148914691236517205) = bN x / 2 &&& mk8 85 8 := by rw [bN_and, bN_ush (by decide), bN_5]
  rw [bN_sub (by rw [e]; exact Nat.le_trans Nat.and_le_left (Nat.div_le_self _ _)), e]
theorem bc2_N : bN (bc2 x) = g2 8 (bN x) := by
  unfold bc2 g2
  have m : mk8 51 8 < 2 ^ 63 := by decide +kernel
  have h1 : bN x &&& mk8 51 8 ≤ mk8 51 8 := Nat.and_le_right
  have h2 : bN x / 4 &&& mk8 51 8 ≤ mk8 51 8 := Nat.and_le_right
  rw [bN_add, bN_and, bN_and, bN_ush (by decide), bN_3, show (2 : Nat) ^ 2 = 4 from rfl, Nat.mod_eq_of_lt (by omega)]
theorem bc3_N (h : bN x < 2 ^ 63) : bN (bc3 x) = g3 8 (bN x) := by
  unfold bc3 g3
  rw [bN_and, bN_add, bN_ush (by decide), bN_f, show (2 : Nat) ^ 4 = 16 from rfl, Nat.mod_eq_of_lt (by omega)]
theorem bc4_N {k : Nat} (hk : k < 64) (h : bN x + bN x / 2 ^ k < 2 ^ 64) : bN (bc4 x k) = bN x + bN x / 2 ^ k := by
  unfold bc4
  rw [bN_add, bN_ush hk, Nat.mod_eq_of_lt h]
theorem low7 : (Int32.ofInt x.toInt32.toInt &&& Int32.ofInt 127).toInt = ((bN x % 128 : Nat) : Int) := by
  rw [Int32.ofInt_toInt]
  have e : (x.toInt32 &&& Int32.ofInt 127).toBitVec.toNat = bN x % 128 := by
    rw [Int32.toBitVec_and, BitVec.toNat_and, show (Int32.ofInt 127).toBitVec.toNat = 2 ^ 7 - 1 from by decide +kernel, Nat.and_two_pow_sub_one_eq_mod]
    have e2 : x.toInt32.toBitVec.toNat = bN x % 2 ^ 32 := by
      show (x.toBitVec.signExtend 32).toNat = _
      rw [show x.toBitVec.signExtend 32 = x.toBitVec.setWidth 32 from BitVec.signExtend_eq_setWidth_of_le _ (by decide), BitVec.toNat_setWidth]
    rw [e2]
    omega
  show (x.toInt32 &&& Int32.ofInt 127).toBitVec.toInt = _
  rw [BitVec.toInt_eq_toNat_of_lt (by rw [e]; omega), e]
theorem bcv_cb : bcv x = ((cb (fun i => x.toBitVec.getLsbD i) 64 : Nat) : Int) := by
  obtain ⟨p0, p1, p2, p3, p4, p5, p6, p7, hp, es, ec⟩ := cb_64 (bN x)
  have m : mk8 51 8 < 2 ^ 62 := by decide +kernel
  have e1 : bN (bc1 x) = g1 8 (bN x) := bc1_N
  have e2 : bN (bc2 (bc1 x)) = g2 8 (g1 8 (bN x)) := by rw [bc2_N, e1]
  have l2 : bN (bc2 (bc1 x)) < 2 ^ 63 := by
    rw [e2]; unfold g2
    have h1 : g1 8 (bN x) &&& mk8 51 8 ≤ mk8 51 8 := Nat.and_le_right
    have h2 : g1 8 (bN x) / 4 &&& mk8 51 8 ≤ mk8 51 8 := Nat.and_le_right
    omega
  have e3 : bN (bc3 (bc2 (bc1 x))) = S8 8 (bN x) := by rw [bc3_N l2, e2, g_s]
  obtain ⟨f1, f2, f3, f4⟩ := fold_8 hp (e3.trans es)
  have e4 := bc4_N (x := bc3 (bc2 (bc1 x))) (k := 8) (by decide) (by rw [show (2 : Nat) ^ 8 = 256 from rfl]; omega)
  rw [show (2 : Nat) ^ 8 = 256 from rfl] at e4
  have e5 := bc4_N (x := bc4 (bc3 (bc2 (bc1 x))) 8) (k := 16) (by decide) (by rw [show (2 : Nat) ^ 16 = 65536 from rfl, e4]; omega)
  rw [show (2 : Nat) ^ 16 = 65536 from rfl, e4] at e5
  have e6 := bc4_N (x := bc4 (bc4 (bc3 (bc2 (bc1 x))) 8) 16) (k := 32) (by decide) (by rw [show (2 : Nat) ^ 32 = 4294967296 from rfl, e5]; omega)
  rw [show (2 : Nat) ^ 32 = 4294967296 from rfl, e5] at e6
  unfold bcv
  rw [low7, e6, f4, ← ec]
  congr 1
theorem cb_heA {Z : ZT} {L : Int64} {g : Nat} (hL : ∀ f : Nat, f < 64 → (bt L f ↔ f < 48 ∧ ¬ Z 17 (48 * g + f) = 0)) : bcv L = zheA Z (g : Int) 48 := by
  rw [bcv_cb, show cb (fun i => L.toBitVec.getLsbD i) 64 = cb (fun i => L.toBitVec.getLsbD i) 48 from cb_z (m := 48) 16 (fun i h1 h2 => by
    have := hL i (by omega)
    unfold bt at this
    rw [Int.toNat_natCast] at this
    exact Bool.eq_false_iff.mpr (fun z => by have := (this.mp z).1; omega))]
  have lp : ∀ k : Nat, k ≤ 48 → ((cb (fun i => L.toBitVec.getLsbD i) k : Nat) : Int) = zheA Z (g : Int) k := by
    intro k
    induction k with
    | zero => intro _; rfl
    | succ k ih =>
      intro hk
      have := hL k (by omega)
      unfold bt at this
      rw [Int.toNat_natCast] at this
      show ((cb (fun i => L.toBitVec.getLsbD i) k + (L.toBitVec.getLsbD k).toNat : Nat) : Int) = zheA Z (g : Int) k + (if Z 17 (48 * (g : Int) + (k : Int)).toNat = 0 then 0 else 1)
      rw [show (48 * (g : Int) + (k : Int)).toNat = 48 * g + k by omega, ← ih (by omega)]
      by_cases z : Z 17 (48 * g + k) = 0
      · rw [if_pos z, Bool.eq_false_iff.mpr (fun w => (this.mp w).2 z)]; simp
      · rw [if_neg z, this.mpr ⟨by omega, z⟩]; simp
  exact lp 48 (Nat.le_refl _)
end M3
