/-! ===== the law's own arrays: v w f g x y z m t c d are 1 to 11 ===== -/
section A1
variable {h g G : AH} {P P' : Nat → Prop}
abbrev la (j : Nat) : Nm := (2, 0, j)
def LT (h : AH) : Prop := hT h (la 1) = some (22, 13) ∧ hT h (la 2) = some (20, 13) ∧ hT h (la 3) = some (20, 12) ∧ hT h (la 4) = some (20, 4) ∧ hT h (la 5) = some (20, 50) ∧ hT h (la 6) = some (20, 10) ∧ hT h (la 7) = some (22, 64) ∧ hT h (la 8) = some (20, 9) ∧ hT h (la 9) = some (20, 2) ∧ hT h (la 10) = some (20, 36) ∧ hT h (la 11) = some (22, 39)
theorem LT.a1 (T : LT h) : hT h (la 1) = some (22, 13) := T.1
theorem LT.a2 (T : LT h) : hT h (la 2) = some (20, 13) := T.2.1
theorem LT.a3 (T : LT h) : hT h (la 3) = some (20, 12) := T.2.2.1
theorem LT.a4 (T : LT h) : hT h (la 4) = some (20, 4) := T.2.2.2.1
theorem LT.a5 (T : LT h) : hT h (la 5) = some (20, 50) := T.2.2.2.2.1
theorem LT.a6 (T : LT h) : hT h (la 6) = some (20, 10) := T.2.2.2.2.2.1
theorem LT.a7 (T : LT h) : hT h (la 7) = some (22, 64) := T.2.2.2.2.2.2.1
theorem LT.a8 (T : LT h) : hT h (la 8) = some (20, 9) := T.2.2.2.2.2.2.2.1
theorem LT.a9 (T : LT h) : hT h (la 9) = some (20, 2) := T.2.2.2.2.2.2.2.2.1
theorem LT.a10 (T : LT h) : hT h (la 10) = some (20, 36) := T.2.2.2.2.2.2.2.2.2.1
theorem LT.a11 (T : LT h) : hT h (la 11) = some (22, 39) := T.2.2.2.2.2.2.2.2.2.2
/-- the law's arrays P alone are touched -/
def FL (P : Nat → Prop) (h g : AH) : Prop := hT g = hT h ∧ hR g = hR h ∧ ∀ n : Nm, (∀ j, n = la j → ¬ P j) → (∀ i, hI g n i = hI h n i) ∧ ∀ i, hL g n i = hL h n i
theorem FL.rf : FL P h h := ⟨rfl, rfl, fun _ _ => ⟨fun _ => rfl, fun _ => rfl⟩⟩
theorem FL.tr (a : FL P h g) (b : FL P g G) : FL P h G := ⟨b.1.trans a.1, b.2.1.trans a.2.1, fun n hn => ⟨fun i => ((b.2.2 n hn).1 i).trans ((a.2.2 n hn).1 i), fun i => ((b.2.2 n hn).2 i).trans ((a.2.2 n hn).2 i)⟩⟩
theorem FL.mo (a : FL P h g) (k : ∀ j, P j → P' j) : FL P' h g := ⟨a.1, a.2.1, fun n hn => a.2.2 n (fun j e q => hn j e (k j q))⟩
theorem FL.wI {j i : Nat} {v : Int} (a : FL P h g) (hj : P j) : FL P h (sI g (la j) i v) := a.tr ⟨rfl, rfl, fun n hn => ⟨fun i' => by rw [hI_sI, if_neg (fun z => hn j z.1 hj)], fun _ => rfl⟩⟩
theorem FL.wL {j i : Nat} {v : Int64} (a : FL P h g) (hj : P j) : FL P h (sL g (la j) i v) := a.tr ⟨rfl, rfl, fun n hn => ⟨fun _ => rfl, fun i' => by rw [hL_sL, if_neg (fun z => hn j z.1 hj)]⟩⟩
theorem la_ne {i j : Nat} (h : ¬ i = j) : ∀ k, la i = la k → ¬ k = j := fun k e z => h (by
  have : i = k := congrArg (fun n : Nm => n.2.2) e
  omega)
theorem FL.I {j : Nat} (a : FL P h g) (hj : ¬ P j) (i : Nat) : hI g (la j) i = hI h (la j) i := (a.2.2 (la j) (fun k e q => hj (by
  have : j = k := congrArg (fun n : Nm => n.2.2) e
  rw [this]; exact q))).1 i
theorem FL.L {j : Nat} (a : FL P h g) (hj : ¬ P j) (i : Nat) : hL g (la j) i = hL h (la j) i := (a.2.2 (la j) (fun k e q => hj (by
  have : j = k := congrArg (fun n : Nm => n.2.2) e
  rw [this]; exact q))).2 i
theorem FL.T (a : FL P h g) (T : LT h) : LT g := by unfold LT at *; rw [a.1]; exact T
theorem FL.frm {R : Nm → Prop} (a : FL P h g) (hR : ∀ n, R n → ¬ n.1 = 2) : Fr R h g := fun n hn => by
  obtain ⟨a1, a2, a3⟩ := a
  have q := a3 n (fun j e _ => hR n hn (by rw [e]))
  exact ⟨by rw [a1], q.1, q.2, fun i => by rw [a2]⟩
theorem FL.nIn (a : FL P h g) : Fr nIn h g := a.frm (fun n hn z => hn (Or.inl (by omega)))
/-! digits -/
def stt (x : Int64) (f : Int) : Int := ((x >>> Int64.ofInt (6 * f)) &&& 63).toInt32.toInt
theorem stt_sh : ∀ f : Fin 10, (Int64.ofInt (6 * ((f.val : Nat) : Int))).toBitVec.smod 64 = BitVec.ofNat 64 (6 * f.val) := by decide +kernel
theorem stt_c : ∀ c : Fin 64, (Int64.ofBitVec (BitVec.ofNat 64 c.val)).toInt32.toInt = (c.val : Int) := by decide +kernel
theorem stt_63 : (63 : Int64).toBitVec = BitVec.ofNat 64 63 := by decide
theorem tb63 : ∀ i : Nat, (63 : Nat).testBit i = decide (i < 6) := by
  intro i
  exact Nat.testBit_two_pow_sub_one 6 i
/-- a digit by its bits -/
theorem stt_bits {x : Int64} {f c : Nat} (hf : f < 10) (hc : c < 64) (k : ∀ i : Nat, i < 6 → x.toBitVec.getLsbD (6 * f + i) = c.testBit i) : stt x (f : Int) = (c : Int) := by
  unfold stt
  have e : ((x >>> Int64.ofInt (6 * (f : Int))) &&& 63) = Int64.ofBitVec (BitVec.ofNat 64 c) := by
    apply Int64.toBitVec_inj.mp
    rw [Int64.toBitVec_and, Int64.toBitVec_shiftRight, stt_63, stt_sh ⟨f, hf⟩]
    show _ = BitVec.ofNat 64 c
    apply BitVec.eq_of_getLsbD_eq
    intro i hi
    have ey : (BitVec.ofNat 64 (6 * f)).toNat = 6 * f := by rw [BitVec.toNat_ofNat]; omega
    rw [BitVec.getLsbD_and, BitVec.getLsbD_sshiftRight', ey, BitVec.getLsbD_ofNat, BitVec.getLsbD_ofNat, tb63]
    by_cases h6 : i < 6
    · rw [if_pos (by omega), k i h6]
      simp [h6, hi]
    · have : c.testBit i = false := Nat.testBit_lt_two_pow (Nat.lt_of_lt_of_le hc (Nat.pow_le_pow_right (n := 2) (by decide) (show 6 ≤ i by omega)))
      rw [this]
      simp [h6]
  rw [e]
  exact stt_c ⟨c, hc⟩
/-- every digit has its bits -/
theorem stt_get (x : Int64) {f : Nat} (hf : f < 10) : ∃ c : Nat, c < 64 ∧ stt x (f : Int) = (c : Int) ∧ ∀ i : Nat, i < 6 → x.toBitVec.getLsbD (6 * f + i) = c.testBit i := by
  have k : ∀ i : Nat, i < 6 → x.toBitVec.getLsbD (6 * f + i) = (x.toBitVec.toNat / 2 ^ (6 * f) % 2 ^ 6).testBit i := fun i hi => by
    rw [Nat.testBit_mod_two_pow, Nat.testBit_div_two_pow, decide_eq_true hi, Bool.true_and, ← BitVec.testBit_toNat]
    congr 1
    omega
  have hc : x.toBitVec.toNat / 2 ^ (6 * f) % 2 ^ 6 < 64 := Nat.mod_lt _ (by decide)
  exact ⟨_, hc, stt_bits hf hc k, k⟩
theorem stt_rng (x : Int64) {f : Nat} (hf : f < 10) : 0 ≤ stt x (f : Int) ∧ stt x (f : Int) < 64 := by
  obtain ⟨c, hc, e, -⟩ := stt_get x hf
  rw [e]; omega
theorem tb_inj {c d : Nat} (hc : c < 64) (hd : d < 64) (k : ∀ i : Nat, i < 6 → c.testBit i = d.testBit i) : c = d := by
  apply Nat.eq_of_testBit_eq
  intro i
  by_cases h6 : i < 6
  · exact k i h6
  · have h2 : 64 ≤ 2 ^ i := Nat.pow_le_pow_right (n := 2) (by decide) (show 6 ≤ i by omega)
    rw [Nat.testBit_lt_two_pow (Nat.lt_of_lt_of_le hc h2), Nat.testBit_lt_two_pow (Nat.lt_of_lt_of_le hd h2)]
/-- the number d at the place k -/
def shd (d k : Int) : Int64 := Int64.ofInt d <<< Int64.ofInt (6 * k)
theorem ofI_bv (d : Nat) : (Int64.ofInt (d : Int)).toBitVec = BitVec.ofNat 64 d := by
  show BitVec.ofInt 64 (d : Int) = _
  exact BitVec.ofInt_natCast 64 d
theorem shd_bit {d k f i : Nat} (hd : d < 64) (hk : k < 10) (hf : f < 10) (hi : i < 6) : (shd (d : Int) (k : Int)).toBitVec.getLsbD (6 * f + i) = (decide (f = k) && d.testBit i) := by
  unfold shd
  have ey : (BitVec.ofNat 64 (6 * k)).toNat = 6 * k := by rw [BitVec.toNat_ofNat]; omega
  rw [Int64.toBitVec_shiftLeft, stt_sh ⟨k, hk⟩, ofI_bv, BitVec.getLsbD_shiftLeft', ey, BitVec.getLsbD_ofNat]
  by_cases e : f = k
  · subst e
    rw [show 6 * f + i - 6 * f = i by omega]
    have h1 : i < 64 := by omega
    have h2 : 6 * f + i < 64 := by omega
    have h3 : ¬ 6 * f + i < 6 * f := by omega
    simp [h1, h2, h3]
  · rw [decide_eq_false e, Bool.false_and]
    by_cases l : f < k
    · have h3 : 6 * f + i < 6 * k := by omega
      simp [h3]
    · have h3 : d.testBit (6 * f + i - 6 * k) = false := Nat.testBit_lt_two_pow (Nat.lt_of_lt_of_le hd (Nat.pow_le_pow_right (n := 2) (by decide) (show 6 ≤ 6 * f + i - 6 * k by omega)))
      rw [h3, Bool.and_false, Bool.and_false]
theorem stt_or {x : Int64} {d : Int} {k f : Nat} (h0 : stt x (k : Int) = 0) (hd : 0 ≤ d ∧ d < 64) (hk : k < 10) (hf : f < 10) : stt (x ||| shd d (k : Int)) (f : Int) = if f = k then d else stt x (f : Int) := by
  obtain ⟨d, rfl⟩ := Int.eq_ofNat_of_zero_le hd.1
  have hd' : d < 64 := by omega
  obtain ⟨c, hc, ec, kc⟩ := stt_get x hf
  by_cases e : f = k
  · subst e
    rw [if_pos rfl]
    have c0 : c = 0 := by omega
    subst c0
    refine stt_bits hf hd' (fun i hi => ?_)
    rw [Int64.toBitVec_or, BitVec.getLsbD_or, kc i hi, shd_bit hd' hk hf hi]
    simp
  · rw [if_neg e, ec]
    refine stt_bits hf hc (fun i hi => ?_)
    rw [Int64.toBitVec_or, BitVec.getLsbD_or, kc i hi, shd_bit hd' hk hf hi, decide_eq_false e]
    simp
theorem stt_clr {x : Int64} {k f : Nat} (hk : k < 10) (hf : f < 10) : stt (x &&& (shd 63 (k : Int) ^^^ Int64.ofInt (-1))) (f : Int) = if f = k then 0 else stt x (f : Int) := by
  obtain ⟨c, hc, ec, kc⟩ := stt_get x hf
  have nt : ∀ i : Nat, i < 6 → (x &&& (shd 63 (k : Int) ^^^ Int64.ofInt (-1))).toBitVec.getLsbD (6 * f + i) = (c.testBit i && !(decide (f = k) && (63 : Nat).testBit i)) := fun i hi => by
    rw [Int64.toBitVec_and, BitVec.getLsbD_and, kc i hi, Int64.toBitVec_xor, BitVec.getLsbD_xor, show (Int64.ofInt (-1)).toBitVec = BitVec.allOnes 64 from by decide +kernel, BitVec.getLsbD_allOnes, show decide (6 * f + i < 64) = true from decide_eq_true (by omega)]
    have := shd_bit (d := 63) (k := k) (by decide) hk hf hi
    rw [show (((63 : Nat) : Int)) = 63 from rfl] at this
    rw [this]
    simp
  by_cases e : f = k
  · rw [if_pos e]
    refine stt_bits (c := 0) hf (by decide) (fun i hi => ?_)
    rw [nt i hi, decide_eq_true e, tb63, decide_eq_true hi]
    simp
  · rw [if_neg e, ec]
    refine stt_bits hf hc (fun i hi => ?_)
    rw [nt i hi, decide_eq_false e]
    simp
theorem xor32 : ∀ c : Fin 64, (((c.val ^^^ 32 : Nat) : Int) = if 31 < (c.val : Int) then (c.val : Int) - 32 else (c.val : Int) + 32) ∧ (c.val ^^^ 32) < 64 := by decide +kernel
theorem stt_xor {x : Int64} {k f : Nat} (hk : k < 10) (hf : f < 10) : stt (x ^^^ shd 32 (k : Int)) (f : Int) = if f = k then (if 31 < stt x (f : Int) then stt x (f : Int) - 32 else stt x (f : Int) + 32) else stt x (f : Int) := by
  obtain ⟨c, hc, ec, kc⟩ := stt_get x hf
  have nt : ∀ i : Nat, i < 6 → (x ^^^ shd 32 (k : Int)).toBitVec.getLsbD (6 * f + i) = (c.testBit i ^^ (decide (f = k) && (32 : Nat).testBit i)) := fun i hi => by
    have := shd_bit (d := 32) (k := k) (by decide) hk hf hi
    rw [show (((32 : Nat) : Int)) = 32 from rfl] at this
    rw [Int64.toBitVec_xor, BitVec.getLsbD_xor, kc i hi, this]
  rw [ec]
  by_cases e : f = k
  · rw [if_pos e, ← (xor32 ⟨c, hc⟩).1]
    refine stt_bits hf (xor32 ⟨c, hc⟩).2 (fun i hi => ?_)
    rw [nt i hi, decide_eq_true e, Nat.testBit_xor]
    simp
  · rw [if_neg e]
    refine stt_bits hf hc (fun i hi => ?_)
    rw [nt i hi, decide_eq_false e]
    simp
end A1
