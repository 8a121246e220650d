/-! ===== counting bits: the number ===== -/
section M2
/-- how many of the first k hold -/
def cb (p : Nat → Bool) : Nat → Nat
  | 0 => 0
  | k + 1 => cb p k + (p k).toNat
theorem cb_c {p q : Nat → Bool} : ∀ k, (∀ i, i < k → p i = q i) → cb p k = cb q k
  | 0, _ => rfl
  | k + 1, e => by unfold cb; rw [cb_c k (fun i hi => e i (by omega)), e k (by omega)]
theorem cb_add {p : Nat → Bool} {m : Nat} : ∀ k, cb p (m + k) = cb p m + cb (fun i => p (m + i)) k
  | 0 => rfl
  | k + 1 => by
    show cb p (m + k) + (p (m + k)).toNat = cb p m + (cb (fun i => p (m + i)) k + (p (m + k)).toNat)
    rw [cb_add k]; omega
theorem cb_z {p : Nat → Bool} {m : Nat} : ∀ k, (∀ i, m ≤ i → i < m + k → p i = false) → cb p (m + k) = cb p m
  | 0, _ => rfl
  | k + 1, e => by
    show cb p (m + k) + (p (m + k)).toNat = cb p m
    rw [cb_z k (fun i h1 h2 => e i h1 (by omega)), e (m + k) (by omega) (by omega)]; rfl
def mk8 (c : Nat) : Nat → Nat
  | 0 => 0
  | k + 1 => c + 256 * mk8 c k
theorem and8 {a b x y : Nat} (ha : a < 256) (hb : b < 256) : (a + 256 * x) &&& (b + 256 * y) = (a &&& b) + 256 * (x &&& y) := by
  have hab : a &&& b < 256 := Nat.lt_of_le_of_lt Nat.and_le_left ha
  refine Nat.eq_of_testBit_eq fun i => ?_
  rw [Nat.testBit_and, show a + 256 * x = 2 ^ 8 * x + a by omega, show b + 256 * y = 2 ^ 8 * y + b by omega, show (a &&& b) + 256 * (x &&& y) = 2 ^ 8 * (x &&& y) + (a &&& b) by omega,
    Nat.testBit_two_pow_mul_add _ (show a < 2 ^ 8 from ha), Nat.testBit_two_pow_mul_add _ (show b < 2 ^ 8 from hb), Nat.testBit_two_pow_mul_add _ (show a &&& b < 2 ^ 8 from hab)]
  split
  · rw [Nat.testBit_and]
  · rw [Nat.testBit_and]
def g1 (k n : Nat) : Nat := n - (n / 2 &&& mk8 85 k)
def g2 (k n : Nat) : Nat := (n &&& mk8 51 k) + (n / 4 &&& mk8 51 k)
def g3 (k n : Nat) : Nat := (n + n / 16) &&& mk8 15 k
theorem t1 : ∀ a : Fin 256, ∀ b : Fin 2, (a.val / 2 + 128 * b.val) &&& 85 = a.val / 2 &&& 85 := by decide +kernel
theorem t2 : ∀ a : Fin 256, ∀ b : Fin 4, (a.val / 4 + 64 * b.val) &&& 51 = a.val / 4 &&& 51 := by decide +kernel
def a1 (a : Nat) : Nat := a - (a / 2 &&& 85)
def a2 (a : Nat) : Nat := (a &&& 51) + (a / 4 &&& 51)
theorem t3 : ∀ a : Fin 256, a2 (a1 a.val) ≤ 68 ∧ a2 (a1 a.val) % 16 ≤ 4 ∧ (a2 (a1 a.val) + a2 (a1 a.val) / 16) % 16 = cb (fun i => a.val.testBit i) 8 := by decide +kernel
theorem t4 : ∀ a : Fin 256, cb (fun i => a.val.testBit i) 8 ≤ 8 := by decide +kernel
theorem g1_s {a k n : Nat} (ha : a < 256) : g1 (k + 1) (a + 256 * n) = a1 a + 256 * g1 k n := by
  unfold g1 a1
  have e : (a + 256 * n) / 2 = (a / 2 + 128 * (n % 2)) + 256 * (n / 2) := by omega
  have q := t1 ⟨a, ha⟩ ⟨n % 2, by omega⟩
  dsimp only at q
  have h1 : n / 2 &&& mk8 85 k ≤ n := Nat.le_trans Nat.and_le_left (Nat.div_le_self _ _)
  have h2 : a / 2 &&& 85 ≤ a := Nat.le_trans Nat.and_le_left (Nat.div_le_self _ _)
  show a + 256 * n - ((a + 256 * n) / 2 &&& (85 + 256 * mk8 85 k)) = _
  rw [e, and8 (by omega) (by omega), q]
  omega
theorem g2_s {a k n : Nat} (ha : a < 256) : g2 (k + 1) (a + 256 * n) = a2 a + 256 * g2 k n := by
  unfold g2 a2
  have e : (a + 256 * n) / 4 = (a / 4 + 64 * (n % 4)) + 256 * (n / 4) := by omega
  have q := t2 ⟨a, ha⟩ ⟨n % 4, by omega⟩
  dsimp only at q
  show ((a + 256 * n) &&& (51 + 256 * mk8 51 k)) + ((a + 256 * n) / 4 &&& (51 + 256 * mk8 51 k)) = _
  rw [e, and8 (by omega) (by omega), and8 (by omega) (by omega), q]
  omega
theorem a1_lt {a : Nat} (ha : a < 256) : a1 a < 256 := by unfold a1; omega
theorem g12_16 : ∀ k n, g2 k (g1 k n) % 16 ≤ 4
  | 0, n => by show ((g1 0 n &&& 0) + (g1 0 n / 4 &&& 0)) % 16 ≤ 4; rw [Nat.and_zero, Nat.and_zero]; decide
  | k + 1, n => by
    have ha : n % 256 < 256 := Nat.mod_lt _ (by decide)
    rw [show n = n % 256 + 256 * (n / 256) by omega, g1_s ha, g2_s (a1_lt ha)]
    have := (t3 ⟨n % 256, ha⟩).2.1
    dsimp only at this
    omega
/-- the bits by bytes -/
def S8 : Nat → Nat → Nat
  | 0, _ => 0
  | k + 1, n => cb (fun i => (n % 256).testBit i) 8 + 256 * S8 k (n / 256)
theorem g_s : ∀ k n, g3 k (g2 k (g1 k n)) = S8 k n
  | 0, n => by show (_ &&& 0) = 0; rw [Nat.and_zero]
  | k + 1, n => by
    have ha : n % 256 < 256 := Nat.mod_lt _ (by decide)
    have q := t3 ⟨n % 256, ha⟩
    dsimp only at q
    have q2 := g12_16 k (n / 256)
    have ih := g_s k (n / 256)
    unfold S8
    rw [← ih]
    conv => lhs; rw [show n = n % 256 + 256 * (n / 256) by omega]
    rw [g1_s ha, g2_s (a1_lt ha)]
    generalize a2 (a1 (n % 256)) = x at *
    generalize g2 k (g1 k (n / 256)) = y at *
    unfold g3
    show (x + 256 * y + (x + 256 * y) / 16) &&& (15 + 256 * mk8 15 k) = _
    rw [show x + 256 * y + (x + 256 * y) / 16 = (x + x / 16 + 16 * (y % 16)) + 256 * (y + y / 16) by omega, and8 (by omega) (by omega), show (15 : Nat) = 2 ^ 4 - 1 from rfl, Nat.and_two_pow_sub_one_eq_mod, ← q.2.2]
    omega
theorem cb_S : ∀ k n, cb (fun i => n.testBit i) (8 * (k + 1)) = cb (fun i => (n % 256).testBit i) 8 + cb (fun i => (n / 256).testBit i) (8 * k) := by
  intro k n
  rw [show 8 * (k + 1) = 8 + 8 * k by omega, cb_add]
  congr 1
  · refine cb_c 8 (fun i hi => ?_)
    rw [show (256 : Nat) = 2 ^ 8 from rfl, Nat.testBit_mod_two_pow]
    simp [hi]
  · refine cb_c _ (fun i hi => ?_)
    rw [show (256 : Nat) = 2 ^ 8 from rfl, Nat.testBit_div_two_pow, Nat.add_comm]
theorem cb_64 (n : Nat) : ∃ p0 p1 p2 p3 p4 p5 p6 p7 : Nat, (p0 ≤ 8 ∧ p1 ≤ 8 ∧ p2 ≤ 8 ∧ p3 ≤ 8 ∧ p4 ≤ 8 ∧ p5 ≤ 8 ∧ p6 ≤ 8 ∧ p7 ≤ 8) ∧ S8 8 n = p0 + 256 * (p1 + 256 * (p2 + 256 * (p3 + 256 * (p4 + 256 * (p5 + 256 * (p6 + 256 * p7)))))) ∧ cb (fun i => n.testBit i) 64 = p0 + (p1 + (p2 + (p3 + (p4 + (p5 + (p6 + p7)))))) := by
  have b : ∀ m : Nat, cb (fun i => (m % 256).testBit i) 8 ≤ 8 := fun m => t4 ⟨m % 256, Nat.mod_lt _ (by decide)⟩
  refine ⟨_, _, _, _, _, _, _, _, ⟨b n, b _, b _, b _, b _, b _, b _, b _⟩, rfl, ?_⟩
  rw [show (64 : Nat) = 8 * (7 + 1) from rfl, cb_S, show (7 : Nat) = 6 + 1 from rfl, cb_S, show (6 : Nat) = 5 + 1 from rfl, cb_S, show (5 : Nat) = 4 + 1 from rfl, cb_S, show (4 : Nat) = 3 + 1 from rfl, cb_S, show (3 : Nat) = 2 + 1 from rfl, cb_S, show (2 : Nat) = 1 + 1 from rfl, cb_S, show (1 : Nat) = 0 + 1 from rfl, cb_S]
  rfl
theorem fold_8 {z p0 p1 p2 p3 p4 p5 p6 p7 : Nat} (h : p0 ≤ 8 ∧ p1 ≤ 8 ∧ p2 ≤ 8 ∧ p3 ≤ 8 ∧ p4 ≤ 8 ∧ p5 ≤ 8 ∧ p6 ≤ 8 ∧ p7 ≤ 8) (ez : z = p0 + 256 * (p1 + 256 * (p2 + 256 * (p3 + 256 * (p4 + 256 * (p5 + 256 * (p6 + 256 * p7))))))) :
    (z + z / 256 < 2 ^ 62) ∧ (z + z / 256 + (z + z / 256) / 65536 < 2 ^ 63) ∧ ((z + z / 256 + (z + z / 256) / 65536) + (z + z / 256 + (z + z / 256) / 65536) / 4294967296 < 2 ^ 64) ∧ ((z + z / 256 + (z + z / 256) / 65536) + (z + z / 256 + (z + z / 256) / 65536) / 4294967296) % 128 = p0 + (p1 + (p2 + (p3 + (p4 + (p5 + (p6 + p7)))))) := by
  have e1 : z / 256 = p1 + 256 * (p2 + 256 * (p3 + 256 * (p4 + 256 * (p5 + 256 * (p6 + 256 * p7))))) := by omega
  rw [e1]
  have e2 : z + (p1 + 256 * (p2 + 256 * (p3 + 256 * (p4 + 256 * (p5 + 256 * (p6 + 256 * p7)))))) = (p0 + p1) + 256 * ((p1 + p2) + 256 * ((p2 + p3) + 256 * ((p3 + p4) + 256 * ((p4 + p5) + 256 * ((p5 + p6) + 256 * ((p6 + p7) + 256 * p7)))))) := by omega
  rw [e2]
  clear e1 e2 ez
  have e3 : ((p0 + p1) + 256 * ((p1 + p2) + 256 * ((p2 + p3) + 256 * ((p3 + p4) + 256 * ((p4 + p5) + 256 * ((p5 + p6) + 256 * ((p6 + p7) + 256 * p7))))))) / 65536 = (p2 + p3) + 256 * ((p3 + p4) + 256 * ((p4 + p5) + 256 * ((p5 + p6) + 256 * ((p6 + p7) + 256 * p7)))) := by omega
  rw [e3]
  clear e3
  have e4 : ((p0 + p1) + 256 * ((p1 + p2) + 256 * ((p2 + p3) + 256 * ((p3 + p4) + 256 * ((p4 + p5) + 256 * ((p5 + p6) + 256 * ((p6 + p7) + 256 * p7))))))) + ((p2 + p3) + 256 * ((p3 + p4) + 256 * ((p4 + p5) + 256 * ((p5 + p6) + 256 * ((p6 + p7) + 256 * p7))))) = (p0 + p1 + p2 + p3) + 256 * ((p1 + p2 + p3 + p4) + 256 * ((p2 + p3 + p4 + p5) + 256 * ((p3 + p4 + p5 + p6) + 256 * ((p4 + p5 + p6 + p7) + 256 * ((p5 + p6 + p7) + 256 * ((p6 + p7) + 256 * p7)))))) := by omega
  rw [e4]
  clear e4
  have e5 : ((p0 + p1 + p2 + p3) + 256 * ((p1 + p2 + p3 + p4) + 256 * ((p2 + p3 + p4 + p5) + 256 * ((p3 + p4 + p5 + p6) + 256 * ((p4 + p5 + p6 + p7) + 256 * ((p5 + p6 + p7) + 256 * ((p6 + p7) + 256 * p7))))))) / 4294967296 = (p4 + p5 + p6 + p7) + 256 * ((p5 + p6 + p7) + 256 * ((p6 + p7) + 256 * p7)) := by omega
  rw [e5]
  clear e5
  refine ⟨by omega, by omega, by omega, by omega⟩
end M2
