/-! ===== the relation: a new version ===== -/
section R6
variable {h g H : AH} {Z Y : ZT} {s a b q V : Nat}
/-- names to fields and fields to names -/
def NR (N M : Nat → Int) (c : Int) : Prop := ∀ n : Nat, n < 26 → (-1 ≤ N n ∧ N n < c) ∧ ∀ f : Nat, (f : Int) < c → (N n = (f : Int) ↔ M f = (n : Int))
theorem NR.c {N M N' M' : Nat → Int} {c : Int} (R : NR N M c) (e : ∀ n, n < 26 → N' n = N n) (e2 : ∀ f : Nat, (f : Int) < c → M' f = M f) : NR N' M' c := by
  intro n hn
  rw [e n hn]
  exact ⟨(R n hn).1, fun f hf => by rw [e2 f hf]; exact (R n hn).2 f hf⟩
theorem NR.rem {N M : Nat → Int} {c x y : Int} (R : NR N M c) (h0 : 0 ≤ c) : NR (fun n => if N n = x ∨ N n = y then -1 else N n) (fun f => if (f : Int) = x ∨ (f : Int) = y then -1 else M f) c := by
  intro n hn
  obtain ⟨r1, r2⟩ := R n hn
  dsimp only
  refine ⟨by split <;> omega, fun f hf => ?_⟩
  have r := r2 f hf
  by_cases e : (f : Int) = x ∨ (f : Int) = y
  · rw [if_pos e]
    constructor
    · intro z
      split at z
      · omega
      · next q => rw [z] at q; exact absurd e q
    · intro z; omega
  · rw [if_neg e, ← r]
    split
    · next q => constructor <;> intro z <;> omega
    · exact Iff.rfl
theorem NR.gro {N M : Nat → Int} {c c' : Int} (R : NR N M c) (hc : c ≤ c') (hm : ∀ f : Nat, c ≤ (f : Int) → (f : Int) < c' → M f = -1) : NR N M c' := by
  intro n hn
  obtain ⟨r1, r2⟩ := R n hn
  refine ⟨by omega, fun f hf => ?_⟩
  by_cases e : (f : Int) < c
  · exact r2 f e
  · rw [hm f (by omega) hf]
    constructor <;> intro z <;> omega
theorem NR.put {N M : Nat → Int} {c : Int} {n0 f0 : Nat} (R : NR N M c) (hf : (f0 : Int) < c) (hN : N n0 = -1) (hM : M f0 = -1) : NR (fun n => if n = n0 then (f0 : Int) else N n) (fun f => if f = f0 then (n0 : Int) else M f) c := by
  intro n hn
  obtain ⟨r1, r2⟩ := R n hn
  dsimp only
  refine ⟨by split <;> omega, fun f hf2 => ?_⟩
  have r := r2 f hf2
  by_cases e : n = n0
  · subst e
    rw [if_pos rfl]
    by_cases e2 : f = f0
    · subst e2; rw [if_pos rfl]; simp
    · rw [if_neg e2, ← r, hN]
      constructor <;> intro z <;> omega
  · rw [if_neg e]
    by_cases e2 : f = f0
    · subst e2; rw [if_pos rfl, r, hM]
      constructor <;> intro z <;> omega
    · rw [if_neg e2]; exact r
/-- bits of needed fields -/
def DR (L : Int64) (D M : Nat → Int) (c : Int) : Prop := ∀ f : Nat, f < 64 → (bt L f → (f : Int) < c) ∧ (f < 48 → ¬ M f = -1 → (bt L f ↔ ¬ D f = 0))
theorem DR.c {L : Int64} {D M D' M' : Nat → Int} {c : Int} (R : DR L D M c) (e : ∀ f, f < 48 → M' f = M f) (e2 : ∀ f, f < 48 → ¬ M f = -1 → D' f = D f) : DR L D' M' c := by
  intro f hf
  refine ⟨(R f hf).1, fun h1 h2 => ?_⟩
  rw [e f h1] at h2
  rw [e2 f h1 h2]
  exact (R f hf).2 h1 h2
theorem DR.gro {L : Int64} {D M : Nat → Int} {c c' : Int} (R : DR L D M c) (hc : c ≤ c') : DR L D M c' := fun f hf => ⟨fun z => by have := (R f hf).1 z; omega, (R f hf).2⟩
theorem ctg_bt {x y : Int} {f : Nat} (hf : f < 64) (hx : -1 ≤ x ∧ x < 64) (hy : -1 ≤ y ∧ y < 64) : bt (ctg x y) f ↔ ((f : Int) = x ∨ (f : Int) = y) := by
  have z0 : ¬ bt 0 (f : Int) := bt_0
  unfold ctg
  by_cases e1 : x = -1
  · by_cases e2 : y = -1
    · rw [if_pos e2, if_pos e1]
      constructor
      · intro z; exact absurd z z0
      · intro z; omega
    · rw [if_neg e2, if_pos e1, bt_or, bit_bt (by omega) (by omega)]
      constructor
      · rintro (z | z)
        · exact absurd z z0
        · exact Or.inr z
      · rintro (z | z)
        · omega
        · exact Or.inr z
  · by_cases e2 : y = -1
    · rw [if_pos e2, if_neg e1, bt_or, bit_bt (by omega) (by omega)]
      constructor
      · rintro (z | z)
        · exact absurd z z0
        · exact Or.inl z
      · rintro (z | z)
        · exact Or.inr z
        · omega
    · rw [if_neg e2, if_neg e1, bt_or, bt_or, bit_bt (by omega) (by omega), bit_bt (by omega) (by omega)]
      constructor
      · rintro ((z | z) | z)
        · exact absurd z z0
        · exact Or.inl z
        · exact Or.inr z
      · rintro (z | z)
        · exact Or.inl (Or.inr z)
        · exact Or.inr z
theorem DR.rem {L : Int64} {D M : Nat → Int} {c x y : Int} (R : DR L D M c) (hx : -1 ≤ x ∧ x < 64) (hy : -1 ≤ y ∧ y < 64) : DR (L &&& (ctg x y ^^^ (-1))) D (fun f => if (f : Int) = x ∨ (f : Int) = y then -1 else M f) c := by
  intro f hf
  have e : bt (L &&& (ctg x y ^^^ (-1))) f ↔ bt L f ∧ ¬ ((f : Int) = x ∨ (f : Int) = y) := by
    rw [bt_and, bt_not (by omega), ctg_bt hf hx hy]
  rw [e]
  refine ⟨fun z => (R f hf).1 z.1, fun h1 h2 => ?_⟩
  dsimp only at h2
  by_cases q : (f : Int) = x ∨ (f : Int) = y
  · rw [if_pos q] at h2; exact absurd rfl h2
  · rw [if_neg q] at h2
    rw [← (R f hf).2 h1 h2]
    exact ⟨fun z => z.1, fun z => ⟨z, q⟩⟩
theorem DR.put {L : Int64} {D M : Nat → Int} {c n nd : Int} {f0 : Nat} (R : DR L D M c) (hf : (f0 : Int) < c) (h0 : f0 < 48) (hL : ¬ bt L f0) : DR (L ||| (if nd = 0 then 0 else bitI f0)) (fun f => if f = f0 then nd else D f) (fun f => if f = f0 then n else M f) c := by
  intro f hf2
  have e : bt (L ||| (if nd = 0 then 0 else bitI f0)) f ↔ bt L f ∨ (¬ nd = 0 ∧ f = f0) := by
    rw [bt_or]
    by_cases q : nd = 0
    · rw [if_pos q]
      constructor
      · rintro (z | z)
        · exact Or.inl z
        · exact absurd z bt_0
      · rintro (z | z)
        · exact Or.inl z
        · exact absurd q z.1
    · rw [if_neg q, bit_bt (by omega) (by omega)]
      constructor
      · rintro (z | z)
        · exact Or.inl z
        · exact Or.inr ⟨q, by omega⟩
      · rintro (z | z)
        · exact Or.inl z
        · exact Or.inr (by omega)
  rw [e]
  refine ⟨?_, fun h1 h2 => ?_⟩
  · rintro (z | z)
    · exact (R f hf2).1 z
    · omega
  · by_cases q : f = f0
    · subst q
      dsimp only
      rw [if_pos rfl]
      constructor
      · rintro (z | z)
        · exact absurd z hL
        · exact z.1
      · intro z; exact Or.inr ⟨z, rfl⟩
    · dsimp only at h2 ⊢
      rw [if_neg q] at h2 ⊢
      rw [← (R f hf2).2 h1 h2]
      constructor
      · rintro (z | z)
        · exact z
        · exact absurd z.2 q
      · exact Or.inl
/-- the same numbers of schema s -/
def zZn (Y Z : ZT) (s : Nat) : Prop := (Y 1 s = Z 1 s ∧ Y 2 s = Z 2 s) ∧ (∀ f, f < 48 → Y 3 (48 * s + f) = Z 3 (48 * s + f) ∧ Y 4 (48 * s + f) = Z 4 (48 * s + f))
  ∧ (∀ v f, v < 24 → f < 48 → Y 5 (48 * (24 * s + v) + f) = Z 5 (48 * (24 * s + v) + f) ∧ Y 6 (48 * (24 * s + v) + f) = Z 6 (48 * (24 * s + v) + f))
  ∧ ∀ v, v < 24 → (Y 7 (24 * s + v) = Z 7 (24 * s + v) ∧ Y 10 (24 * s + v) = Z 10 (24 * s + v)) ∧ ∀ j, j < 2 → Y 8 (2 * (24 * s + v) + j) = Z 8 (2 * (24 * s + v) + j) ∧ Y 9 (2 * (24 * s + v) + j) = Z 9 (2 * (24 * s + v) + j)
theorem zSv.zn (e : zSv Y Z) : zZn Y Z s := by
  unfold zZn
  rw [e 1 rfl, e 2 rfl, e 3 rfl, e 4 rfl, e 5 rfl, e 6 rfl, e 7 rfl, e 8 rfl, e 9 rfl, e 10 rfl]
  exact ⟨⟨rfl, rfl⟩, fun _ _ => ⟨rfl, rfl⟩, fun _ _ _ _ => ⟨rfl, rfl⟩, fun _ _ => ⟨⟨rfl, rfl⟩, fun _ _ => ⟨rfl, rfl⟩⟩⟩
theorem SPt.zn {v : Nat} (e : zZn Y Z s) (hv : v < 24) (P : SPt h Z (24 * s + v)) : SPt h Y (24 * s + v) := by
  obtain ⟨-, -, -, e4⟩ := e
  obtain ⟨⟨k7, k10⟩, kj⟩ := e4 v hv
  have j0 := kj 0 (by omega)
  have j1 := kj 1 (by omega)
  rw [Nat.add_zero] at j0
  unfold SPt at *
  rw [k7, k10, j0.1, j0.2, j1.1, j1.2]
  exact P
theorem SPt.f {p : Nat} {P : Nm → Prop} (F : Fr P h g) (h5 : P (5, p, 0)) (h6 : P (6, p, 0)) (h7 : P (7, p, 0)) (S : SPt h Z p) : SPt g Z p := by
  unfold SPt StpW at *
  rw [F.T h5, F.T h6, F.T h7, F.R h5, F.R h5, F.I h5, F.I h5, F.I h6, F.I h6, F.I h7, F.I h7]
  exact S
theorem SV.zn (S : SV h Z s) (e : zZn Y Z s) (b1 : Z 1 s ≤ 23) (b2 : Z 2 s ≤ 46) : SV h Y s := by
  obtain ⟨W, ⟨a1, a2⟩, b, c, d, st⟩ := S
  obtain ⟨⟨e1, e2⟩, e3, e5, e7⟩ := e
  refine ⟨W, ⟨by rw [e1]; exact a1, by rw [e2]; exact a2⟩, ?_, ?_, ?_, ?_⟩
  · intro f hf
    rw [e2] at hf
    rw [(e3 f (by omega)).1, (e3 f (by omega)).2]
    exact b f hf
  · intro v n h1 h2
    rw [e1] at h1
    obtain ⟨c1, c2⟩ := c v n h1 h2
    rw [e2]
    refine ⟨c1, fun f hf => ?_⟩
    rw [(e5 v f (by omega) (by omega)).1]
    exact c2 f hf
  · intro v f h1 h2
    rw [e1] at h1
    obtain ⟨d1, d2⟩ := d v f h1 h2
    rw [e2]
    refine ⟨d1, fun h3 => ?_⟩
    rw [(e5 v f (by omega) h3).1, (e5 v f (by omega) h3).2]
    exact d2 h3
  · refine ⟨st.1, ?_⟩
    intro v h1 h2
    rw [e1] at h2
    obtain ⟨s1, s2⟩ := st.2 v h1 h2
    exact ⟨s1, s2.zn ⟨⟨e1, e2⟩, e3, e5, e7⟩ (by omega)⟩
theorem StK.kf {w a b c d fc : Int} {kf kf' : Nat → Int} (e1 : 0 ≤ a → kf' a.toNat = kf a.toNat) (e2 : 0 ≤ c → kf' c.toNat = kf c.toNat) (K : StK w a b c d fc kf) : StK w a b c d fc kf' := by
  rcases K with k | k | ⟨k1, k2, k3, k4, k5, k6⟩ | k | k | k
  · exact Or.inl k
  · exact Or.inr (Or.inl k)
  · exact Or.inr (Or.inr (Or.inl ⟨k1, k2, k3, k4, k5, by rw [e1 k2, e2 k4]; exact k6⟩))
  · exact Or.inr (Or.inr (Or.inr (Or.inl k)))
  · exact Or.inr (Or.inr (Or.inr (Or.inr (Or.inl k))))
  · exact Or.inr (Or.inr (Or.inr (Or.inr (Or.inr k))))
/-- an old step in a model that has grown -/
theorem ZP.gr {v : Nat} (hv : 1 ≤ v ∧ v < 24) (e2 : Z 2 s ≤ Y 2 s) (b2 : Z 2 s ≤ 46) (e3 : ∀ f : Nat, (f : Int) < Z 2 s → Y 3 (48 * s + f) = Z 3 (48 * s + f)) (e5 : ∀ f, f < 48 → Y 5 (48 * (24 * s + v) + f) = Z 5 (48 * (24 * s + v) + f) ∧ Y 5 (48 * (24 * s + (v - 1)) + f) = Z 5 (48 * (24 * s + (v - 1)) + f))
    (e7 : Y 7 (24 * s + v) = Z 7 (24 * s + v) ∧ Y 10 (24 * s + v) = Z 10 (24 * s + v)) (e8 : ∀ j, j < 2 → Y 8 (2 * (24 * s + v) + j) = Z 8 (2 * (24 * s + v) + j) ∧ Y 9 (2 * (24 * s + v) + j) = Z 9 (2 * (24 * s + v) + j)) (K : ZP Z s (24 * s + v)) : ZP Y s (24 * s + v) := by
  have j0 := e8 0 (by omega)
  have j1 := e8 1 (by omega)
  rw [Nat.add_zero] at j0
  unfold ZP at *
  rw [e7.1, e7.2, j0.1, j0.2, j1.1, j1.2]
  obtain ⟨⟨p1, p2, p3, p4⟩, k, kp, k0, k1, kn⟩ := K
  rw [show 48 * (24 * s + v - 1) = 48 * (24 * s + (v - 1)) by omega] at *
  refine ⟨⟨by omega, by omega, by omega, by omega⟩, k.kf (fun z => e3 _ (by omega)) (fun z => e3 _ (by omega)), fun f hf => ?_, fun z => ?_, fun z => ?_, fun f hf => ?_⟩
  · rw [(e5 f hf).1, (e5 f hf).2]; exact kp f hf
  · rw [(e5 _ (by omega)).2]; exact k0 z
  · rw [(e5 _ (by omega)).2]; exact k1 z
  · rw [(e5 f hf).2]; exact kn f hf
theorem ZS.zn (K : ZS Z s) (e : zZn Y Z s) : ZS Y s := by
  have b1 := K.b1
  have b2 := K.b2
  obtain ⟨⟨e1, e2⟩, e3, e5, e7⟩ := e
  obtain ⟨-, k2, k3, k4, k5⟩ := K
  refine ⟨⟨by rw [e1]; exact b1, by rw [e2]; exact b2⟩, ?_, ?_, ?_, ?_⟩
  · intro v f hv hf
    rw [e1, e2, (e5 v f hv hf).1]
    exact k2 v f hv hf
  · intro v f hv hf
    rw [(e5 v f hv hf).1]
    exact k3 v f hv hf
  · intro f hf
    rw [e2] at hf
    rw [(e3 f (by omega)).1, (e3 f (by omega)).2]
    exact k4 f hf
  · intro v h1 h2
    rw [e1] at h2
    refine ZP.gr ⟨h1, by omega⟩ (by omega) b2.2 (fun f hf => (e3 f (by omega)).1) (fun f hf => ⟨(e5 v f (by omega) hf).1, (e5 (v - 1) f (by omega) hf).1⟩) (e7 v (by omega)).1 (e7 v (by omega)).2 (k5 v h1 h2)
end R6
