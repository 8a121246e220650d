/-! ===== the relation: a new version, told by both sides ===== -/
section R7
variable {h g H : AH} {Z Y : ZT} {s d a' b' q : Nat} {w a b c e fc n2 : Int} {M D N : Nat → Int} {L : Int64}
/-- the fields of the model that a version may touch -/
def inV (j : Nat) : Bool := j == 1 || j == 2 || j == 3 || j == 4 || j == 5 || j == 6 || j == 7 || j == 8 || j == 9 || j == 10 || j == 48
/-- the model Y is Z with one version more -/
def VS (Z Y : ZT) (s d : Nat) (w a b c e fc n2 : Int) (M D : Nat → Int) : Prop :=
  (Y 1 s = (d : Int) ∧ Y 2 s = n2) ∧ (∀ f : Nat, f < 48 → (f : Int) < Z 2 s → Y 3 (48 * s + f) = Z 3 (48 * s + f) ∧ Y 4 (48 * s + f) = Z 4 (48 * s + f))
  ∧ (∀ v f : Nat, v < 24 → f < 48 → ¬ v = d → Y 5 (48 * (24 * s + v) + f) = Z 5 (48 * (24 * s + v) + f) ∧ Y 6 (48 * (24 * s + v) + f) = Z 6 (48 * (24 * s + v) + f))
  ∧ (∀ f : Nat, f < 48 → Y 5 (48 * (24 * s + d) + f) = M f ∧ (¬ M f = -1 → Y 6 (48 * (24 * s + d) + f) = D f))
  ∧ (∀ v : Nat, v < 24 → ¬ v = d → (Y 7 (24 * s + v) = Z 7 (24 * s + v) ∧ Y 10 (24 * s + v) = Z 10 (24 * s + v)) ∧ ∀ j, j < 2 → Y 8 (2 * (24 * s + v) + j) = Z 8 (2 * (24 * s + v) + j) ∧ Y 9 (2 * (24 * s + v) + j) = Z 9 (2 * (24 * s + v) + j))
  ∧ (Y 7 (24 * s + d) = w ∧ (w = 3 ∨ w = 4 → Y 10 (24 * s + d) = fc) ∧ Y 8 (2 * (24 * s + d)) = a ∧ Y 8 (2 * (24 * s + d) + 1) = b ∧ Y 9 (2 * (24 * s + d)) = c ∧ Y 9 (2 * (24 * s + d) + 1) = e)
  ∧ (∀ s' : Nat, s' < 4 → ¬ s' = s → zZn Y Z s') ∧ ∀ j, inV j = false → Y j = Z j
/-- off a version d of the schema s -/
def nVs (s d : Nat) (n : Nm) : Prop := ¬ (n.1 = 4 ∧ n.2.1 = s) ∧ ¬ ((n.1 = 5 ∨ n.1 = 6 ∨ n.1 = 7) ∧ n.2.1 = 24 * s + d ∧ n.2.2 = 0)
/-- the class's heap g is h with one version more -/
def CS (h g : AH) (s d : Nat) (w a b c e fc n2 : Int) (N : Nat → Int) (L : Int64) : Prop :=
  (hI g (4, s, 0) 0 = (d : Int) ∧ hI g (4, s, 0) 1 = hI h (4, s, 0) 1 ∧ hI g (4, s, 0) 2 = n2)
  ∧ (∀ f : Nat, (f : Int) < hI h (4, s, 0) 2 → hI g (4, s, 1) f = hI h (4, s, 1) f ∧ hI g (4, s, 2) f = hI h (4, s, 2) f)
  ∧ (∀ v : Nat, v < 24 → ¬ v = d → (∀ j, hI g (4, s, 100 + v) j = hI h (4, s, 100 + v) j) ∧ hL g (4, s, 4) v = hL h (4, s, 4) v ∧ hR g (4, s, 5) v = hR h (4, s, 5) v)
  ∧ ((∀ j : Nat, j < 26 → hI g (4, s, 100 + d) j = N j) ∧ hL g (4, s, 4) d = L ∧ hR g (4, s, 5) d = some (5, 24 * s + d, 0))
  ∧ (StpW g (24 * s + d) ∧ hI g (5, 24 * s + d, 0) 0 = w ∧ hI g (5, 24 * s + d, 0) 3 = fc ∧ hI g (6, 24 * s + d, 0) 0 = a ∧ hI g (6, 24 * s + d, 0) 1 = b ∧ hI g (7, 24 * s + d, 0) 0 = c ∧ hI g (7, 24 * s + d, 0) 1 = e)
  ∧ SchW g s ∧ (∀ i, hI g (4, s, 6) i = hI h (4, s, 6) i) ∧ Fr (nVs s d) h g
theorem SV.ver (S : SV h Z s) (K : ZS Z s) (hd : (d : Int) = Z 1 s + 1) (hd2 : d < 24) (hn : Z 2 s ≤ n2 ∧ n2 ≤ 46) (V : VS Z Y s d w a b c e fc n2 M D) (C : CS h g s d w a b c e fc n2 N L)
    (nf : ∀ f : Nat, Z 2 s ≤ (f : Int) → (f : Int) < n2 → hI g (4, s, 1) f = Y 3 (48 * s + f) ∧ hI g (4, s, 2) f = Y 4 (48 * s + f)) (nr : NR N M n2) (dr : DR L D M n2) : SV g Y s := by
  obtain ⟨W, ⟨a1, a2⟩, sf, sn, sd, st⟩ := S
  obtain ⟨⟨v1, v2⟩, v3, v5, vd, v7, ⟨p7, p10, p8, p8', p9, p9'⟩, -, -⟩ := V
  obtain ⟨⟨c1, -, c2⟩, cf, cv, ⟨cn, cl, cr⟩, ⟨cp, q0, q3, q6, q6', q7, q7'⟩, cw, -, cF⟩ := C
  refine ⟨cw, ⟨by rw [c1, v1], by rw [c2, v2]⟩, ?_, ?_, ?_, ?_⟩
  · intro f hf
    rw [v2] at hf
    by_cases o : (f : Int) < Z 2 s
    · rw [(cf f (by omega)).1, (cf f (by omega)).2, (v3 f (by omega) o).1, (v3 f (by omega) o).2]
      exact sf f o
    · exact nf f (by omega) hf
  · intro v n h1 h2
    rw [v1] at h1
    rw [v2]
    by_cases o : v = d
    · subst o
      rw [cn n h2]
      refine ⟨(nr n h2).1, fun f hf => ?_⟩
      rw [(vd f (by omega)).1]
      exact (nr n h2).2 f hf
    · rw [(cv v (by omega) o).1]
      have R : NR (hI h (4, s, 100 + v)) (fun f => Z 5 (48 * (24 * s + v) + f)) (Z 2 s) := fun n hn => sn v n (by omega) hn
      have R2 := R.gro hn.1 (fun f f1 f2 => K.2.1 v f (by omega) (by omega) (Or.inl f1))
      obtain ⟨r1, r2⟩ := R2 n h2
      refine ⟨r1, fun f hf => ?_⟩
      rw [(v5 v f (by omega) (by omega) o).1]
      exact r2 f hf
  · intro v f h1 h2
    rw [v1] at h1
    rw [v2]
    by_cases o : v = d
    · subst o
      rw [cl]
      obtain ⟨r1, r2⟩ := dr f h2
      refine ⟨r1, fun h3 h4 => ?_⟩
      rw [(vd f h3).1] at h4
      rw [(vd f h3).2 h4]
      exact r2 h3 h4
    · rw [(cv v (by omega) o).2.1]
      obtain ⟨r1, r2⟩ := sd v f (by omega) h2
      refine ⟨fun z => by have := r1 z; omega, fun h3 h4 => ?_⟩
      rw [(v5 v f (by omega) h3 o).1] at h4
      rw [(v5 v f (by omega) h3 o).2]
      exact r2 h3 h4
  · have kb := K.b1
    refine ⟨by rw [(cv 0 (by omega) (by omega)).2.2]; exact st.1, ?_⟩
    intro v h1 h2
    rw [v1] at h2
    by_cases o : v = d
    · subst o
      refine ⟨cr, cp, by rw [q0, p7], fun z => ?_, by rw [q6, p8], by rw [q6', p8'], by rw [q7, p9], by rw [q7', p9']⟩
      rw [p7] at z
      rw [q3, p10 z]
    · rw [(cv v (by omega) o).2.2]
      obtain ⟨s1, s2⟩ := st.2 v h1 (by omega)
      refine ⟨s1, ?_⟩
      have s3 : SPt g Z (24 * s + v) := s2.f cF ⟨fun z => by simp at z, fun z => by have := z.2.1; dsimp only at this; omega⟩ ⟨fun z => by simp at z, fun z => by have := z.2.1; dsimp only at this; omega⟩ ⟨fun z => by simp at z, fun z => by have := z.2.1; dsimp only at this; omega⟩
      have kj := v7 v (by omega) o
      have j0 := kj.2 0 (by omega)
      have j1 := kj.2 1 (by omega)
      rw [Nat.add_zero] at j0
      unfold SPt at s3 ⊢
      rw [kj.1.1, kj.1.2, j0.1, j0.2, j1.1, j1.2]
      exact s3
theorem ZS.ver (K : ZS Z s) (hd : (d : Int) = Z 1 s + 1) (hd2 : d < 24) (hn : Z 2 s ≤ n2 ∧ n2 ≤ 46) (V : VS Z Y s d w a b c e fc n2 M D)
    (nf : ∀ f : Nat, Z 2 s ≤ (f : Int) → (f : Int) < n2 → (0 ≤ Y 4 (48 * s + f) ∧ Y 4 (48 * s + f) ≤ zmost (Y 3 (48 * s + f))) ∧ 0 ≤ Y 3 (48 * s + f) ∧ Y 3 (48 * s + f) ≤ 2)
    (m1 : ∀ f : Nat, f < 48 → n2 ≤ (f : Int) → M f = -1) (m2 : ∀ f : Nat, f < 48 → -1 ≤ M f ∧ M f ≤ 25)
    (pb : (-1 ≤ a ∧ a < n2) ∧ (-1 ≤ b ∧ b < n2) ∧ (-1 ≤ c ∧ c < n2) ∧ (-1 ≤ e ∧ e < n2)) (pk : StK w a b c e fc (fun f => Y 3 (48 * s + f)))
    (pp : ∀ f : Nat, f < 48 → (¬ M f = -1 ↔ (¬ Z 5 (48 * (24 * s + (d - 1)) + f) = -1 ∧ ¬ (f : Int) = a ∧ ¬ (f : Int) = b) ∨ (f : Int) = c ∨ (f : Int) = e))
    (p0 : ¬ a = -1 → ¬ Z 5 (48 * (24 * s + (d - 1)) + a.toNat) = -1) (p1 : ¬ b = -1 → ¬ Z 5 (48 * (24 * s + (d - 1)) + b.toNat) = -1)
    (pn : ∀ f : Nat, f < 48 → ((f : Int) = c ∨ (f : Int) = e) → ¬ Z 5 (48 * (24 * s + (d - 1)) + f) = -1 → ((f : Int) = a ∨ (f : Int) = b)) : ZS Y s := by
  have b1 := K.b1
  have b2 := K.b2
  obtain ⟨⟨v1, v2⟩, v3, v5, vd, v7, ⟨p7, p10, p8, p8', p9, p9'⟩, -, -⟩ := V
  obtain ⟨-, k2, k3, k4, k5⟩ := K
  refine ⟨⟨by rw [v1]; omega, by rw [v2]; omega⟩, ?_, ?_, ?_, ?_⟩
  · intro v f hv hf
    rw [v1, v2]
    intro z
    by_cases o : v = d
    · subst o
      rw [(vd f hf).1]
      exact m1 f hf (by omega)
    · rw [(v5 v f hv hf o).1]
      exact k2 v f hv hf (by omega)
  · intro v f hv hf
    by_cases o : v = d
    · subst o
      rw [(vd f hf).1]
      exact m2 f hf
    · rw [(v5 v f hv hf o).1]
      exact k3 v f hv hf
  · intro f hf
    rw [v2] at hf
    by_cases o : (f : Int) < Z 2 s
    · rw [(v3 f (by omega) o).1, (v3 f (by omega) o).2]
      exact k4 f o
    · exact nf f (by omega) hf
  · intro v h1 h2
    rw [v1] at h2
    by_cases o : v = d
    · subst o
      unfold ZP
      rw [p7, p8, p8', p9, p9', v2, show 24 * s + v - 1 = 24 * s + (v - 1) by omega]
      have o5 : ∀ f, f < 48 → Y 5 (48 * (24 * s + (v - 1)) + f) = Z 5 (48 * (24 * s + (v - 1)) + f) := fun f hf => (v5 (v - 1) f (by omega) hf (by omega)).1
      refine ⟨pb, ?_, fun f hf => ?_, fun z => ?_, fun z => ?_, fun f hf => ?_⟩
      · by_cases q : w = 3 ∨ w = 4
        · rw [p10 q]; exact pk
        · rcases pk with k | k | k | k | k | k
          · exact Or.inl k
          · exact Or.inr (Or.inl k)
          · exact Or.inr (Or.inr (Or.inl k))
          · exact absurd (Or.inl k.1) q
          · exact absurd (Or.inr k.1) q
          · exact Or.inr (Or.inr (Or.inr (Or.inr (Or.inr k))))
      · rw [(vd f hf).1, o5 f hf]; exact pp f hf
      · rw [o5 _ (by omega)]; exact p0 z
      · rw [o5 _ (by omega)]; exact p1 z
      · rw [o5 f hf]; exact pn f hf
    · refine ZP.gr ⟨h1, by omega⟩ (by omega) b2.2 (fun f hf => (v3 f (by omega) hf).1) (fun f hf => ⟨(v5 v f (by omega) hf o).1, (v5 (v - 1) f (by omega) hf (by omega)).1⟩) (v7 v (by omega) o).1 (v7 v (by omega) o).2 (k5 v h1 (by omega))
/-- a row of the schema, seen from the new version -/
theorem RW.ver (R : RW h Z s a' b' q) (hd : (d : Int) = Z 1 s + 1) (hd2 : d < 24) (V : VS Z Y s d w a b c e fc n2 M D) : RW h Y s a' b' q := by
  obtain ⟨⟨v1, v2⟩, v3, v5, vd, v7, -, -, vo⟩ := V
  obtain ⟨⟨r1, r2, r3⟩, k1, k2, k3, k4⟩ := R
  have o : ∀ j, inV j = false → Y j = Z j := vo
  refine ⟨⟨by rw [o 21 rfl]; exact r1, by rw [o 21 rfl]; exact r2, by rw [o 21 rfl, v1]; omega⟩, k1, by rw [o 23 rfl]; exact k2, ?_, ?_⟩
  · unfold RVl at k3 ⊢
    intro f hf
    rw [o 21 rfl, o 22 rfl, (v5 (Z 21 q).toNat f (by omega) (by omega) (by omega)).1]
    exact k3 f hf
  · intro v hv
    obtain ⟨m1, m2, m3, m4, m5, m6⟩ := k4 v hv
    unfold RB1
    rw [o 24 rfl, o 25 rfl, v1]
    refine ⟨m1, m2, m3, m4, m5, fun z => m6 ?_⟩
    by_cases q : v = d
    · exact Or.inl (by omega)
    · rw [(v7 v hv q).1.1] at z
      omega
theorem RW.zn (e : zZn Y Z s) (b1 : Z 1 s ≤ 23) (e21 : Y 21 q = Z 21 q) (e22 : ∀ f : Nat, f < 48 → Y 22 (48 * q + f) = Z 22 (48 * q + f)) (e23 : Y 23 q = Z 23 q) (e24 : ∀ w : Nat, w < 24 → Y 24 (24 * q + w) = Z 24 (24 * q + w)) (e25 : ∀ j : Nat, j < 48 → Y 25 (48 * q + j) = Z 25 (48 * q + j)) (R : RW h Z s a' b' q) : RW h Y s a' b' q := by
  obtain ⟨⟨e1, -⟩, -, e5, e7⟩ := e
  obtain ⟨⟨r1, r2, r3⟩, k1, k2, k3, k4⟩ := R
  refine ⟨⟨by rw [e21]; exact r1, by rw [e21]; exact r2, by rw [e21, e1]; exact r3⟩, k1, by rw [e23]; exact k2, ?_, ?_⟩
  · unfold RVl at k3 ⊢
    intro f hf
    rw [e21, e22 f (by omega), (e5 (Z 21 q).toNat f (by omega) (by omega)).1]
    exact k3 f hf
  · intro w hw
    refine RB1.c (k4 w hw) rfl rfl (fun _ _ => rfl) e1 (e7 w hw).1.1 (e24 w hw) (fun j hj => ?_)
    rw [show 2 * (24 * q + w) + j = 48 * q + (2 * w + j) by omega]
    exact e25 _ (by omega)
end R7
