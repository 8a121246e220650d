/-! ===== the relation: what a step tells ===== -/
section R2
variable {h g : AH} {Z Y : ZT} {s : Nat}
theorem tn_p {v : Nat} : (24 * (s : Int) + (v : Int)).toNat = 24 * s + v := by omega
theorem tn_20 {p : Int} {q : Nat} (e : p = (q : Int)) : (2 * p + 0).toNat = 2 * q := by omega
theorem tn_21 {p : Int} {q : Nat} (e : p = (q : Int)) : (2 * p + 1).toNat = 2 * q + 1 := by omega
theorem cqu_eq {x d : Int} (hd : 0 < d) : cqu x d = if x = -1 then -1 else x.tdiv d := by
  unfold cqu; (repeat' split) <;> first | rfl | omega
theorem crm_eq {x d : Int} (hd : 0 < d) : crm x d = if ¬ x = -1 then x.tmod d else -1 := by
  unfold crm; (repeat' split) <;> first | rfl | omega
theorem ctu_eq {x f t : Int} (hf : 0 ≤ f ∧ f ≤ 2) (ht : 0 ≤ t ∧ t ≤ 2) (hn : ¬ f = t) : ctu x f t = ztur x f t := by
  unfold ctu ztur
  by_cases e : x = -1
  · rw [if_pos e, if_pos (Or.inl e), e]
  · have e2 : ¬ (x = -1 ∨ f = t) := by omega
    rw [if_neg e, if_neg e2]
    rcases (show f = 0 ∨ f = 1 ∨ f = 2 by omega) with rfl | rfl | rfl <;> rcases (show t = 0 ∨ t = 1 ∨ t = 2 by omega) with rfl | rfl | rfl <;> simp_all
/-- the step's data, named -/
theorem SV.tA0 (S : SV h Z s) (K : ZS Z s) {v : Nat} {x y : Int} (h1 : 1 ≤ v) (h2 : (v : Int) ≤ Z 1 s) (u : Int) (hn : ¬ Z 7 (24 * s + v) = 1) : ctA0 h s (24 * s + v) u x y = if u = 0 then zD0r Z s v x y else zU0r Z s v x y := by
  obtain ⟨-, P, e7, e10, e1, e2, e3, e4⟩ := S.st h1 h2
  obtain ⟨⟨p1, p2, p3, p4⟩, k, -, -, -, -⟩ := K.zp h1 h2
  have kk : ∀ f : Int, 0 ≤ f → f < Z 2 s → 0 ≤ zkof Z s f ∧ zkof Z s f ≤ 2 := by
    intro f f1 f2
    have := (K.2.2.2.1 f.toNat (by omega)).2
    unfold zkof
    rw [if_neg (by omega), show (48 * (s : Int) + f).toNat = 48 * s + f.toNat by omega]
    exact this
  have ke : ∀ f : Int, 0 ≤ f → zkof Z s f = Z 3 (48 * s + f.toNat) := by
    intro f f1
    unfold zkof
    rw [if_neg (by omega), show (48 * (s : Int) + f).toNat = 48 * s + f.toNat by omega]
  unfold ctA0 zD0r zU0r cTo cfro zfr zbe
  rw [tn_p, e7, e1, e3, tn_20 (p := 24 * (s : Int) + (v : Int)) (q := 24 * s + v) (by omega)]
  rcases k with ⟨w, a, b, c, d⟩ | ⟨w, a, b, c, d⟩ | ⟨w, a, b, c, d, kn⟩ | ⟨w, a, b, c, d, fc⟩ | ⟨w, a, b, c, d, fc⟩ | ⟨w, a, b, c, d⟩
  · rw [w]
    by_cases q : u = 0
    · simp [q]
    · have e := S.ecd ⟨c, p3.2⟩
      simp [q, e]
      congr 1; omega
  · rcases w with w | w
    · exact absurd w hn
    · rw [w]
      by_cases q : u = 0 <;> simp [q]
  · rw [w]
    have k1 := kk _ a p1.2
    have k2 := kk _ c p3.2
    dsimp only at kn
    rw [← ke _ a, ← ke _ c] at kn
    by_cases q : u = 0
    · simp [q]
      rw [S.eck p1, S.eck p3]
      exact ctu_eq k2 k1 (fun z => kn z.symm)
    · simp [q]
      rw [S.eck p1, S.eck p3]
      exact ctu_eq k1 k2 kn
  · rw [w, e10 (Or.inl w)]
    by_cases q : u = 0 <;> simp [q, cqu_eq fc]
  · rw [w, e10 (Or.inr w)]
    by_cases q : u = 0 <;> simp [q, cqu_eq fc]
  · rw [w]
    by_cases q : u = 0 <;> simp [q]
theorem SV.tA1 (S : SV h Z s) (K : ZS Z s) {v : Nat} {x : Int} (h1 : 1 ≤ v) (h2 : (v : Int) ≤ Z 1 s) (u : Int) : ctA1 h (24 * s + v) u x = if u = 0 then zD1r Z s v x else zU1r Z s v x := by
  obtain ⟨-, P, e7, e10, e1, e2, e3, e4⟩ := S.st h1 h2
  obtain ⟨-, k, -, -, -, -⟩ := K.zp h1 h2
  unfold ctA1 zD1r zU1r
  rw [tn_p, e7]
  rcases k with ⟨w, a, b, c, d⟩ | ⟨w, a, b, c, d⟩ | ⟨w, a, b, c, d, kn⟩ | ⟨w, a, b, c, d, fc⟩ | ⟨w, a, b, c, d, fc⟩ | ⟨w, a, b, c, d⟩
  · by_cases q : u = 0 <;> simp [w, q]
  · rcases w with w | w <;> by_cases q : u = 0 <;> simp [w, q]
  · by_cases q : u = 0 <;> simp [w, q]
  · rw [w, e10 (Or.inl w)]
    by_cases q : u = 0 <;> simp [q, crm_eq fc]
  · rw [w, e10 (Or.inr w)]
    by_cases q : u = 0 <;> simp [q, crm_eq fc]
  · by_cases q : u = 0 <;> simp [w, q]
/-- the fields of a step stand in their versions -/
theorem ZP.pf0 {p : Nat} (K : ZP Z s p) : ¬ Z 8 (2 * p) = -1 → ¬ Z 5 (48 * (p - 1) + (Z 8 (2 * p)).toNat) = -1 := K.2.2.2.1
theorem ZP.pf1 {p : Nat} (K : ZP Z s p) : ¬ Z 8 (2 * p + 1) = -1 → ¬ Z 5 (48 * (p - 1) + (Z 8 (2 * p + 1)).toNat) = -1 := K.2.2.2.2.1
theorem ZP.pb0 {p : Nat} (K : ZP Z s p) (b : Z 2 s ≤ 46) : ¬ Z 9 (2 * p) = -1 → ¬ Z 5 (48 * p + (Z 9 (2 * p)).toNat) = -1 := fun q => by
  have := K.1.2.2.1
  exact (K.2.2.1 (Z 9 (2 * p)).toNat (by omega)).mpr (Or.inr (Or.inl (by omega)))
theorem ZP.pb1 {p : Nat} (K : ZP Z s p) (b : Z 2 s ≤ 46) : ¬ Z 9 (2 * p + 1) = -1 → ¬ Z 5 (48 * p + (Z 9 (2 * p + 1)).toNat) = -1 := fun q => by
  have := K.1.2.2.2
  exact (K.2.2.1 (Z 9 (2 * p + 1)).toNat (by omega)).mpr (Or.inr (Or.inr (by omega)))
theorem SV.tl0 (S : SV h Z s) (K : ZS Z s) {v : Nat} {u x y : Int} (h1 : 1 ≤ v) (h2 : (v : Int) ≤ Z 1 s) (hn : ¬ Z 7 (24 * s + v) = 1) : ctl0 h s (24 * s + v) v u x y = zG0 Z u s v x y := by
  have b2 := K.b2
  obtain ⟨-, P, e7, e10, e1, e2, e3, e4⟩ := S.st h1 h2
  have zp := K.zp h1 h2
  obtain ⟨⟨p1, p2, p3, p4⟩, -⟩ := K.zp h1 h2
  have f0 := zp.pf0
  have f1 := zp.pb0 b2.2
  rw [show 48 * (24 * s + v - 1) = 48 * (24 * s + (v - 1)) by omega] at f0
  unfold ctl0 zG0 zD0 zU0 zfr zbe
  rw [S.tA0 K h1 h2 u hn, e1, e3, tn_p, tn_20 (p := 24 * (s : Int) + (v : Int)) (q := 24 * s + v) (by omega), if_neg hn, if_neg hn]
  by_cases q : u = 0
  · simp only [if_pos q]
    have := S.ned K (v := v - 1) (x := zD0r Z s v x y) (by omega) p1 f0
    rw [show (((v - 1 : Nat)) : Int) = (v : Int) - 1 by omega] at this
    exact this
  · simp only [if_neg q]
    exact S.ned K h2 p3 f1
theorem SV.tl1 (S : SV h Z s) (K : ZS Z s) {v : Nat} {u x : Int} (h1 : 1 ≤ v) (h2 : (v : Int) ≤ Z 1 s) : ctl1 h s (24 * s + v) v u x = zG1 Z u s v x := by
  have b2 := K.b2
  obtain ⟨-, P, e7, e10, e1, e2, e3, e4⟩ := S.st h1 h2
  have zp := K.zp h1 h2
  obtain ⟨⟨p1, p2, p3, p4⟩, -⟩ := K.zp h1 h2
  have f0 := zp.pf1
  have f1 := zp.pb1 b2.2
  rw [show 48 * (24 * s + v - 1) = 48 * (24 * s + (v - 1)) by omega] at f0
  unfold ctl1 zG1 zD1 zU1 zfr zbe
  rw [S.tA1 K h1 h2 u, e2, e4, tn_21 (p := 24 * (s : Int) + (v : Int)) (q := 24 * s + v) (by omega)]
  by_cases q : u = 0
  · simp only [if_pos q]
    have := S.ned K (v := v - 1) (x := zD1r Z s v x) (by omega) p2 f0
    rw [show (((v - 1 : Nat)) : Int) = (v : Int) - 1 by omega] at this
    exact this
  · simp only [if_neg q]
    exact S.ned K h2 p4 f1
/-! what both tell depends on the schema alone -/
def zSv (Z' Z : ZT) : Prop := ∀ j, (j == 1 || j == 2 || j == 3 || j == 4 || j == 5 || j == 6 || j == 7 || j == 8 || j == 9 || j == 10) = true → Z' j = Z j
theorem zSv.rf : zSv Z Z := fun _ _ => rfl
theorem zSv.z {Z' : ZT} {j i : Nat} {v : Int} (hj : (j == 1 || j == 2 || j == 3 || j == 4 || j == 5 || j == 6 || j == 7 || j == 8 || j == 9 || j == 10) = false) (e : zSv Z' Z) : zSv (zs Z' j i v) Z := by
  intro j' h'
  rw [zs_oj]
  · exact e j' h'
  · cases q : Nat.beq j' j with
    | false => rfl
    | true =>
      rw [Nat.eq_of_beq_eq_true q, hj] at h'
      exact absurd h' (by decide)
theorem zG0_c (e : zSv Y Z) {u a b x y : Int} : zG0 Y u a b x y = zG0 Z u a b x y := by
  unfold zG0 zD0 zU0 zD0r zU0r zned zfr zbe zkof
  rw [e 3 rfl, e 4 rfl, e 6 rfl, e 7 rfl, e 8 rfl, e 9 rfl, e 10 rfl]
theorem zG1_c (e : zSv Y Z) {u a b x : Int} : zG1 Y u a b x = zG1 Z u a b x := by
  unfold zG1 zD1 zU1 zD1r zU1r zned zfr zbe
  rw [e 4 rfl, e 6 rfl, e 7 rfl, e 8 rfl, e 9 rfl, e 10 rfl]
theorem zon_c (e : zSv Y Z) {p u j : Int} : zon Y p u j = zon Z p u j := by
  unfold zon zfr zbe
  rw [e 7 rfl, e 8 rfl, e 9 rfl]
/-- the schemas' cells, but for scratch -/
def nSv (s : Nat) (n : Nm) : Prop := (n.1 = 4 ∧ n.2.1 = s ∧ (n.2.2 ≤ 5 ∨ 100 ≤ n.2.2)) ∨ n.1 = 5 ∨ n.1 = 6 ∨ n.1 = 7
theorem SV.fr2 (S : SV h Z s) (F : Fr (nSv s) h g) (W : SchW g s) (e : zSv Y Z) : SV g Y s := by
  have n4 : ∀ i : Nat, i ≤ 5 → nSv s (4, s, i) := fun i hi => Or.inl ⟨rfl, rfl, Or.inl hi⟩
  have nv : ∀ i : Nat, nSv s (4, s, 100 + i) := fun i => Or.inl ⟨rfl, rfl, Or.inr (Nat.le_add_right _ _)⟩
  have n5 : ∀ i j : Nat, nSv s (5, i, j) := fun i j => Or.inr (Or.inl rfl)
  have n6 : ∀ i j : Nat, nSv s (6, i, j) := fun i j => Or.inr (Or.inr (Or.inl rfl))
  have n7 : ∀ i j : Nat, nSv s (7, i, j) := fun i j => Or.inr (Or.inr (Or.inr rfl))
  obtain ⟨-, ⟨a1, a2⟩, b, c, d, st⟩ := S
  refine ⟨W, ⟨?_, ?_⟩, ?_, ?_, ?_, ?_⟩
  · rw [F.I (n4 0 (by omega)), a1, e 1 rfl]
  · rw [F.I (n4 0 (by omega)), a2, e 2 rfl]
  · unfold SFd at b ⊢
    intro f hf
    rw [F.I (n4 1 (by omega)), F.I (n4 2 (by omega)), e 3 rfl, e 4 rfl]
    rw [e 2 rfl] at hf
    exact b f hf
  · unfold SNm at c ⊢
    intro v n h1 h2
    rw [F.I (nv v), e 2 rfl, e 5 rfl]
    rw [e 1 rfl] at h1
    exact c v n h1 h2
  · unfold SNd at d ⊢
    intro v f h1 h2
    rw [F.L (n4 4 (by omega)), e 2 rfl, e 5 rfl, e 6 rfl]
    rw [e 1 rfl] at h1
    exact d v f h1 h2
  · unfold SSt at st ⊢
    refine ⟨by rw [F.R (n4 5 (by omega))]; exact st.1, ?_⟩
    intro v h1 h2
    rw [e 1 rfl] at h2
    obtain ⟨s1, s2⟩ := st.2 v h1 h2
    refine ⟨by rw [F.R (n4 5 (by omega))]; exact s1, ?_⟩
    unfold SPt StpW at s2 ⊢
    rw [F.T (n5 _ _), F.T (n6 _ _), F.T (n7 _ _), F.R (n5 _ _), F.R (n5 _ _), F.I (n5 _ _), F.I (n5 _ _), F.I (n6 _ _), F.I (n6 _ _), F.I (n7 _ _), F.I (n7 _ _), e 7 rfl, e 8 rfl, e 9 rfl, e 10 rfl]
    exact s2
theorem ZS.c (K : ZS Z s) (e : zSv Y Z) : ZS Y s := by
  unfold ZS ZP at *
  rw [e 1 rfl, e 2 rfl, e 3 rfl, e 4 rfl, e 5 rfl, e 7 rfl, e 8 rfl, e 9 rfl, e 10 rfl]
  exact K
end R2
