/-! ===== a version more, in the model: what is kept ===== -/
section D1
variable {h g G : AH} {Z Y : ZT} {d r : Nat} {w a b c e fc n2 W : Int} {M N D K : Nat → Int}
def V0 (Z Y : ZT) (d : Nat) (w a b c e fc n2 : Int) (M N : Nat → Int) : Prop := (Y 1 0 = (d : Int) ∧ Y 2 0 = n2) ∧ (∀ f : Nat, f < 48 → (f : Int) < Z 2 0 → Y 3 f = Z 3 f ∧ Y 4 f = Z 4 f)
  ∧ (∀ v f : Nat, v < 24 → f < 48 → ¬ v = d → Y 5 (48 * v + f) = Z 5 (48 * v + f) ∧ Y 6 (48 * v + f) = Z 6 (48 * v + f))
  ∧ (∀ f : Nat, f < 48 → Y 5 (48 * d + f) = M f ∧ (¬ M f = -1 → Y 6 (48 * d + f) = N f))
  ∧ (∀ v : Nat, v < 24 → ¬ v = d → (Y 7 v = Z 7 v ∧ Y 10 v = Z 10 v) ∧ ∀ j, j < 2 → Y 8 (2 * v + j) = Z 8 (2 * v + j) ∧ Y 9 (2 * v + j) = Z 9 (2 * v + j))
  ∧ (Y 7 d = w ∧ (w = 3 ∨ w = 4 → Y 10 d = fc) ∧ Y 8 (2 * d) = a ∧ Y 8 (2 * d + 1) = b ∧ Y 9 (2 * d) = c ∧ Y 9 (2 * d + 1) = e)
  ∧ ∀ j, inV j = false → Y j = Z j
theorem VS.v0 (V : VS Z Y 0 d w a b c e fc n2 M N) : V0 Z Y d w a b c e fc n2 M N := by
  obtain ⟨v1, v2, v3, v4, v5, v6, -, v8⟩ := V
  simp only [Nat.mul_zero, Nat.zero_add] at v2 v3 v4 v5 v6
  exact ⟨v1, v2, v3, v4, v5, v6, v8⟩
theorem V0.st (V : V0 Z Y d w a b c e fc n2 M N) {v : Nat} (hv : v < 24) (hd : ¬ v = d) : (Y 7 v = Z 7 v ∧ Y 10 v = Z 10 v) ∧ (Y 8 (2 * v) = Z 8 (2 * v) ∧ Y 8 (2 * v + 1) = Z 8 (2 * v + 1)) ∧ Y 9 (2 * v) = Z 9 (2 * v) ∧ Y 9 (2 * v + 1) = Z 9 (2 * v + 1) := by
  obtain ⟨p, q⟩ := V.2.2.2.2.1 v hv hd
  have q0 := q 0 (by decide)
  have q1 := q 1 (by decide)
  exact ⟨p, ⟨q0.1, q1.1⟩, q0.2, q1.2⟩
theorem V0.hd (V : V0 Z Y d w a b c e fc n2 M N) : Y 1 0 = (d : Int) ∧ Y 2 0 = n2 := V.1
theorem V0.f (V : V0 Z Y d w a b c e fc n2 M N) {f : Nat} (hf : f < 48) (h2 : (f : Int) < Z 2 0) : Y 3 f = Z 3 f ∧ Y 4 f = Z 4 f := V.2.1 f hf h2
theorem V0.o (V : V0 Z Y d w a b c e fc n2 M N) : ∀ j, inV j = false → Y j = Z j := V.2.2.2.2.2.2
/-- the law's arrays hold the new version -/
theorem V0.sc (K' : QS Z) (V : V0 Z Y d w a b c e fc n2 M N) (C : LC g Z d D W n2 K) (hd : Z 1 0 + 1 = (d : Int)) (hd2 : d ≤ 10) (hn : n2 ≤ 10) (eD : ∀ f : Nat, f < 10 → D f = if M f = -1 then 0 else M f + 1 + (if N f = 0 then 0 else 32))
    (eW : W = w + 8 * (a + 1) + 128 * (b + 1) + 2048 * (c + 1) + 32768 * (e + 1) + 524288 * (if w = 3 ∨ w = 4 then fc else 0)) (eK : ∀ f : Nat, Z 2 0 ≤ (f : Int) → (f : Int) < n2 → K f = Y 3 f + 3 * Y 4 f) : LSc g Y := by
  obtain ⟨c1, c2, c3, c4, c5, c6, c7⟩ := C
  have b1 := K'.b1
  have b2 := K'.b2
  refine ⟨⟨c1.1.trans V.hd.1.symm, c1.2.trans V.hd.2.symm⟩, fun i f hi hf => ?_, fun i h1 hi => ?_, fun f hf => ?_⟩
  · rw [V.hd.1] at hi
    by_cases ei : i = d
    · subst ei
      obtain ⟨m1, m2⟩ := V.2.2.2.1 f (by omega)
      rw [c3 f hf, eD f hf]
      unfold zdg
      rw [m1]
      by_cases em : M f = -1
      · rw [if_pos em, if_pos em]
      · rw [if_neg em, if_neg em, m2 em]
    · obtain ⟨m1, m2⟩ := V.2.2.1 i f (by omega) (by omega) ei
      rw [c2 i f (by omega) hf]
      unfold zdg
      rw [m1, m2]
  · rw [V.hd.1] at hi
    by_cases ei : i = d
    · subst ei
      obtain ⟨s1, s2, s3, s4, s5, s6⟩ := V.2.2.2.2.2.1
      rw [c5, eW]
      unfold zwd zby
      rw [s1, s3, s4, s5, s6]
      by_cases ew : w = 3 ∨ w = 4
      · rw [if_pos ew, if_pos ew, s2 ew]
      · rw [if_neg ew, if_neg ew]
    · obtain ⟨⟨s1, s2⟩, ⟨s3, s4⟩, s5, s6⟩ := V.st (v := i) (by omega) ei
      rw [c4 i h1 (by omega)]
      unfold zwd zby
      rw [s1, s2, s3, s4, s5, s6]
  · rw [V.hd.2] at hf
    by_cases ef : (f : Int) < Z 2 0
    · obtain ⟨m1, m2⟩ := V.f (f := f) (by omega) ef
      rw [c6 f ef, m1, m2]
    · rw [c7 f (by omega) hf, eK f (by omega) hf]
theorem V0.qx (K' : QS Z) (V : V0 Z Y d w a b c e fc n2 M N) (hd : Z 1 0 + 1 = (d : Int)) (hd2 : d ≤ 10) (hn : n2 ≤ 10) (x1 : w = 3 ∨ w = 4 → 1 ≤ fc ∧ fc ≤ 100) (x2 : w = 3 → Y 3 a.toNat = 0 ∧ Y 3 c.toNat = 0 ∧ Y 3 e.toNat = 0) (x3 : w = 4 → Y 3 a.toNat = 0 ∧ Y 3 b.toNat = 0 ∧ Y 3 c.toNat = 0) : QX Y := by
  have b1 := K'.b1
  have b2 := K'.b2
  refine ⟨by rw [V.hd.1]; omega, by rw [V.hd.2]; exact hn, fun i h1 hi => ?_⟩
  rw [V.hd.1] at hi
  by_cases ei : i = d
  · subst ei
    obtain ⟨s1, s2, s3, s4, s5, s6⟩ := V.2.2.2.2.2.1
    rw [s1, s3, s4, s5, s6]
    exact ⟨fun z => by rw [s2 z]; exact x1 z, x2, x3⟩
  · obtain ⟨⟨s1, s2⟩, ⟨s3, s4⟩, s5, s6⟩ := V.st (v := i) (by omega) ei
    rw [s1, s2, s3, s4, s5, s6]
    obtain ⟨y1, y2, y3⟩ := K'.x h1 (by omega)
    obtain ⟨⟨p1, p2, p3, p4⟩, s, -⟩ := K'.p h1 (by omega)
    unfold StK at s
    refine ⟨y1, fun z => ?_, fun z => ?_⟩
    · have := y2 z
      rw [(V.f (f := (Z 8 (2 * i)).toNat) (by omega) (by omega)).1, (V.f (f := (Z 9 (2 * i)).toNat) (by omega) (by omega)).1, (V.f (f := (Z 9 (2 * i + 1)).toNat) (by omega) (by omega)).1]
      exact this
    · have := y3 z
      rw [(V.f (f := (Z 8 (2 * i)).toNat) (by omega) (by omega)).1, (V.f (f := (Z 8 (2 * i + 1)).toNat) (by omega) (by omega)).1, (V.f (f := (Z 9 (2 * i)).toNat) (by omega) (by omega)).1]
      exact this
/-- a row's bounds, the schema grown -/
theorem sb_v (K' : QS Z) (V : V0 Z Y d w a b c e fc n2 M N) {f x : Int} (hf : -1 ≤ f ∧ f < Z 2 0) (k : sb Z f x) : sb Y f x := by
  have b2 := K'.b2
  unfold sb at *
  by_cases e0 : f = -1
  · rw [if_pos e0] at k ⊢; exact k
  · rw [if_neg e0] at k ⊢
    rw [(V.f (f := f.toNat) (by omega) (by omega)).1]; exact k
theorem V0.vb (K' : QS Z) (V : V0 Z Y d w a b c e fc n2 M N) (hd : Z 1 0 + 1 = (d : Int)) (hn : Z 2 0 ≤ n2) {X X' : ZT} (eX : ∀ j, (j == 1 || j == 2 || j == 3 || j == 7 || j == 8 || j == 9) = true → X j = Y j) (eX' : ∀ j, (j == 1 || j == 2 || j == 3 || j == 7 || j == 8 || j == 9) = true → X' j = Z j) (e : ∀ j, inV j = false → X j = X' j) (B : VB X' r) : VB X r := by
  have b1 := K'.b1
  have b2 := K'.b2
  unfold VB sb at B
  rw [eX' 1 rfl, eX' 2 rfl, eX' 3 rfl, eX' 7 rfl, eX' 8 rfl, eX' 9 rfl] at B
  unfold VB sb
  rw [eX 1 rfl, eX 2 rfl, eX 3 rfl, eX 7 rfl, eX 8 rfl, eX 9 rfl, e 21 rfl, e 22 rfl, e 24 rfl, e 25 rfl, V.hd.1, V.hd.2]
  obtain ⟨B1, B2, B3⟩ := B
  refine ⟨by omega, fun k hk => ?_, fun i hi => ?_⟩
  · obtain ⟨y1, y2, y3⟩ := B2 k hk
    refine ⟨y1, fun z => ?_, fun z => y3 (by omega)⟩
    by_cases ek : (k : Int) < Z 2 0
    · rw [(V.f hk ek).1]; exact y2 ek
    · have := y3 (by omega)
      have := zmost_b (Y 3 k)
      omega
  · obtain ⟨y1, y2, y3, y4⟩ := B3 i hi
    refine ⟨y1, fun z => ?_, fun z => ?_, fun z => ?_⟩
    · have := y2 z
      rw [(V.st hi (by omega)).1.1]
      omega
    · have q := y2 (by omega)
      obtain ⟨⟨p1, p2, p3, p4⟩, -⟩ := K'.p q.1 q.2.1
      obtain ⟨-, ⟨s3, s4⟩, s5, s6⟩ := V.st hi (by omega)
      rw [s3, s4]
      exact ⟨sb_v K' V p1 (y3 z).1, sb_v K' V p2 (y3 z).2⟩
    · have q := y2 (by omega)
      obtain ⟨⟨p1, p2, p3, p4⟩, -⟩ := K'.p q.1 q.2.1
      obtain ⟨-, ⟨s3, s4⟩, s5, s6⟩ := V.st hi (by omega)
      rw [s5, s6]
      exact ⟨sb_v K' V p3 (y4 z).1, sb_v K' V p4 (y4 z).2⟩
/-! what a mover's step can be taken back to, the schema grown -/
def EQ (Y Z : ZT) (p : Int) : Prop := (∀ j, inV j = false → Y j = Z j) ∧ Y 7 p.toNat = Z 7 p.toNat ∧ ∀ u j : Int, j = 0 ∨ j = 1 → zon Y p u j = zon Z p u j
theorem EQ.zs {p : Int} (E : EQ Y Z p) {k i : Nat} {v v' : Int} (hk : (k != 7 && k != 8 && k != 9) = true) (hv : v = v') : EQ (zs Y k i v) (zs Z k i v') p := by
  subst hv
  simp only [Bool.and_eq_true, bne_iff_ne, ne_eq] at hk
  have o : ∀ (X : ZT) j, ¬ j = k → Jvm.Pilot.CFieldMigratorLaw_law_r9763_1955e4.zs X k i v j = X j := fun X j hj => zs_oj (beq_ne hj)
  refine ⟨fun j hj => ?_, ?_, fun u j hj => ?_⟩
  · funext x
    unfold Jvm.Pilot.CFieldMigratorLaw_law_r9763_1955e4.zs
    rw [E.1 j hj]
  · rw [o Y 7 (by omega), o Z 7 (by omega)]; exact E.2.1
  · have := E.2.2 u j hj
    unfold zon zfr zbe at *
    rw [o Y 7 (by omega), o Z 7 (by omega), o Y 8 (by omega), o Z 8 (by omega), o Y 9 (by omega), o Z 9 (by omega)]
    exact this
theorem EQ.zv {p q f f' x x' : Int} (E : EQ Y Z p) (ef : f = f') (ex : x = x') : EQ (zv Y q f x) (zv Z q f' x') p := by
  subst ef; subst ex
  unfold Jvm.Pilot.CFieldMigratorLaw_law_r9763_1955e4.zv
  split
  · exact E
  · exact E.zs rfl rfl
theorem EQ.zUb {p q t x y : Int} (hy : y = 0 ∨ y = 1) (E : EQ Y Z p) : EQ (zUb Y x p q t y) (zUb Z x p q t y) p := by
  unfold Jvm.Pilot.CFieldMigratorLaw_law_r9763_1955e4.zUb
  have e40 : ∀ i, Y 40 i = Z 40 i := fun i => by rw [E.1 40 rfl]
  have e42 : ∀ i, Y 42 i = Z 42 i := fun i => by rw [E.1 42 rfl]
  have E1 := E.zs (k := 25) (i := (2 * q + y).toNat) rfl (e40 (2 * t + y).toNat)
  exact E1.zv (E1.2.2 0 y hy) (e42 _)
theorem EQ.zUf {p x t i y : Int} (hy : y = 0 ∨ y = 1) (E : EQ Y Z p) : EQ (zUf Y x p t i y) (zUf Z x p t i y) p := by
  unfold Jvm.Pilot.CFieldMigratorLaw_law_r9763_1955e4.zUf
  rw [E.1 37 rfl, E.2.1, E.1 41 rfl, E.2.2 1 y hy]
  split
  · exact E.zv rfl rfl
  · exact E
theorem zUnd_eq {m t : Int} (e : ∀ j, inV j = false → Y j = Z j) (E : EQ Y Z (24 * Z 20 (Z 34 t.toNat).toNat + zundA Z (Z 34 t.toNat) t)) : ∀ j, inV j = false → zUnd Y m t j = zUnd Z m t j := by
  have ea : ∀ x, zundA Y x t = zundA Z x t := fun x => by unfold zundA; rw [e 21 rfl, e 37 rfl]
  have e34 : Y 34 t.toNat = Z 34 t.toNat := by rw [e 34 rfl]
  have e20 : Y 20 = Z 20 := e 20 rfl
  unfold zUnd zUnd2 zUnd1 zUnd0
  rw [ea, e34, e20, e 37 rfl, e 38 rfl, e 39 rfl, e 36 rfl, e 33 rfl]
  generalize zundA Z (Z 34 t.toNat) t = A at *
  generalize Z 34 t.toNat = x at *
  have q := EQ.zs (k := 31) (i := m.toNat) (v := Z 33 t.toNat) (EQ.zs (k := 26) (i := x.toNat) (v := Z 36 t.toNat) (EQ.zUf (x := x) (t := t) (i := A) (Or.inr rfl) (EQ.zUf (x := x) (t := t) (i := A) (Or.inl rfl) (EQ.zUb (q := 24 * x + A) (x := x) (t := t) (Or.inr rfl) (EQ.zUb (q := 24 * x + A) (x := x) (t := t) (Or.inl rfl) (EQ.zs (k := 24) (i := (24 * x + A).toNat) (v := Z 39 t.toNat) (EQ.zs (k := 23) (i := x.toNat) (v := Z 38 t.toNat) (EQ.zs (k := 21) (i := x.toNat) (v := Z 37 t.toNat) (EQ.zs (k := 48) (i := 0) (v := 0) E rfl rfl) rfl rfl) rfl rfl) rfl rfl))))) rfl rfl) rfl rfl
  exact q.1
theorem zUnd_21 {m : Int} {t : Int} (h34 : Z 34 t.toNat = (r : Int)) : zUnd Z m t 21 r = Z 37 t.toNat ∧ zUnd Z m t 1 0 = Z 1 0 := by
  unfold zUnd
  rw [h34]
  refine ⟨zs_ne rfl (zs_ne rfl ?_), zs_ne rfl (zs_ne rfl ?_)⟩
  · unfold zUnd2 zUnd1 zUnd0
    rw [zUf_o rfl, zUf_o rfl, zUb_o rfl, zUb_o rfl]
    exact zs_ne rfl (zs_ne rfl (zs_eq (by omega) rfl))
  · rw [zUnd2_o rfl]
theorem UD.ver {k : Nat} (K' : QS Z) (V : V0 Z Y d w a b c e fc n2 M N) (hd : Z 1 0 + 1 = (d : Int)) (hd2 : d ≤ 10) (hn : Z 2 0 ≤ n2) (F : FG h g) (B : VB Z r) (h20 : Z 20 r = 0) (U : UD h Z k r) : UD g Y k r := by
  obtain ⟨u1, u2, u3, u4, u5⟩ := U
  have b1 := K'.b1
  have bv := B.v
  obtain ⟨x1, x2⟩ := zUnd_21 (m := (k : Int)) u2
  have uv := u5.v
  rw [x1, x2] at uv
  have eA : ∃ i : Nat, (i : Int) ≤ Z 1 0 ∧ zundA Z (Z 34 (Z 31 k).toNat) (Z 31 k) = (i : Int) := by
    rw [u2]
    unfold zundA
    rw [Int.toNat_natCast]
    split
    · exact ⟨(Z 21 r).toNat, by omega, by omega⟩
    · exact ⟨(Z 37 (Z 31 k).toNat).toNat, by omega, by omega⟩
  obtain ⟨i, hi, eA⟩ := eA
  have E : EQ Y Z (24 * Z 20 (Z 34 (Z 31 k).toNat).toNat + zundA Z (Z 34 (Z 31 k).toNat) (Z 31 k)) := by
    rw [eA, u2, Int.toNat_natCast, h20]
    obtain ⟨⟨s1, s2⟩, ⟨s3, s4⟩, s5, s6⟩ := V.st (v := i) (by omega) (by omega)
    refine ⟨V.o, by rw [ixp]; exact s1, fun u j hj => ?_⟩
    unfold zon
    rw [ixp, s1]
    rcases hj with rfl | rfl
    · rw [zfr0_n, zfr0_n, zbe0_n, zbe0_n, s3, s5]
    · rw [zfr1_n, zfr1_n, zbe1_n, zbe1_n, s4, s6]
  have q := zUnd_eq (m := (k : Int)) V.o E
  refine ⟨by rw [V.o 31 rfl, V.o 32 rfl]; exact u1, by rw [V.o 34 rfl, V.o 31 rfl]; exact u2, by rw [V.o 26 rfl, V.o 35 rfl, V.o 31 rfl]; exact u3, ?_, ?_⟩
  · rw [V.o 31 rfl]
    unfold LU zbxv at *
    rw [q 21 rfl, q 22 rfl, q 23 rfl, q 24 rfl, q 25 rfl]
    simp only [F.1.I (show ¬ ((10 : Nat) = 1 ∨ (10 : Nat) = 2 ∨ (10 : Nat) = 3 ∨ (10 : Nat) = 4) by decide), F.1.L (show ¬ ((11 : Nat) = 1 ∨ (11 : Nat) = 2 ∨ (11 : Nat) = 3 ∨ (11 : Nat) = 4) by decide)]
    exact u4
  · rw [V.o 31 rfl]
    have o : ∀ (X : ZT) j, (j == 1 || j == 2 || j == 3 || j == 7 || j == 8 || j == 9) = true → zUnd X (k : Int) (Z 31 k) j = X j := fun X j hj => by
      simp only [Bool.or_eq_true, beq_iff_eq] at hj
      unfold zUnd
      rcases hj with ((((rfl | rfl) | rfl) | rfl) | rfl) | rfl <;> rw [zs_oj rfl, zs_oj rfl, zUnd2_o rfl]
    exact V.vb K' hd hn (o Y) (o Z) q u5
theorem JV.ver (K' : QS Z) (V : V0 Z Y d w a b c e fc n2 M N) (hd : Z 1 0 + 1 = (d : Int)) (hd2 : d ≤ 10) (hn : Z 2 0 ≤ n2) (F : FG h g) (S : LSc g Y) (J : JV h Z) : JV g Y := by
  have ne : ∀ j : Nat, 5 ≤ j → ¬ (j = 1 ∨ j = 2 ∨ j = 3 ∨ j = 4) := fun j hj => by omega
  have m8 : ∀ i, hI g (la 8) i = hI h (la 8) i := F.1.I (ne 8 (by decide))
  refine ⟨S, ?_, ?_, fun r hr => ?_, ?_, fun r w h1 h2 h3 h4 => by rw [F.1.L (ne 7 (by decide))]; rw [V.o 19 rfl] at h1; exact J.fz r w h1 h2 h3 h4⟩
  · rw [F.2 2 (by decide), V.o 19 rfl]; exact J.2.1
  · rw [F.2 3 (by decide), V.o 28 rfl]; exact J.2.2.1
  · rw [V.o 19 rfl] at hr
    obtain ⟨R, B, h20⟩ := J.r hr
    have zr : zRw Y Z r := by
      unfold zRw
      rw [V.o 21 rfl, V.o 22 rfl, V.o 23 rfl, V.o 24 rfl, V.o 25 rfl]
      exact ⟨rfl, rfl, fun _ _ => rfl, fun _ _ => rfl, fun _ _ => rfl⟩
    exact ⟨(R.fl F.1 (ne 5 (by decide)) (ne 6 (by decide)) (ne 7 (by decide))).zr zr, V.vb K' hd hn (X := Y) (X' := Z) (fun _ _ => rfl) (fun _ _ => rfl) V.o B, by rw [V.o 20 rfl]; exact h20⟩
  · have U := J.m
    refine ⟨fun k hk => ?_, fun k k' hk hk' n => ?_⟩
    · rw [V.o 28 rfl] at hk
      rw [m8, m8, m8, V.o 30 rfl, V.o 29 rfl, V.o 31 rfl, V.o 19 rfl, V.hd.1]
      obtain ⟨u1, u2⟩ := U.1 k hk
      refine ⟨⟨u1.1, u1.2.1, u1.2.2.1, by omega⟩, u2.imp (fun z => z) (fun z => ⟨z.1, z.2.imp (fun y => y) (fun y => ⟨y.1, ?_⟩)⟩)⟩
      obtain ⟨-, B, h20⟩ := J.r (r := (hI h (la 8) (3 * k + 1)).toNat) (by omega)
      exact y.2.ver K' V hd hd2 hn F B h20
    · rw [V.o 28 rfl] at hk hk'
      rw [m8, m8, m8, m8]
      exact U.2 k k' hk hk' n
end D1
