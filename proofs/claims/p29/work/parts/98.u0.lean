/-! ===== the model stays sound, out of a call's code ===== -/
section U0
variable {h g : AH} {Z : ZT} {c c2 : Nat}
theorem cd2_x {a b : Prop} [Decidable a] [Decidable b] (e : cd2 a b = 0) : ¬ a ∧ ¬ b := cd2_0.mp (Int.not_lt.mpr (Int.le_of_eq e))
theorem cd3_x {a b d : Prop} [Decidable a] [Decidable b] [Decidable d] (e : cd3 a b d = 0) : ¬ a ∧ ¬ b ∧ ¬ d := cd3_0.mp (Int.not_lt.mpr (Int.le_of_eq e))
theorem nn {p : Prop} (k : ¬ ¬ p) : p := Classical.not_not.mp k
theorem atH_x (I : ZI Z) {s n : Int} (hx : ¬ zatH Z s n = -1) : ∃ t : Nat, s = (t : Int) ∧ (t : Int) < Z 0 0 ∧ t < 4 ∧ (0 ≤ zatH Z s n ∧ zatH Z s n < Z 2 t) ∧ zatH Z s n < 46 ∧ Z 5 (48 * (24 * t + (Z 1 t).toNat) + (zatH Z s n).toNat) = n ∧ (0 ≤ n ∧ n ≤ 25) ∧ 0 ≤ Z 1 t ∧ Z 1 t ≤ 23 := by
  rcases zatH_rng I.1.1.1 (s := s) (n := n) with z | ⟨s0, s1, s4, sf, f0, f1, f46⟩
  · exact absurd z hx
  obtain ⟨t, rfl⟩ := Int.eq_ofNat_of_zero_le s0
  rw [Int.toNat_natCast] at f1 sf
  have b := I.1.1.1.2 t (by omega)
  rcases zfind_rng (Z := Z) (s := (t : Int)) (a := Z 1 t) (n := n) (by rw [Int.toNat_natCast]; omega) with q | ⟨-, -, q3, q4, q5⟩
  · exact absurd (sf.trans q) hx
  · rw [← sf] at q3
    refine ⟨t, rfl, s1, by omega, ⟨f0, f1⟩, f46, ?_, ⟨q4, q5⟩, by omega, by omega⟩
    exact (congrArg (Z 5) (by omega)).trans q3
theorem hd_x {t : Nat} (b : 0 ≤ Z 1 t ∧ Z 1 t ≤ 23) (e : ¬ Z 1 t = 23) : ∃ d : Nat, Z 1 t + 1 = (d : Int) ∧ d < 24 := ⟨(Z 1 t + 1).toNat, by omega, by omega⟩
theorem zi_add {s n hw v nd : Int} (I : ZI Z) (S : SIM h Z c) (e : zcAdd Z s n hw v = 0) (hnd : nd = 0 ∨ nd = 1) (S' : SIM g (zAdd Z s n hw v nd) c2) : ZI (zAdd Z s n hw v nd) := by
  obtain ⟨A, S⟩ := S
  obtain ⟨A2, S'⟩ := S'
  obtain ⟨x1, x2, x3⟩ := cd3_x e
  have hs := nn x1
  have x2 := nn x2
  obtain ⟨s, rfl⟩ := Int.eq_ofNat_of_zero_le hs.1
  have b1 := (S.sc hs.2).2.1.b1
  obtain ⟨d, hd, hd2⟩ := hd_x b1 (fun z => x3 (Or.inr (by rw [Int.toNat_natCast]; exact z)))
  exact I.add S S' hs.2 hd hd2 x2.2.1 x2.1 hnd
theorem zi_ren {s n o : Int} (I : ZI Z) (S : SIM h Z c) (e : zcRen Z s n o = 0) (S' : SIM g (zRen Z s n o) c2) : ZI (zRen Z s n o) := by
  obtain ⟨A, S⟩ := S
  obtain ⟨A2, S'⟩ := S'
  obtain ⟨x1, x2, x3⟩ := cd3_x e
  obtain ⟨s, rfl, s0, s4, f1, f2, f3, f4, b1⟩ := atH_x I x1
  obtain ⟨d, hd, hd2⟩ := hd_x b1 (fun z => x3 (Or.inr (by rw [Int.toNat_natCast]; exact z)))
  refine I.ren S S' s0 hd hd2 rfl f1 ?_ (nn x2)
  rw [show d - 1 = (Z 1 s).toNat by omega, f3]; omega
theorem zi_tog {s n : Int} (I : ZI Z) (S : SIM h Z c) (e : zcTog Z s n = 0) (S' : SIM g (zTog Z s n) c2) : ZI (zTog Z s n) := by
  obtain ⟨A, S⟩ := S
  obtain ⟨A2, S'⟩ := S'
  obtain ⟨x1, x2⟩ := cd2_x e
  obtain ⟨s, rfl, s0, s4, f1, f2, f3, f4, b1⟩ := atH_x I x1
  obtain ⟨d, hd, hd2⟩ := hd_x b1 (fun z => x2 (by rw [Int.toNat_natCast]; exact z))
  exact I.tog S S' s0 hd hd2 rfl f1
theorem zi_tur {s n hw : Int} (I : ZI Z) (S : SIM h Z c) (e : zcTur Z s n hw = 0) (S' : SIM g (zTur Z s n hw) c2) : ZI (zTur Z s n hw) := by
  obtain ⟨A, S⟩ := S
  obtain ⟨A2, S'⟩ := S'
  obtain ⟨x1, x2, x3⟩ := cd3_x e
  obtain ⟨s, rfl, s0, s4, f1, f2, f3, f4, b1⟩ := atH_x I x1
  obtain ⟨d, hd, hd2⟩ := hd_x b1 (fun z => x3 (Or.inr (Or.inr (by rw [Int.toNat_natCast]; exact z))))
  exact I.tur S S' s0 hd hd2 rfl f1 (nn x2) (by omega)
theorem fre_x {s f : Int} {t : Nat} (e : ¬ zfre Z s f = 0) (es : s = (t : Int)) : ¬ Z 1 t = 23 := by
  subst es
  have := (bz_n0.mp e).2.2
  rwa [Int.toNat_natCast] at this
theorem zi_spl {s n o1 o2 dv : Int} (I : ZI Z) (S : SIM h Z c) (e : zcSpl Z s n o1 o2 dv = 0) (S' : SIM g (zSpl Z s n o1 o2 dv) c2) : ZI (zSpl Z s n o1 o2 dv) := by
  obtain ⟨A, S⟩ := S
  obtain ⟨A2, S'⟩ := S'
  obtain ⟨x1, x2, x3⟩ := cd3_x e
  have x2 := nn x2
  obtain ⟨s, rfl, s0, s4, f1, f2, f3, f4, b1⟩ := atH_x I x1
  obtain ⟨d, hd, hd2⟩ := hd_x b1 (fre_x (fun z => x3 (Or.inl z)) rfl)
  exact I.spl S S' s0 hd hd2 rfl f1 x2.1 x2.2.1
theorem zi_joi {s n o1 o2 dv : Int} (I : ZI Z) (S : SIM h Z c) (e : zcJoi Z s o1 o2 n dv = 0) (S' : SIM g (zJoi Z s o1 o2 n dv) c2) : ZI (zJoi Z s o1 o2 n dv) := by
  obtain ⟨A, S⟩ := S
  obtain ⟨A2, S'⟩ := S'
  obtain ⟨x1, x2, x3⟩ := cd3_x e
  have x2 := nn x2
  obtain ⟨s, rfl, s0, s4, f1, f2, f3, f4, b1⟩ := atH_x I (fun z => x1 (Or.inl z))
  obtain ⟨t, et, t0, t4, g1, g2, g3, g4, -⟩ := atH_x I (fun z => x1 (Or.inr z))
  have et : t = s := by omega
  subst et
  obtain ⟨d, hd, hd2⟩ := hd_x b1 (fre_x (fun z => x3 (Or.inl z)) rfl)
  exact I.joi S S' s0 hd hd2 rfl f1 rfl g1 x2.2.2 x2.1
theorem zi_dro {s n : Int} (I : ZI Z) (S : SIM h Z c) (e : zcDro Z s n = 0) (S' : SIM g (zdo (zs Z 48 0 0) s (zatH Z s n)) c2) : ZI (zdo (zs Z 48 0 0) s (zatH Z s n)) := by
  obtain ⟨A, S⟩ := S
  obtain ⟨A2, S'⟩ := S'
  obtain ⟨x1, x2⟩ := cd2_x e
  obtain ⟨s, rfl, s0, s4, f1, f2, f3, f4, b1⟩ := atH_x I x1
  obtain ⟨d, hd, hd2⟩ := hd_x b1 (fun z => x2 (Or.inr (by rw [Int.toNat_natCast]; exact z)))
  exact I.dro S S' s0 hd hd2 f1
theorem zi_wt {s n : Int} (I : ZI Z) (e : zcDro Z s n = 0) (S' : SIM g (zs (zs (zs Z 48 0 0) 12 (48 * s + Z 11 s.toNat).toNat (zatH Z s n)) 11 s.toNat (Z 11 s.toNat + 1)) c2) : ZI (zs (zs (zs Z 48 0 0) 12 (48 * s + Z 11 s.toNat).toNat (zatH Z s n)) 11 s.toNat (Z 11 s.toNat + 1)) := by
  obtain ⟨A2, S'⟩ := S'
  obtain ⟨x1, x2⟩ := cd2_x e
  obtain ⟨s, rfl, s0, s4, f1, f2, f3, f4, b1⟩ := atH_x I x1
  rw [Int.toNat_natCast] at *
  exact I.wt S' s0 ⟨f1.1, by omega⟩
theorem zi_for {s : Int} (I : ZI Z) (e : cd2 (¬ (0 ≤ s ∧ s < Z 0 0)) (Z 13 0 = 8) = 0) : ZI (zFor Z s) := by
  obtain ⟨x1, x2⟩ := cd2_x e
  have x1 := nn x1
  obtain ⟨s, rfl⟩ := Int.eq_ofNat_of_zero_le x1.1
  exact I.for x1.2 x2
theorem inF_x (I : ZI Z) {q n : Int} (hx : ¬ zinF Z q n = -1) : ∃ k : Nat, q = (k : Int) ∧ (k : Int) < Z 13 0 ∧ k < 8 ∧ (0 ≤ zinF Z q n ∧ zinF Z q n < 46) ∧ (0 ≤ Z 15 k ∧ Z 15 k ≤ 23) := by
  rcases zinF_rng I.1.1 (g := q) (n := n) with z | ⟨⟨a1, a2, a3⟩, -, ⟨b1, -, b3⟩, c1, -, c3⟩
  · exact absurd z hx
  obtain ⟨k, rfl⟩ := Int.eq_ofNat_of_zero_le a1
  rw [Int.toNat_natCast] at b1 b3
  exact ⟨k, rfl, a3, by omega, ⟨c1, c3⟩, b1, b3⟩
theorem zi_tak {q n w : Int} (I : ZI Z) (hw : w = 0 ∨ w = 1) (e : zcTak Z q n = 0) : ZI (zTak Z q n w) := by
  obtain ⟨x1, x2⟩ := cd2_x e
  obtain ⟨k, rfl, k0, k8, f1, -⟩ := inF_x I x1
  exact I.tak k0 ⟨f1.1, by omega⟩ hw
theorem for_own (S : SIM h Z c) {k : Nat} (hk : (k : Int) < Z 13 0) : ∃ s : Nat, (Z 14 (k : Int).toNat) = (s : Int) ∧ (s : Int) < Z 0 0 := by
  obtain ⟨A, S⟩ := S
  have F2 := (S.2.2.2.1 k hk).2.1
  rw [Int.toNat_natCast]
  exact ⟨(Z 14 k).toNat, by omega, by omega⟩
theorem zi_let {q n : Int} (I : ZI Z) (S : SIM h Z c) (e : zcLet Z q n = 0) (S' : SIM g (zla (zLet0 Z q n) (Z 14 q.toNat)) c2) : ZI (zla (zLet0 Z q n) (Z 14 q.toNat)) := by
  have x := nn (bz_0.mp e)
  obtain ⟨k, rfl, k0, k8, f1, -⟩ := inF_x I x.1
  obtain ⟨s, es, hs⟩ := for_own S k0
  obtain ⟨A2, S'⟩ := S'
  rw [es] at S' ⊢
  exact (I.let0 k0 ⟨f1.1, by omega⟩).la S' hs
theorem zi_ret {q : Int} (I : ZI Z) (S : SIM h Z c) (e : zcRet Z q = 0) (S' : SIM g (zla (zRet0 Z q) (Z 14 q.toNat)) c2) : ZI (zla (zRet0 Z q) (Z 14 q.toNat)) := by
  obtain ⟨x1, x2⟩ := cd2_x e
  have x1 := nn x1
  obtain ⟨k, rfl⟩ := Int.eq_ofNat_of_zero_le x1.1
  have k0 : (k : Int) < Z 13 0 := by omega
  obtain ⟨s, es, hs⟩ := for_own S k0
  obtain ⟨A2, S'⟩ := S'
  rw [es] at S' ⊢
  exact (I.ret0 k0).la S' hs
theorem zi_rnw {q : Int} (I : ZI Z) (S : SIM h Z c) (e : zcRet Z q = 0) (S' : SIM g (zla (zRnw0 Z q) (Z 14 q.toNat)) c2) : ZI (zla (zRnw0 Z q) (Z 14 q.toNat)) := by
  obtain ⟨x1, x2⟩ := cd2_x e
  have x1 := nn x1
  obtain ⟨k, rfl⟩ := Int.eq_ofNat_of_zero_le x1.1
  have k0 : (k : Int) < Z 13 0 := by omega
  have z13 := I.1.1.2.2.2.1.1
  obtain ⟨s, es, hs⟩ := for_own S k0
  obtain ⟨A2, S'⟩ := S'
  rw [es] at S' ⊢
  exact (I.rnw0 k0 (by have := (I.1.1.2.2.2.1.2 k (by omega)).2.2; exact ⟨this.1, this.2⟩)).la S' hs
theorem row_x (S : SIM h Z c) {r : Int} (h0 : 0 ≤ r ∧ r ≤ Z 19 0 - 1) : ∃ k s : Nat, r = (k : Int) ∧ (k : Int) < Z 19 0 ∧ k < 20 ∧ Z 20 k = (s : Int) ∧ (s : Int) < Z 0 0 ∧ (0 ≤ Z 21 k ∧ Z 21 k ≤ Z 1 s) ∧ Z 1 s ≤ 23 := by
  obtain ⟨A, S⟩ := S
  have z19 := S.c19
  obtain ⟨k, rfl⟩ := Int.eq_ofNat_of_zero_le h0.1
  have Rr := S.2.2.2.2.1 k (by omega)
  have r2 := Rr.2.1
  obtain ⟨s, es⟩ := Int.eq_ofNat_of_zero_le r2.1
  have hs : (s : Int) < Z 0 0 := by omega
  have r3 := Rr.2.2.1.1
  rw [es, Int.toNat_natCast] at r3
  exact ⟨k, s, rfl, by omega, by omega, es, hs, r3.2, (S.sc hs).2.1.b1.2⟩
theorem zi_see {r v : Int} (I : ZI Z) (S : SIM h Z c) (h0 : 0 ≤ r ∧ r ≤ Z 19 0 - 1) (hv : 0 ≤ v ∧ v ≤ 23) (S' : SIM g (zsee (zs Z 48 0 0) r v) c2) : ZI (zsee (zs Z 48 0 0) r v) := by
  obtain ⟨k, s, rfl, k0, k20, es, hs, r3, b1⟩ := row_x S h0
  obtain ⟨A2, S'⟩ := S'
  exact I.see S' k20 (by omega) hv
theorem zi_rea {q r n : Int} (I : ZI Z) (S : SIM h Z c) (e : zcRea Z q r n = 0) (S' : SIM g (zsee (zs Z 48 0 0) r (Z 15 q.toNat)) c2) : ZI (zsee (zs Z 48 0 0) r (Z 15 q.toNat)) := by
  obtain ⟨x1, x2⟩ := cd2_x e
  have x1 := bz_n0.mp x1
  obtain ⟨k, rfl, k0, k8, f1, f2⟩ := inF_x I x1.1.1
  rw [Int.toNat_natCast] at S' ⊢
  exact zi_see I S x1.2 f2 S'
theorem zi_val {r v n : Int} (I : ZI Z) (S : SIM h Z c) (e : ¬ zcVal Z r v n = -1) (S' : SIM g (zsee (zs Z 48 0 0) r v) c2) : ZI (zsee (zs Z 48 0 0) r v) := by
  unfold zcVal at e
  split at e
  · next x =>
    obtain ⟨k, s, rfl, k0, k20, es, hs, r3, b1⟩ := row_x S x.1
    rw [Int.toNat_natCast, es, Int.toNat_natCast] at x
    exact zi_see I S x.1 ⟨x.2.2.1, by omega⟩ S'
  · exact absurd rfl e
theorem zi_wri {q r n x : Int} (I : ZI Z) (S : SIM h Z c) (e : zcWri Z q r n x = 0) (S' : SIM g (zWri (zs Z 48 0 0) q r n x) c2) : ZI (zWri (zs Z 48 0 0) q r n x) := by
  obtain ⟨x1, x2, x3⟩ := cd3_x e
  have x1 := bz_n0.mp x1
  obtain ⟨k, rfl, k0, k8, f1, f2⟩ := inF_x I x1.1.1
  obtain ⟨k', s, rfl, r0, k20, es, hs, r3, b1⟩ := row_x S x1.2
  obtain ⟨A2, S'⟩ := S'
  obtain ⟨F, eF⟩ := Int.eq_ofNat_of_zero_le f1.1
  have eF2 : zinF (zs Z 48 0 0) (k : Int) n = (F : Int) := (zinF_c (Z := Z) (Z' := zs Z 48 0 0) (zs_oj rfl) (zs_oj rfl) (zs_oj rfl) (zs_oj rfl) (zs_oj rfl)).trans eF
  have eW : zWri (zs Z 48 0 0) (k : Int) (k' : Int) n x = zcnt (zcpy (zmt (zs (zsee (zs Z 48 0 0) (k' : Int) (Z 15 k)) 22 (48 * 20 + (F : Int).toNat) x) ((20 : Nat) : Int) (s : Int) (Z 21 k')) 20 k') (k' : Int) := by
    unfold zWri zWri2 zWri1
    rw [eF2, Int.toNat_natCast, Int.toNat_natCast, show zs Z 48 0 0 20 k' = (s : Int) from es, show zs Z 48 0 0 15 k = Z 15 k from rfl, show zs Z 48 0 0 21 k' = Z 21 k' from rfl, Int.toNat_natCast, show (960 + (F : Int)).toNat = 48 * 20 + F by omega]
    rfl
  rw [eW] at S' ⊢
  exact I.wri r0 k20 (by omega) f2 (by omega) ⟨by omega, by omega⟩ S'
theorem zi_ver {s t : Int} {p : Prop} [Decidable p] (S : SIM h Z c) (e : zcVer Z s t p = 0) : ∃ s' t' : Nat, s = (s' : Int) ∧ t = (t' : Int) ∧ (s' : Int) < Z 0 0 ∧ (t' : Int) ≤ Z 1 s' ∧ ¬ p := by
  obtain ⟨x1, x2⟩ := cd2_x e
  have x1 := nn x1
  obtain ⟨s, rfl⟩ := Int.eq_ofNat_of_zero_le x1.1.1
  obtain ⟨t, rfl⟩ := Int.eq_ofNat_of_zero_le x1.2.1
  exact ⟨s, t, rfl, rfl, x1.1.2, by have := x1.2.2; rwa [Int.toNat_natCast] at this, x2⟩
theorem zi_row {s t : Int} (I : ZI Z) (S : SIM h Z c) (hc : c < 512) (e : zcVer Z s t (Z 19 0 = 20) = 0) : ZI (zRow Z s t) := by
  obtain ⟨s, t, rfl, rfl, h1, h2, h3⟩ := zi_ver S e
  obtain ⟨A, S⟩ := S
  exact I.row S hc h1 h2 h3
theorem zi_mov {s t : Int} (I : ZI Z) (S : SIM h Z c) (e : zcVer Z s t (Z 28 0 = 8) = 0) : ZI (zMov Z s t) := by
  obtain ⟨s, t, rfl, rfl, h1, h2, h3⟩ := zi_ver S e
  exact I.mov h1 (by omega) h3
theorem zi_set {r n x : Int} (I : ZI Z) (e : zcSet Z r n x = 0) (S' : SIM g (zSet Z r n x) c2) : ZI (zSet Z r n x) := by
  obtain ⟨x1, x2⟩ := cd2_x e
  obtain ⟨A2, S'⟩ := S'
  rcases zinR_rng I.1.1 I.1.2.1 (r := r) (n := n) with z | ⟨⟨a1, a2, a3⟩, -, -, c1, -, c3⟩
  · exact absurd z x1
  obtain ⟨k, rfl⟩ := Int.eq_ofNat_of_zero_le a1
  exact I.set S' a3 ⟨c1, by omega⟩
theorem zi_und {m : Int} (I : ZI Z) (S : SIM h Z c) (hc : c2 ≤ 512) (e : zcUnd Z m = 0) (S' : SIM g (zUnd Z m (Z 31 m.toNat)) c2) : ZI (zUnd Z m (Z 31 m.toNat)) := by
  obtain ⟨A, S⟩ := S
  obtain ⟨A2, S'⟩ := S'
  obtain ⟨x1, x2⟩ := cd2_x e
  have x1 := nn x1
  obtain ⟨m, rfl⟩ := Int.eq_ofNat_of_zero_le x1.1
  rw [Int.toNat_natCast] at *
  obtain ⟨WM, m1, m2, m3, m4⟩ := S.2.2.2.2.2.1 m (by omega)
  obtain ⟨t, et⟩ := Int.eq_ofNat_of_zero_le (a := Z 31 m) (by have : ¬ Z 31 m = -1 := fun z => x2 (Or.inl z); omega)
  rw [et] at S' m4 ⊢
  rw [et, Int.toNat_natCast] at x2
  have ht : (t : Int) < Z 32 0 := m4.2
  have KKt := S.2.2.2.2.2.2 t ht
  have k2 := KKt.2.1
  obtain ⟨r, er⟩ := Int.eq_ofNat_of_zero_le k2.1
  have hr : (r : Int) < Z 19 0 := by omega
  rw [er, Int.toNat_natCast] at x2
  have LLr := (S.2.2.2.2.1 r hr).2.2.2.2.2.1
  have el := (LLr t ht er).mp (nn (fun z => x2 (Or.inr z)))
  exact I.und S S' hc (by omega) ht er hr el
theorem zi_stp {m : Int} (I : ZI Z) (S : SIM h Z c) (hc : c < 512) (hc2 : c2 ≤ 512) (e : zcStp Z m = 0) (S' : SIM g (zStp Z (znx Z m) m) c2) : ZI (zStp Z (znx Z m) m) := by
  obtain ⟨A, S⟩ := S
  obtain ⟨A2, S'⟩ := S'
  obtain ⟨x1, x2⟩ := cd2_x e
  have x1 := nn x1
  obtain ⟨m, rfl⟩ := Int.eq_ofNat_of_zero_le x1.1
  have z32 := S.c32
  have z19 := S.c19
  have hm : (m : Int) < Z 28 0 := by omega
  obtain ⟨WM, m1, m2, m3, m4⟩ := S.2.2.2.2.2.1 m hm
  have hX := znxA_rng (Z := Z) (m := (m : Int)) (Z 19 0).toNat
  obtain ⟨y1, y2, y3, y4⟩ := hX.resolve_left x2
  rw [show znxA Z (m : Int) (Z 19 0).toNat = znx Z (m : Int) from rfl] at y1 y2 y3 y4
  generalize eX : znx Z (m : Int) = xr at *
  obtain ⟨r, rfl⟩ := Int.eq_ofNat_of_zero_le y1
  rw [Int.toNat_natCast, Int.toNat_natCast] at y3
  obtain ⟨k, em⟩ := Int.eq_ofNat_of_zero_le z32.1
  have hr : (r : Int) < Z 19 0 := by omega
  have Rr := S.2.2.2.2.1 r hr
  have r2 := Rr.2.1
  obtain ⟨s, es⟩ := Int.eq_ofNat_of_zero_le r2.1
  have hs : (s : Int) < Z 0 0 := by omega
  have b1 := (S.sc hs).2.1.b1
  have r3 := Rr.2.2.1.1
  have Mm := (I.1.2.2.2.1.2 m (by have := S.c28; omega)).2.2
  rw [← y3] at Mm
  rw [es, Int.toNat_natCast] at r3 Mm
  obtain ⟨v, ev⟩ := Int.eq_ofNat_of_zero_le (a := zstA' Z (r : Int) (m : Int)) (by unfold zstA'; rw [Int.toNat_natCast, Int.toNat_natCast]; split <;> omega)
  have hv : 1 ≤ v ∧ (v : Int) ≤ Z 1 s := by
    rw [← Int.ofNat_le, ← ev]
    unfold zstA'
    unfold zoff at y4
    rw [Int.toNat_natCast, Int.toNat_natCast] at *
    (repeat' split at y4) <;> split <;> omega
  exact I.stp S S' hc hc2 em hr hm ev es hv rfl
end U0
