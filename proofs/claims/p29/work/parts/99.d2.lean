/-! ===== what the class answers to a step, and what is then known ===== -/
section D2
variable {Q : AH → AO → Prop} {h g h1 : AH} {Z Y : ZT} {c b L d : Nat} {w a b' c' e fc n2 W : Int} {M N D K : Nat → Int}
theorem IV.wt (J : IV L h Z c b) (f : Int) : zwt Z 0 f = 0 := by
  unfold zwt
  rw [show Z 11 (0 : Int).toNat = 0 from J.z11]
  rfl
theorem IV.hu (J : IV L h Z c b) (f : Int) : zhu Z 0 f = 0 := by
  unfold zhu
  rw [J.z13]
  rfl
theorem IV.at0 (J : IV L h Z c b) (n : Int) : zatH Z 0 n = zfind Z 0 (Z 1 0) n := by
  unfold zatH
  rw [if_pos ⟨by decide, by rw [J.z0]; decide⟩]
  rfl
/-- a version more: the law's arrays and the class have both gone on -/
theorem VS.go (J : IV L h Z c b) (V : JV h Z) (F : FG h h1) (C : LC h1 Z d D W n2 K) (hd : Z 1 0 + 1 = (d : Int)) (hd2 : d ≤ 10) (hn : Z 2 0 ≤ n2) (hn2 : n2 ≤ 10) (E : VS Z Y 0 d w a b' c' e fc n2 M N) (eD : ∀ f : Nat, f < 10 → D f = if M f = -1 then 0 else M f + 1 + (if N f = 0 then 0 else 32))
    (eW : W = w + 8 * (a + 1) + 128 * (b' + 1) + 2048 * (c' + 1) + 32768 * (e + 1) + 524288 * (if w = 3 ∨ w = 4 then fc else 0)) (eK : ∀ f : Nat, Z 2 0 ≤ (f : Int) → (f : Int) < n2 → K f = Y 3 f + 3 * Y 4 f)
    (x1 : w = 3 ∨ w = 4 → 1 ≤ fc ∧ fc ≤ 100) (x2 : w = 3 → Y 3 a.toNat = 0 ∧ Y 3 c'.toNat = 0 ∧ Y 3 e.toNat = 0) (x3 : w = 4 → Y 3 a.toNat = 0 ∧ Y 3 b'.toNat = 0 ∧ Y 3 c'.toNat = 0)
    (S : SIM g Y c) (I : ZI Y) (Fr : Fr nMo h1 g) : IV L g Y c b ∧ JV g Y := by
  have V0 := E.v0
  have K' := J.K
  have J1 : IV L h1 Z c b := J.fl F.1
  refine ⟨J1.go Fr S I ⟨by rw [V0.o 0 rfl]; exact J.z0, by rw [V0.o 13 rfl]; exact J.z13, by rw [V0.o 11 rfl]; exact J.z11, J.lb.o (V0.o 23 rfl) (V0.o 38 rfl) (Nat.le_refl _)⟩ (V0.qx K' hd hd2 hn2 x1 x2 x3), ?_⟩
  exact (V.ver K' V0 hd hd2 hn F (V0.sc K' C hd hd2 hn2 eD eW eK)).as (la_mo Fr)
theorem q_add (J : IV L h Z c b) {n kd v nd : Int} (hnd : nd = 0 ∨ nd = 1) (kA : ¬ ((0 ≤ n ∧ n ≤ 25) ∧ (0 ≤ kd ∧ kd ≤ 2) ∧ 0 ≤ v ∧ v ≤ zmost kd) → Q h (.inl (some (vi (-200))))) (kS : ((0 ≤ n ∧ n ≤ 25) ∧ (0 ≤ kd ∧ kd ≤ 2) ∧ 0 ≤ v ∧ v ≤ zmost kd) → ¬ zfind Z 0 (Z 1 0) n = -1 → Q h (.inl (some (vi (-100)))))
    (k0 : ((0 ≤ n ∧ n ≤ 25) ∧ (0 ≤ kd ∧ kd ≤ 2) ∧ 0 ≤ v ∧ v ≤ zmost kd) → zfind Z 0 (Z 1 0) n = -1 → ∀ g, SIM g (zAdd Z 0 n kd v nd) c → ZI (zAdd Z 0 n kd v nd) → Fr nMo h g → Q g (.inl (some (vi (Z 2 0))))) : AC mL_does fL_does loL_does 8 40 h [vr mF, vi 0, vi 0, vi n, vi kd, vi v, vi nd] Q := by
  have b1 := J.K.b1
  have a0 := J.at0 n
  have s0 : ¬ ¬ ((0 : Int) ≤ 0 ∧ (0 : Int) < Z 0 0) := fun z => z ⟨by decide, by rw [J.z0]; decide⟩
  have h23 : ¬ Z 1 (0 : Int).toNat = 23 := by show ¬ Z 1 0 = 23; omega
  have en : (if ¬ nd = 1 then (0 : Int) else 1) = nd := by split <;> omega
  refine kL_does_add J.F ?_
  rw [en]
  by_cases hr : (0 ≤ n ∧ n ≤ 25) ∧ (0 ≤ kd ∧ kd ≤ 2) ∧ 0 ≤ v ∧ v ≤ zmost kd
  · by_cases hz : zfind Z 0 (Z 1 0) n = -1
    · have e : zcAdd Z 0 n kd v = 0 := cd3_z s0 (fun z => z hr) (fun z => z.elim (fun z => z (a0.trans hz)) h23)
      exact sX7_add J.S J.I.1 hnd (fun z => by rw [e] at z; cases z) (fun z => by rw [e] at z; cases z) (fun z => by rw [e] at z; cases z) (fun _ g S F => k0 hr hz g S (zi_add J.I J.S e hnd S) F)
    · have e : zcAdd Z 0 n kd v = 3 := cd3_3 s0 (fun z => z hr) (Or.inl (by rw [a0]; exact hz))
      exact sX7_add J.S J.I.1 hnd (fun z => by rw [e] at z; cases z) (fun z => by rw [e] at z; cases z) (fun _ => ⟨-100, by decide, kS hr hz⟩) (fun z => by rw [e] at z; cases z)
  · have e : zcAdd Z 0 n kd v = 2 := cd3_2 s0 hr
    exact sX7_add J.S J.I.1 hnd (fun z => by rw [e] at z; cases z) (fun _ => ⟨-200, by decide, kA hr⟩) (fun z => by rw [e] at z; cases z) (fun z => by rw [e] at z; cases z)
theorem q_ren (J : IV L h Z c b) {n o x4 x5 : Int} (kX : zfind Z 0 (Z 1 0) n = -1 → Q h (.inl (some (vi (-300))))) (kA : ¬ zfind Z 0 (Z 1 0) n = -1 → ¬ (0 ≤ o ∧ o ≤ 25) → Q h (.inl (some (vi (-200))))) (kS : ¬ zfind Z 0 (Z 1 0) n = -1 → (0 ≤ o ∧ o ≤ 25) → ¬ zfind Z 0 (Z 1 0) o = -1 → Q h (.inl (some (vi (-100)))))
    (k0 : ¬ zfind Z 0 (Z 1 0) n = -1 → (0 ≤ o ∧ o ≤ 25) → zfind Z 0 (Z 1 0) o = -1 → ∀ g, SIM g (zRen Z 0 n o) c → ZI (zRen Z 0 n o) → Fr nMo h g → Q g (.inl (some (vi (Z 1 0 + 1))))) : AC mL_does fL_does loL_does 8 40 h [vr mF, vi 1, vi 0, vi n, vi o, vi x4, vi x5] Q := by
  have b1 := J.K.b1
  have a0 := J.at0 n
  have a1 := J.at0 o
  have h23 : ¬ Z 1 (0 : Int).toNat = 23 := by show ¬ Z 1 0 = 23; omega
  refine kL_does_rename J.F ?_
  by_cases hn : zfind Z 0 (Z 1 0) n = -1
  · have e : zcRen Z 0 n o = 1 := cd3_1 (a0.trans hn)
    exact sX7_rename J.S J.I.1 (fun _ => ⟨-300, by decide, kX hn⟩) (fun z => by rw [e] at z; cases z) (fun z => by rw [e] at z; cases z) (fun z => by rw [e] at z; cases z)
  · have hn' : ¬ zatH Z 0 n = -1 := by rw [a0]; exact hn
    by_cases hr : 0 ≤ o ∧ o ≤ 25
    · by_cases hz : zfind Z 0 (Z 1 0) o = -1
      · have e : zcRen Z 0 n o = 0 := cd3_z hn' (fun z => z hr) (fun z => z.elim (fun z => z (a1.trans hz)) h23)
        exact sX7_rename J.S J.I.1 (fun z => by rw [e] at z; cases z) (fun z => by rw [e] at z; cases z) (fun z => by rw [e] at z; cases z) (fun _ g S F => k0 hn hr hz g S (zi_ren J.I J.S e S) F)
      · have e : zcRen Z 0 n o = 3 := cd3_3 hn' (fun z => z hr) (Or.inl (by rw [a1]; exact hz))
        exact sX7_rename J.S J.I.1 (fun z => by rw [e] at z; cases z) (fun z => by rw [e] at z; cases z) (fun _ => ⟨-100, by decide, kS hn hr hz⟩) (fun z => by rw [e] at z; cases z)
    · have e : zcRen Z 0 n o = 2 := cd3_2 hn' hr
      exact sX7_rename J.S J.I.1 (fun z => by rw [e] at z; cases z) (fun _ => ⟨-200, by decide, kA hn hr⟩) (fun z => by rw [e] at z; cases z) (fun z => by rw [e] at z; cases z)
theorem q_tur (J : IV L h Z c b) {n o x4 x5 : Int} (kX : zfind Z 0 (Z 1 0) n = -1 → Q h (.inl (some (vi (-300))))) (kA : ¬ zfind Z 0 (Z 1 0) n = -1 → ¬ (0 ≤ o ∧ o ≤ 2) → Q h (.inl (some (vi (-200))))) (kS : ¬ zfind Z 0 (Z 1 0) n = -1 → (0 ≤ o ∧ o ≤ 2) → Z 3 (zfind Z 0 (Z 1 0) n).toNat = o → Q h (.inl (some (vi (-100)))))
    (k0 : ¬ zfind Z 0 (Z 1 0) n = -1 → (0 ≤ o ∧ o ≤ 2) → ¬ Z 3 (zfind Z 0 (Z 1 0) n).toNat = o → ∀ g, SIM g (zTur Z 0 n o) c → ZI (zTur Z 0 n o) → Fr nMo h g → Q g (.inl (some (vi (Z 2 0))))) : AC mL_does fL_does loL_does 8 40 h [vr mF, vi 2, vi 0, vi n, vi o, vi x4, vi x5] Q := by
  have b1 := J.K.b1
  have a0 := J.at0 n
  have ef : (48 * 0 + zatH Z 0 n).toNat = (zfind Z 0 (Z 1 0) n).toNat := by rw [a0]; omega
  have h23 : ¬ Z 1 (0 : Int).toNat = 23 := by show ¬ Z 1 0 = 23; omega
  refine kL_does_turn J.F ?_
  by_cases hn : zfind Z 0 (Z 1 0) n = -1
  · have e : zcTur Z 0 n o = 1 := cd3_1 (a0.trans hn)
    exact sX7_turn J.S J.I.1 (fun _ => ⟨-300, by decide, kX hn⟩) (fun z => by rw [e] at z; cases z) (fun z => by rw [e] at z; cases z) (fun z => by rw [e] at z; cases z)
  · have hn' : ¬ zatH Z 0 n = -1 := by rw [a0]; exact hn
    by_cases hr : 0 ≤ o ∧ o ≤ 2
    · by_cases hz : Z 3 (zfind Z 0 (Z 1 0) n).toNat = o
      · have e : zcTur Z 0 n o = 3 := cd3_3 hn' (fun z => z hr) (Or.inl (by rw [ef]; exact hz))
        exact sX7_turn J.S J.I.1 (fun z => by rw [e] at z; cases z) (fun z => by rw [e] at z; cases z) (fun _ => ⟨-100, by decide, kS hn hr hz⟩) (fun z => by rw [e] at z; cases z)
      · have e : zcTur Z 0 n o = 0 := cd3_z hn' (fun z => z hr) (fun z => z.elim (fun z => hz (by rw [ef] at z; exact z)) (fun z => z.elim (fun z => z (J.wt _)) h23))
        exact sX7_turn J.S J.I.1 (fun z => by rw [e] at z; cases z) (fun z => by rw [e] at z; cases z) (fun z => by rw [e] at z; cases z) (fun _ g S F => k0 hn hr hz g S (zi_tur J.I J.S e S) F)
    · have e : zcTur Z 0 n o = 2 := cd3_2 hn' hr
      exact sX7_turn J.S J.I.1 (fun z => by rw [e] at z; cases z) (fun _ => ⟨-200, by decide, kA hn hr⟩) (fun z => by rw [e] at z; cases z) (fun z => by rw [e] at z; cases z)
theorem zfre_0 (J : IV L h Z c b) {f : Int} : ¬ zfre Z 0 f = 0 ↔ Z 3 f.toNat = 0 := by
  have b1 := J.K.b1
  unfold zfre
  rw [show (48 * 0 + f).toNat = f.toNat by omega, J.wt, show Z 1 (0 : Int).toNat = Z 1 0 from rfl]
  constructor
  · intro z; exact (bz_n0.mp z).1
  · intro z; exact bz_n0.mpr ⟨z, rfl, by omega⟩
theorem q_spl (J : IV L h Z c b) {n o1 o2 dv : Int} (kX : zfind Z 0 (Z 1 0) n = -1 → Q h (.inl (some (vi (-300))))) (kA : ¬ zfind Z 0 (Z 1 0) n = -1 → ¬ ((0 ≤ o1 ∧ o1 ≤ 25) ∧ (0 ≤ o2 ∧ o2 ≤ 25) ∧ ¬ o1 = o2 ∧ 2 ≤ dv ∧ dv ≤ 100) → Q h (.inl (some (vi (-200)))))
    (kS : ¬ zfind Z 0 (Z 1 0) n = -1 → ((0 ≤ o1 ∧ o1 ≤ 25) ∧ (0 ≤ o2 ∧ o2 ≤ 25) ∧ ¬ o1 = o2 ∧ 2 ≤ dv ∧ dv ≤ 100) → ¬ (Z 3 (zfind Z 0 (Z 1 0) n).toNat = 0 ∧ (zfind Z 0 (Z 1 0) o1 = -1 ∨ zfind Z 0 (Z 1 0) o1 = zfind Z 0 (Z 1 0) n) ∧ (zfind Z 0 (Z 1 0) o2 = -1 ∨ zfind Z 0 (Z 1 0) o2 = zfind Z 0 (Z 1 0) n)) → Q h (.inl (some (vi (-100)))))
    (k0 : ¬ zfind Z 0 (Z 1 0) n = -1 → ((0 ≤ o1 ∧ o1 ≤ 25) ∧ (0 ≤ o2 ∧ o2 ≤ 25) ∧ ¬ o1 = o2 ∧ 2 ≤ dv ∧ dv ≤ 100) → (Z 3 (zfind Z 0 (Z 1 0) n).toNat = 0 ∧ (zfind Z 0 (Z 1 0) o1 = -1 ∨ zfind Z 0 (Z 1 0) o1 = zfind Z 0 (Z 1 0) n) ∧ (zfind Z 0 (Z 1 0) o2 = -1 ∨ zfind Z 0 (Z 1 0) o2 = zfind Z 0 (Z 1 0) n)) → ∀ g, SIM g (zSpl Z 0 n o1 o2 dv) c → ZI (zSpl Z 0 n o1 o2 dv) → Fr nMo h g → Q g (.inl (some (vi (Z 2 0))))) : AC mL_does fL_does loL_does 8 40 h [vr mF, vi 3, vi 0, vi n, vi o1, vi o2, vi dv] Q := by
  have a0 := J.at0 n
  have a1 := J.at0 o1
  have a2 := J.at0 o2
  refine kL_does_split J.F ?_
  by_cases hn : zfind Z 0 (Z 1 0) n = -1
  · have e : zcSpl Z 0 n o1 o2 dv = 1 := cd3_1 (a0.trans hn)
    exact sX7_split J.S J.I.1 (fun _ => ⟨-300, by decide, kX hn⟩) (fun z => by rw [e] at z; cases z) (fun z => by rw [e] at z; cases z) (fun z => by rw [e] at z; cases z)
  · have hn' : ¬ zatH Z 0 n = -1 := by rw [a0]; exact hn
    by_cases hr : (0 ≤ o1 ∧ o1 ≤ 25) ∧ (0 ≤ o2 ∧ o2 ≤ 25) ∧ ¬ o1 = o2 ∧ 2 ≤ dv ∧ dv ≤ 100
    · by_cases hz : Z 3 (zfind Z 0 (Z 1 0) n).toNat = 0 ∧ (zfind Z 0 (Z 1 0) o1 = -1 ∨ zfind Z 0 (Z 1 0) o1 = zfind Z 0 (Z 1 0) n) ∧ (zfind Z 0 (Z 1 0) o2 = -1 ∨ zfind Z 0 (Z 1 0) o2 = zfind Z 0 (Z 1 0) n)
      · have e : zcSpl Z 0 n o1 o2 dv = 0 := cd3_z hn' (fun z => z hr) (by
          rw [a0, a1, a2]
          rintro (z | z | z)
          · exact (zfre_0 J).mpr hz.1 z
          · exact hz.2.1.elim z.1 z.2
          · exact hz.2.2.elim z.1 z.2)
        exact sX7_split J.S J.I.1 (fun z => by rw [e] at z; cases z) (fun z => by rw [e] at z; cases z) (fun z => by rw [e] at z; cases z) (fun _ g S F => k0 hn hr hz g S (zi_spl J.I J.S e S) F)
      · have e : zcSpl Z 0 n o1 o2 dv = 3 := cd3_3 hn' (fun z => z hr) (by
          rw [a0, a1, a2]
          by_cases h3 : zfre Z 0 (zfind Z 0 (Z 1 0) n) = 0
          · exact Or.inl h3
          · have h3 := (zfre_0 J).mp h3
            refine Or.inr ?_
            show (¬ zfind Z 0 (Z 1 0) o1 = -1 ∧ ¬ zfind Z 0 (Z 1 0) o1 = zfind Z 0 (Z 1 0) n) ∨ (¬ zfind Z 0 (Z 1 0) o2 = -1 ∧ ¬ zfind Z 0 (Z 1 0) o2 = zfind Z 0 (Z 1 0) n)
            omega)
        exact sX7_split J.S J.I.1 (fun z => by rw [e] at z; cases z) (fun z => by rw [e] at z; cases z) (fun _ => ⟨-100, by decide, kS hn hr hz⟩) (fun z => by rw [e] at z; cases z)
    · have e : zcSpl Z 0 n o1 o2 dv = 2 := cd3_2 hn' hr
      exact sX7_split J.S J.I.1 (fun z => by rw [e] at z; cases z) (fun _ => ⟨-200, by decide, kA hn hr⟩) (fun z => by rw [e] at z; cases z) (fun z => by rw [e] at z; cases z)
theorem q_joi (J : IV L h Z c b) {n o1 o2 dv : Int} (kX : (zfind Z 0 (Z 1 0) o1 = -1 ∨ zfind Z 0 (Z 1 0) o2 = -1) → Q h (.inl (some (vi (-300))))) (kA : ¬ (zfind Z 0 (Z 1 0) o1 = -1 ∨ zfind Z 0 (Z 1 0) o2 = -1) → ¬ ((0 ≤ n ∧ n ≤ 25) ∧ (2 ≤ dv ∧ dv ≤ 100) ∧ ¬ zfind Z 0 (Z 1 0) o1 = zfind Z 0 (Z 1 0) o2) → Q h (.inl (some (vi (-200)))))
    (kS : ¬ (zfind Z 0 (Z 1 0) o1 = -1 ∨ zfind Z 0 (Z 1 0) o2 = -1) → ((0 ≤ n ∧ n ≤ 25) ∧ (2 ≤ dv ∧ dv ≤ 100) ∧ ¬ zfind Z 0 (Z 1 0) o1 = zfind Z 0 (Z 1 0) o2) → ¬ ((Z 3 (zfind Z 0 (Z 1 0) o1).toNat = 0 ∧ Z 3 (zfind Z 0 (Z 1 0) o2).toNat = 0) ∧ (zfind Z 0 (Z 1 0) n = -1 ∨ zfind Z 0 (Z 1 0) n = zfind Z 0 (Z 1 0) o1 ∨ zfind Z 0 (Z 1 0) n = zfind Z 0 (Z 1 0) o2)) → Q h (.inl (some (vi (-100)))))
    (k0 : ¬ (zfind Z 0 (Z 1 0) o1 = -1 ∨ zfind Z 0 (Z 1 0) o2 = -1) → ((0 ≤ n ∧ n ≤ 25) ∧ (2 ≤ dv ∧ dv ≤ 100) ∧ ¬ zfind Z 0 (Z 1 0) o1 = zfind Z 0 (Z 1 0) o2) → ((Z 3 (zfind Z 0 (Z 1 0) o1).toNat = 0 ∧ Z 3 (zfind Z 0 (Z 1 0) o2).toNat = 0) ∧ (zfind Z 0 (Z 1 0) n = -1 ∨ zfind Z 0 (Z 1 0) n = zfind Z 0 (Z 1 0) o1 ∨ zfind Z 0 (Z 1 0) n = zfind Z 0 (Z 1 0) o2)) → ∀ g, SIM g (zJoi Z 0 o1 o2 n dv) c → ZI (zJoi Z 0 o1 o2 n dv) → Fr nMo h g → Q g (.inl (some (vi (Z 2 0))))) : AC mL_does fL_does loL_does 8 40 h [vr mF, vi 4, vi 0, vi o1, vi o2, vi n, vi dv] Q := by
  have a0 := J.at0 n
  have a1 := J.at0 o1
  have a2 := J.at0 o2
  refine kL_does_join J.F ?_
  by_cases hn : zfind Z 0 (Z 1 0) o1 = -1 ∨ zfind Z 0 (Z 1 0) o2 = -1
  · have e : zcJoi Z 0 o1 o2 n dv = 1 := cd3_1 (by rw [a1, a2]; exact hn)
    exact sX7_join J.S J.I.1 (fun _ => ⟨-300, by decide, kX hn⟩) (fun z => by rw [e] at z; cases z) (fun z => by rw [e] at z; cases z) (fun z => by rw [e] at z; cases z)
  · have hn' : ¬ (zatH Z 0 o1 = -1 ∨ zatH Z 0 o2 = -1) := by rw [a1, a2]; exact hn
    by_cases hr : (0 ≤ n ∧ n ≤ 25) ∧ (2 ≤ dv ∧ dv ≤ 100) ∧ ¬ zfind Z 0 (Z 1 0) o1 = zfind Z 0 (Z 1 0) o2
    · have hr' : (0 ≤ n ∧ n ≤ 25) ∧ (2 ≤ dv ∧ dv ≤ 100) ∧ ¬ zatH Z 0 o1 = zatH Z 0 o2 := by rw [a1, a2]; exact hr
      by_cases hz : (Z 3 (zfind Z 0 (Z 1 0) o1).toNat = 0 ∧ Z 3 (zfind Z 0 (Z 1 0) o2).toNat = 0) ∧ (zfind Z 0 (Z 1 0) n = -1 ∨ zfind Z 0 (Z 1 0) n = zfind Z 0 (Z 1 0) o1 ∨ zfind Z 0 (Z 1 0) n = zfind Z 0 (Z 1 0) o2)
      · have e : zcJoi Z 0 o1 o2 n dv = 0 := cd3_z hn' (fun z => z hr') (by
          rw [a0, a1, a2]
          rintro (z | z | z)
          · exact (zfre_0 J).mpr hz.1.1 z
          · exact (zfre_0 J).mpr hz.1.2 z
          · exact hz.2.elim z.1.1 (fun q => q.elim z.1.2 z.2.2))
        exact sX7_join J.S J.I.1 (fun z => by rw [e] at z; cases z) (fun z => by rw [e] at z; cases z) (fun z => by rw [e] at z; cases z) (fun _ g S F => k0 hn hr hz g S (zi_joi J.I J.S e S) F)
      · have e : zcJoi Z 0 o1 o2 n dv = 3 := cd3_3 hn' (fun z => z hr') (by
          rw [a0, a1, a2]
          by_cases h3 : zfre Z 0 (zfind Z 0 (Z 1 0) o1) = 0
          · exact Or.inl h3
          · have h3 := (zfre_0 J).mp h3
            refine Or.inr ?_
            by_cases h4 : zfre Z 0 (zfind Z 0 (Z 1 0) o2) = 0
            · exact Or.inl h4
            · have h4 := (zfre_0 J).mp h4
              refine Or.inr ?_
              show (¬ zfind Z 0 (Z 1 0) n = -1 ∧ ¬ zfind Z 0 (Z 1 0) n = zfind Z 0 (Z 1 0) o1) ∧ (¬ zfind Z 0 (Z 1 0) n = -1 ∧ ¬ zfind Z 0 (Z 1 0) n = zfind Z 0 (Z 1 0) o2)
              omega)
        exact sX7_join J.S J.I.1 (fun z => by rw [e] at z; cases z) (fun z => by rw [e] at z; cases z) (fun _ => ⟨-100, by decide, kS hn hr hz⟩) (fun z => by rw [e] at z; cases z)
    · have hr' : ¬ ((0 ≤ n ∧ n ≤ 25) ∧ (2 ≤ dv ∧ dv ≤ 100) ∧ ¬ zatH Z 0 o1 = zatH Z 0 o2) := by rw [a1, a2]; exact hr
      have e : zcJoi Z 0 o1 o2 n dv = 2 := cd3_2 hn' hr'
      exact sX7_join J.S J.I.1 (fun z => by rw [e] at z; cases z) (fun _ => ⟨-200, by decide, kA hn hr⟩) (fun z => by rw [e] at z; cases z) (fun z => by rw [e] at z; cases z)
theorem q_dro (J : IV L h Z c b) {n x3 x4 x5 : Int} (kX : zfind Z 0 (Z 1 0) n = -1 → Q h (.inl (some (vi (-300)))))
    (k0 : ¬ zfind Z 0 (Z 1 0) n = -1 → ∀ g, SIM g (zdo (zs Z 48 0 0) 0 (zfind Z 0 (Z 1 0) n)) c → ZI (zdo (zs Z 48 0 0) 0 (zfind Z 0 (Z 1 0) n)) → Fr nMo h g → Q g (.inl (some (vi 1)))) : AC mL_does fL_does loL_does 8 40 h [vr mF, vi 5, vi 0, vi n, vi x3, vi x4, vi x5] Q := by
  have b1 := J.K.b1
  have a0 := J.at0 n
  have h23 : ¬ Z 1 (0 : Int).toNat = 23 := by show ¬ Z 1 0 = 23; omega
  refine kL_does_drop J.F ?_
  by_cases hn : zfind Z 0 (Z 1 0) n = -1
  · have e : zcDro Z 0 n = 1 := cd2_1 (a0.trans hn)
    exact sX7_drop J.S J.I.1 J.z13 (fun _ => ⟨-300, by decide, kX hn⟩) (fun z => by rw [e] at z; cases z) (fun z => by rw [e] at z; cases z) (fun z => by rw [e] at z; cases z)
  · have hn' : ¬ zatH Z 0 n = -1 := by rw [a0]; exact hn
    have e : zcDro Z 0 n = 0 := cd2_z hn' (fun z => z.elim (fun z => z (J.wt _)) h23)
    refine sX7_drop J.S J.I.1 J.z13 (fun z => by rw [e] at z; cases z) (fun z => by rw [e] at z; cases z) (fun _ _ g S F => ?_) (fun _ z => absurd (J.hu _) z)
    have I := zi_dro J.I J.S e S
    rw [a0] at S I
    exact ⟨fun z => absurd z (by decide), fun _ => k0 hn g S I F⟩
theorem q_tog (J : IV L h Z c b) {n x3 x4 x5 : Int} (kX : zfind Z 0 (Z 1 0) n = -1 → Q h (.inl (some (vi (-300)))))
    (k0 : ¬ zfind Z 0 (Z 1 0) n = -1 → ∀ g, SIM g (zTog Z 0 n) c → ZI (zTog Z 0 n) → Fr nMo h g → Q g (.inl (some (vi (bz (Z 6 (48 * Z 1 0 + zfind Z 0 (Z 1 0) n).toNat = 0)))))) : AC mL_does fL_does loL_does 8 40 h [vr mF, vi 6, vi 0, vi n, vi x3, vi x4, vi x5] Q := by
  have b1 := J.K.b1
  have a0 := J.at0 n
  have h23 : ¬ Z 1 (0 : Int).toNat = 23 := by show ¬ Z 1 0 = 23; omega
  refine kL_does_toggleNeed J.F ?_
  by_cases hn : zfind Z 0 (Z 1 0) n = -1
  · have e : zcTog Z 0 n = 1 := cd2_1 (a0.trans hn)
    exact sX7_toggleNeed J.S J.I.1 (fun _ => ⟨-300, by decide, kX hn⟩) (fun z => by rw [e] at z; cases z) (fun z => by rw [e] at z; cases z)
  · have hn' : ¬ zatH Z 0 n = -1 := by rw [a0]; exact hn
    have e : zcTog Z 0 n = 0 := cd2_z hn' h23
    refine sX7_toggleNeed J.S J.I.1 (fun z => by rw [e] at z; cases z) (fun z => by rw [e] at z; cases z) (fun _ g S F => ?_)
    have q := k0 hn g S (zi_tog J.I J.S e S) F
    rw [show (48 * (24 * 0 + Z 1 (0 : Int).toNat) + zatH Z 0 n).toNat = (48 * Z 1 0 + zfind Z 0 (Z 1 0) n).toNat by rw [a0, show Z 1 (0 : Int).toNat = Z 1 0 from rfl]; omega]
    rcases bz01 (Z 6 (48 * Z 1 0 + zfind Z 0 (Z 1 0) n).toNat = 0) with q0 | q0
    · rw [q0] at q ⊢
      exact ⟨fun _ => q, fun z => absurd rfl z⟩
    · rw [q0] at q ⊢
      exact ⟨fun z => absurd z (by decide), fun _ => q⟩
end D2
