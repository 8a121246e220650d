/-! ===== the model stays sound: add, rename, turn, split, join ===== -/
section R2x
variable {Z Y : ZT} {h g : AH} {A A2 : Nat → Nat} {c c2 s d : Nat}
theorem ZI.add {n hw v nd : Int} (I : ZI Z) (S0 : SIMq A 9 h Z c) (S : SIMq A2 9 g (zAdd Z s n hw v nd) c2) (hs : (s : Int) < Z 0 0) (hd : Z 1 s + 1 = (d : Int)) (hd2 : d < 24) (h3 : 0 ≤ hw ∧ hw ≤ 2) (h5 : 0 ≤ n ∧ n ≤ 25) (h6 : nd = 0 ∨ nd = 1) : ZI (zAdd Z s n hw v nd) := by
  have zz := S0.zz
  have K := (S0.sc hs).2.1
  have b2 := K.b2
  have b3 := I.1.1.2.2.2.2.2 s (by omega)
  exact I.vs S (vAdd (by omega) K hd hd2 (by omega)) hd hd2 hs ((RA.of I).add h3 h5 h6 (by rw [Int.toNat_natCast]; omega)) (by omega) (fun w => by omega)
theorem ZI.ren {n o F : Int} (I : ZI Z) (S0 : SIMq A 9 h Z c) (S : SIMq A2 9 g (zRen Z s n o) c2) (hs : (s : Int) < Z 0 0) (hd : Z 1 s + 1 = (d : Int)) (hd2 : d < 24) (eF : zatH Z s n = F) (hF : 0 ≤ F ∧ F < Z 2 s) (hp : ¬ Z 5 (48 * (24 * s + (d - 1)) + F.toNat) = -1) (h5 : 0 ≤ o ∧ o ≤ 25) : ZI (zRen Z s n o) := by
  have zz := S0.zz
  have K := (S0.sc hs).2.1
  have b2 := K.b2
  exact I.vs S (vRen (by omega) K hd hd2 (by omega) eF hF hp) hd hd2 hs ((RA.of I).ren (by omega) h5) (by omega) (fun w => by omega)
theorem ZI.tur {n hw F : Int} (I : ZI Z) (S0 : SIMq A 9 h Z c) (S : SIMq A2 9 g (zTur Z s n hw) c2) (hs : (s : Int) < Z 0 0) (hd : Z 1 s + 1 = (d : Int)) (hd2 : d < 24) (eF : zatH Z s n = F) (hF : 0 ≤ F ∧ F < Z 2 s) (h3 : 0 ≤ hw ∧ hw ≤ 2) (h5 : -1 ≤ n ∧ n ≤ 25) : ZI (zTur Z s n hw) := by
  have zz := S0.zz
  have K := (S0.sc hs).2.1
  have b2 := K.b2
  have b3 := I.1.1.2.2.2.2.2 s (by omega)
  exact I.vs S (vTur (by omega) K hd hd2 (by omega) eF hF) hd hd2 hs ((RA.of I).tur (by omega) h3 h5 (by rw [Int.toNat_natCast]; omega)) (by omega) (fun w => by omega)
theorem ZI.spl {n o1 o2 dv F : Int} (I : ZI Z) (S0 : SIMq A 9 h Z c) (S : SIMq A2 9 g (zSpl Z s n o1 o2 dv) c2) (hs : (s : Int) < Z 0 0) (hd : Z 1 s + 1 = (d : Int)) (hd2 : d < 24) (eF : zatH Z s n = F) (hF : 0 ≤ F ∧ F < Z 2 s) (h1 : 0 ≤ o1 ∧ o1 ≤ 25) (h2 : 0 ≤ o2 ∧ o2 ≤ 25) : ZI (zSpl Z s n o1 o2 dv) := by
  have zz := S0.zz
  have K := (S0.sc hs).2.1
  have b2 := K.b2
  have b3 := I.1.1.2.2.2.2.2 s (by omega)
  exact I.vs S (vSpl (by omega) K hd hd2 (by omega) eF hF) hd hd2 hs ((RA.of I).spl (by omega) h1 h2 (by rw [Int.toNat_natCast]; omega)) (by omega) (fun w => by omega)
theorem ZI.joi {n o1 o2 dv F G : Int} (I : ZI Z) (S0 : SIMq A 9 h Z c) (S : SIMq A2 9 g (zJoi Z s o1 o2 n dv) c2) (hs : (s : Int) < Z 0 0) (hd : Z 1 s + 1 = (d : Int)) (hd2 : d < 24) (eF : zatH Z s o1 = F) (hF : 0 ≤ F ∧ F < Z 2 s) (eG : zatH Z s o2 = G) (hG : 0 ≤ G ∧ G < Z 2 s) (hFG : ¬ F = G) (h1 : 0 ≤ n ∧ n ≤ 25) : ZI (zJoi Z s o1 o2 n dv) := by
  have zz := S0.zz
  have K := (S0.sc hs).2.1
  have b2 := K.b2
  have b3 := I.1.1.2.2.2.2.2 s (by omega)
  exact I.vs S (vJoi (by omega) K hd hd2 (by omega) eF hF eG hG hFG) hd hd2 hs ((RA.of I).joi (by omega) (by omega) h1 (by rw [Int.toNat_natCast]; omega)) (by omega) (fun w => by omega)
end R2x
