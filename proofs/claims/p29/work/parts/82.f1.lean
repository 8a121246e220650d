/-! ===== the face: what the other versions need ===== -/
section F1
variable {Q : AH → AO → Prop} {h g G : AH} {Z Y : ZT} {s d c : Nat} {A : Nat → Nat}
theorem zwA_ex {f : Int} : ∀ k : Nat, ¬ zwA Z s f k = 0 ↔ ∃ i : Nat, i < k ∧ Z 12 (48 * s + i) = f
  | 0 => ⟨fun z => absurd rfl z, fun ⟨i, hi, _⟩ => absurd hi (by omega)⟩
  | k + 1 => by
    have ih := zwA_ex (f := f) k
    unfold zwA
    rw [show (48 * (s : Int) + (k : Int)).toNat = 48 * s + k by omega]
    by_cases c : zwA Z s f k = 0
    · rw [if_pos c, bz_n0]
      constructor
      · intro e; exact ⟨k, by omega, e⟩
      · rintro ⟨i, hi, e⟩
        by_cases q : i = k
        · rw [← q]; exact e
        · exact absurd c (ih.mpr ⟨i, by omega, e⟩)
    · rw [if_neg c]
      obtain ⟨i, hi, e⟩ := ih.mp c
      exact ⟨fun _ => ⟨i, by omega, e⟩, fun _ => by decide⟩
theorem SQ.wt (R : SQ h Z s) {f : Int} (hf : 0 ≤ f ∧ f < 64) : bt (cal h s) f ↔ ¬ zwt Z s f = 0 := by
  obtain ⟨q1, q2, q3, -, q5⟩ := R
  unfold cal zwt
  rw [q1, Int.toNat_natCast, zwA_ex, bt_cbs hf _ (fun i hi => by have := q5 i; omega)]
  constructor
  · rintro ⟨i, hi, e⟩
    exact ⟨i, hi, by rw [← (q3 i (by omega)).1]; exact e⟩
  · rintro ⟨i, hi, e⟩
    exact ⟨i, hi, by rw [(q3 i (by omega)).1]; exact e⟩
/-- the flag of a field that stands -/
theorem SV.ndq (S : SV h Z s) (K : ZS Z s) (F : BF Z) {v : Nat} {f : Int} (hv : (v : Int) ≤ Z 1 s) (hf : 0 ≤ f ∧ f < Z 2 s) (hp : ¬ Z 5 (48 * (24 * s + v) + f.toNat) = -1) : cnd h s v f = Z 6 (48 * (24 * s + v) + f.toNat) := by
  have b2 := K.b2
  have hn := ((S.2.2.2.2.1 v f.toNat hv (by omega)).2 (by omega) hp)
  rw [show ((f.toNat : Nat) : Int) = f by omega] at hn
  unfold cnd
  rw [S.hd, S.fc, Int.toNat_natCast]
  rcases F 6 rfl (48 * (24 * s + v) + f.toNat) with e | e
  · rw [e]; rw [e] at hn
    exact bz_0.mpr (fun z => hn.mp z.2.2 rfl)
  · rw [e]; rw [e] at hn
    exact bz_1.mpr ⟨⟨by omega, hv⟩, hf, hn.mpr (by decide)⟩
/-- a version in which the field F gets the name n, the flag nd -/
theorem gen0 {q : Nat} {w F n nd : Int} {M1 D1 : Nat → Int} (S : SIMq A q h Z c) (hs : (s : Int) < Z 0 0) (hd : (d : Int) = Z 1 s + 1) (hd2 : d < 24) (hn : 0 ≤ n ∧ n ≤ 25) (hw : w = 1 ∨ w = 6)
    (V : VS Z Y s d w F (-1) F (-1) 0 (Z 2 s) M1 D1) (hM1 : ∀ f : Nat, M1 f = if (f : Int) = F then n else Z 5 (48 * (24 * s + (d - 1)) + f)) (hD1 : ∀ f : Nat, f < 48 → D1 f = if (f : Int) = F then nd else Z 6 (48 * (24 * s + (d - 1)) + f))
    (hF : 0 ≤ F ∧ F < Z 2 s) (hN : hI h (4, s, 100 + (d - 1)) n.toNat = -1 ∨ hI h (4, s, 100 + (d - 1)) n.toNat = F) (pF : ¬ Z 5 (48 * (24 * s + (d - 1)) + F.toNat) = -1) :
    SIMq A q (cpl (cE h s d w F (-1) F (-1) 0) s F n nd) Y c ∧ Fr nMo h (cpl (cE h s d w F (-1) F (-1) 0) s F n nd) := by
  obtain ⟨S1, K, SQ1⟩ := S.sc hs
  have zz := S.zz
  have b1 := K.b1
  have b2 := K.b2
  have h1 : 1 ≤ d := by omega
  have hnf : ((F.toNat : Nat) : Int) = F := by omega
  have GS1 := GS.rf S1.1
  rw [S1.fc] at GS1
  have CG1 := CG.base (w := w) (a := F) (b := -1) (c := F) (e := -1) (fc := 0) S1.1 (by rw [S1.hd]; omega) h1
  have CG2 := CG1.pla (f := F) (n := n) (nd := nd) hn
  have C := GS1.cs CG2
  have C2 := C
  obtain ⟨-, -, d3, -⟩ := CG2
  have R0 := S1.nr hd h1
  have Dr0 := S1.dr hd h1
  have R3 := (R0.rem (x := F) (y := -1) (by omega)).put (n0 := n.toNat) (f0 := F.toNat) (by omega) (by (try dsimp only); rcases hN with z | z; rw [z]; split <;> rfl; rw [if_pos (Or.inl z)]) (by (try dsimp only); rw [if_pos (Or.inl hnf)])
  have D3 := (Dr0.rem (x := F) (y := -1) (by omega) (by omega)).put (n := n) (nd := nd) (f0 := F.toNat) (by omega) (by omega) (fun z => by
    have := (bt_and.mp z).2
    rw [bt_not (by omega), ctg_bt (by omega) (by omega) (by omega)] at this
    exact this (Or.inl hnf))
  have nr := R3.c (N' := fun j => if j = n.toNat then F else (fun j => if hI h (4, s, 100 + (d - 1)) j = F ∨ hI h (4, s, 100 + (d - 1)) j = -1 then -1 else hI h (4, s, 100 + (d - 1)) j) j) (M' := M1)
    (fun j hj => by (try dsimp only); rw [hnf]) (fun f hf => by
      (try dsimp only)
      rw [hM1]
      by_cases z : (f : Int) = F
      · rw [if_pos z, if_pos (by omega)]; omega
      · rw [if_neg z, if_neg (show ¬ f = F.toNat by omega), if_neg (by omega)])
  have dr : DR (hL h (4, s, 4) (d - 1) &&& (ctg F (-1) ^^^ (-1)) ||| (if nd = 0 then 0 else bitI F)) D1 M1 (Z 2 s) := by
    rw [hnf] at D3
    refine D3.c (fun f hf => ?_) (fun f hf _ => ?_)
    · (try dsimp only)
      rw [hM1]
      by_cases z : (f : Int) = F
      · rw [if_pos z, if_pos (by omega)]
      · rw [if_neg z, if_neg (show ¬ f = F.toNat by omega), if_neg (by omega)]
    · (try dsimp only)
      rw [hD1 f hf]
      by_cases z : (f : Int) = F
      · rw [if_pos z, if_pos (by omega)]
      · rw [if_neg z, if_neg (show ¬ f = F.toNat by omega)]
  have hsv : SV (cpl (cE h s d w F (-1) F (-1) 0) s F n nd) Y s := S1.ver K hd hd2 ⟨by omega, by omega⟩ V C (fun f f1 f2 => by omega) nr dr
  have hzs : ZS Y s := by
    refine K.ver hd hd2 ⟨by omega, by omega⟩ V (fun f f1 f2 => by omega) (fun f f1 f2 => ?_) (fun f f1 => ?_) ⟨by omega, by omega, by omega, by omega⟩ (Or.inr (Or.inl ⟨hw, hF.1, rfl, rfl, rfl⟩)) (fun f f1 => ?_) (fun _ => pF) (fun z => absurd rfl z) (fun f f1 f2 f3 => ?_)
    · rw [hM1, if_neg (by omega)]
      exact K.o hd h1 f1 (by omega)
    · have := K.2.2.1 (d - 1) f (by omega) f1
      rw [hM1]
      split <;> omega
    · rw [hM1]
      by_cases z : (f : Int) = F
      · rw [if_pos z]
        constructor
        · intro _; exact Or.inr (Or.inl z)
        · intro _; omega
      · rw [if_neg z]
        constructor
        · intro x; exact Or.inl ⟨x, z, by omega⟩
        · rintro (x | x | x)
          · exact x.1
          · omega
          · omega
    · omega
  refine ⟨S.ver zz.2 hs hd hd2 ⟨by omega, by omega⟩ V C2 hsv hzs (fun y i hi => ?_), C2.mo⟩
  obtain ⟨-, q2, q3, -⟩ := SQ1 y
  have k := q3 i hi
  rw [show (Z 1 s).toNat = d - 1 by omega] at k
  rw [hM1]
  split
  · omega
  · exact k.2.2
/-- a version that takes F away -/
theorem genD {q : Nat} {F : Int} (S : SIMq A q h Z c) (hs : (s : Int) < Z 0 0) (hd : (d : Int) = Z 1 s + 1) (hd2 : d < 24)
    (V : VS Z Y s d 5 F (-1) (-1) (-1) 0 (Z 2 s) (fun f => if (f : Int) = F then -1 else Z 5 (48 * (24 * s + (d - 1)) + f)) (fun f => Z 6 (48 * (24 * s + (d - 1)) + f)))
    (hF : 0 ≤ F ∧ F < Z 2 s) (pF : ¬ Z 5 (48 * (24 * s + (d - 1)) + F.toNat) = -1) (hq : ¬ s = q → ∀ i : Nat, (i : Int) < Z 11 s → ¬ Z 12 (48 * s + i) = F) :
    SIMq A q (cE h s d 5 F (-1) (-1) (-1) 0) Y c ∧ CS h (cE h s d 5 F (-1) (-1) (-1) 0) s d 5 F (-1) (-1) (-1) 0 (Z 2 s) (fun j => if hI h (4, s, 100 + (d - 1)) j = F ∨ hI h (4, s, 100 + (d - 1)) j = -1 then -1 else hI h (4, s, 100 + (d - 1)) j) (hL h (4, s, 4) (d - 1) &&& (ctg F (-1) ^^^ (-1))) := by
  obtain ⟨S1, K, SQ1⟩ := S.sc hs
  have zz := S.zz
  have b1 := K.b1
  have b2 := K.b2
  have h1 : 1 ≤ d := by omega
  have GS1 := GS.rf S1.1
  rw [S1.fc] at GS1
  have CG1 := CG.base (w := 5) (a := F) (b := -1) (c := -1) (e := -1) (fc := 0) S1.1 (by rw [S1.hd]; omega) h1
  have C := GS1.cs CG1
  have R0 := S1.nr hd h1
  have Dr0 := S1.dr hd h1
  have nr := (R0.rem (x := F) (y := -1) (by omega)).c (M' := fun f => if (f : Int) = F then -1 else Z 5 (48 * (24 * s + (d - 1)) + f)) (fun _ _ => rfl) (fun f hf => by
    (try dsimp only)
    by_cases z : (f : Int) = F
    · rw [if_pos z, if_pos (Or.inl z)]
    · rw [if_neg z, if_neg (by omega)])
  have dr := (Dr0.rem (x := F) (y := -1) (by omega) (by omega)).c (M' := fun f => if (f : Int) = F then -1 else Z 5 (48 * (24 * s + (d - 1)) + f)) (D' := fun f => Z 6 (48 * (24 * s + (d - 1)) + f)) (fun f hf => by
    (try dsimp only)
    by_cases z : (f : Int) = F
    · rw [if_pos z, if_pos (Or.inl z)]
    · rw [if_neg z, if_neg (by omega)]) (fun _ _ _ => rfl)
  have hsv := S1.ver K hd hd2 ⟨by omega, by omega⟩ V C (fun f f1 f2 => by omega) nr dr
  have hzs : ZS Y s := by
    refine K.ver hd hd2 ⟨by omega, by omega⟩ V (fun f f1 f2 => by omega) (fun f f1 f2 => ?_) (fun f f1 => ?_) ⟨by omega, by omega, by omega, by omega⟩ (Or.inr (Or.inr (Or.inr (Or.inr (Or.inr ⟨rfl, hF.1, rfl, rfl, rfl⟩))))) (fun f f1 => ?_) (fun _ => pF) (fun z => absurd rfl z) (fun f f1 f2 f3 => by omega)
    · (try dsimp only)
      split
      · rfl
      · exact K.o hd h1 f1 (by omega)
    · have := K.2.2.1 (d - 1) f (by omega) f1
      (try dsimp only)
      split <;> omega
    · (try dsimp only)
      by_cases z : (f : Int) = F
      · rw [if_pos z]
        constructor
        · intro x; exact absurd rfl x
        · rintro (x | x | x) <;> omega
      · rw [if_neg z]
        constructor
        · intro x; exact Or.inl ⟨x, z, by omega⟩
        · rintro (x | x | x)
          · exact x.1
          · omega
          · omega
  refine ⟨S.ver zz.2 hs hd hd2 ⟨by omega, by omega⟩ V C hsv hzs (fun y i hi => ?_), C⟩
  obtain ⟨-, q2, q3, -⟩ := SQ1 y
  have k := q3 i hi
  rw [show (Z 1 s).toNat = d - 1 by omega] at k
  (try dsimp only)
  have := hq y i hi
  rw [if_neg (by omega)]
  exact k.2.2
/-- a version that takes F away and makes two fields -/
theorem gen2 {q : Nat} {F fc v1 v2 n1 n2 nd : Int} (S : SIMq A q h Z c) (hs : (s : Int) < Z 0 0) (hd : (d : Int) = Z 1 s + 1) (hd2 : d < 24) (hf : Z 2 s ≤ 44) (hn1 : 0 ≤ n1 ∧ n1 ≤ 25) (hn2 : 0 ≤ n2 ∧ n2 ≤ 25) (hne : ¬ n1 = n2)
    (V : VS Z Y s d 3 F (-1) (Z 2 s) (Z 2 s + 1) fc (Z 2 s + 2) (fun f => if (f : Int) = Z 2 s + 1 then n2 else if (f : Int) = Z 2 s then n1 else if (f : Int) = F then -1 else Z 5 (48 * (24 * s + (d - 1)) + f)) (fun f => if (f : Int) = Z 2 s + 1 then nd else if (f : Int) = Z 2 s then nd else Z 6 (48 * (24 * s + (d - 1)) + f)))
    (V3 : (Y 3 (48 * s + (Z 2 s).toNat) = 0 ∧ Y 4 (48 * s + (Z 2 s).toNat) = v1) ∧ (Y 3 (48 * s + ((Z 2 s).toNat + 1)) = 0 ∧ Y 4 (48 * s + ((Z 2 s).toNat + 1)) = v2))
    (hF : 0 ≤ F ∧ F < Z 2 s) (hN1 : hI h (4, s, 100 + (d - 1)) n1.toNat = -1 ∨ hI h (4, s, 100 + (d - 1)) n1.toNat = F) (hN2 : hI h (4, s, 100 + (d - 1)) n2.toNat = -1 ∨ hI h (4, s, 100 + (d - 1)) n2.toNat = F)
    (hv1 : 0 ≤ v1 ∧ v1 ≤ 9999) (hv2 : 0 ≤ v2 ∧ v2 ≤ 9999) (hfc : 0 < fc) (pF : ¬ Z 5 (48 * (24 * s + (d - 1)) + F.toNat) = -1) (hq : ¬ s = q → ∀ i : Nat, (i : Int) < Z 11 s → ¬ Z 12 (48 * s + i) = F) :
    SIMq A q (cpl (cpl (cE (cmf (cmf h s 0 v1) s 0 v2) s d 3 F (-1) (Z 2 s) (Z 2 s + 1) fc) s (Z 2 s) n1 nd) s (Z 2 s + 1) n2 nd) Y c ∧ Fr nMo h (cpl (cpl (cE (cmf (cmf h s 0 v1) s 0 v2) s d 3 F (-1) (Z 2 s) (Z 2 s + 1) fc) s (Z 2 s) n1 nd) s (Z 2 s + 1) n2 nd) := by
  obtain ⟨S1, K, SQ1⟩ := S.sc hs
  have zz := S.zz
  have b1 := K.b1
  have b2 := K.b2
  have h1 : 1 ≤ d := by omega
  have hnf : (((Z 2 s).toNat : Nat) : Int) = Z 2 s := by omega
  have hnf2 : (((Z 2 s).toNat + 1 : Nat) : Int) = Z 2 s + 1 := by omega
  have GS0 := (GS.rf S1.1).mf (kd := 0) (v := v1) (Int.le_refl _) (by rw [S1.fc]; omega)
  rw [S1.fc] at GS0
  have GS1 := GS0.mf (kd := 0) (v := v2) (by rw [S1.fc]; omega) (by omega)
  have CG1 := CG.base (w := 3) (a := F) (b := -1) (c := Z 2 s) (e := Z 2 s + 1) (fc := fc) GS1.2.2.2.2.1 (by rw [GS1.1, S1.hd]; omega) h1
  have CG2 := (CG1.pla (f := Z 2 s) (n := n1) (nd := nd) hn1).pla (f := Z 2 s + 1) (n := n2) (nd := nd) hn2
  have C := GS1.cs CG2
  rw [show Z 2 s + 1 + 1 = Z 2 s + 2 by omega] at C
  have C2 := C
  have m1 := cmf_n (s := s) (kd := 0) (v := v1) S1.fc
  have m2 := cmf_n (s := s) (G := cmf h s 0 v1) (kd := 0) (v := v2) GS0.2.2.1
  have m3 := cmf_o (s := s) (G := cmf h s 0 v1) (kd := 0) (v := v2) (i := (Z 2 s).toNat) GS0.2.2.1 (by omega)
  rw [show (Z 2 s + 1).toNat = (Z 2 s).toNat + 1 by omega] at m2
  obtain ⟨-, -, d3, -⟩ := CG2
  have e1 := fun i => d3 1 i (by decide) (by decide)
  have e2 := fun i => d3 2 i (by decide) (by decide)
  have R0 := S1.nr hd h1
  have Dr0 := S1.dr hd h1
  have R2 := (R0.rem (x := F) (y := -1) (by omega)).gro (c' := Z 2 s + 2) (by omega) (fun f f1 f2 => by (try dsimp only); split; rfl; exact K.o hd h1 (by omega) f1)
  have R3 := R2.put (n0 := n1.toNat) (f0 := (Z 2 s).toNat) (by omega) (by (try dsimp only); rcases hN1 with z | z; rw [z]; split <;> rfl; rw [if_pos (Or.inl z)]) (by (try dsimp only); split; rfl; exact K.o hd h1 (by omega) (by omega))
  have R4 := R3.put (n0 := n2.toNat) (f0 := (Z 2 s).toNat + 1) (by omega) (by (try dsimp only); rw [if_neg (show ¬ n2.toNat = n1.toNat by omega)]; rcases hN2 with z | z; rw [z]; split <;> rfl; rw [if_pos (Or.inl z)]) (by (try dsimp only); rw [if_neg (show ¬ (Z 2 s).toNat + 1 = (Z 2 s).toNat by omega)]; split; rfl; exact K.o hd h1 (by omega) (by omega))
  have D2 := (Dr0.rem (x := F) (y := -1) (by omega) (by omega)).gro (c' := Z 2 s + 2) (by omega)
  have D3 := D2.put (n := n1) (nd := nd) (f0 := (Z 2 s).toNat) (by omega) (by omega) (fun z => by
    have := (bt_and.mp z).1
    have := (Dr0 (Z 2 s).toNat (by omega)).1 this
    omega)
  have D4 := D3.put (n := n2) (nd := nd) (f0 := (Z 2 s).toNat + 1) (by omega) (by omega) (fun z => by
    rcases bt_or.mp z with z | z
    · have := (bt_and.mp z).1
      have := (Dr0 ((Z 2 s).toNat + 1) (by omega)).1 this
      omega
    · split at z
      · exact bt_0 z
      · have := (bit_bt (by omega) (by omega)).mp z
        omega)
  have nr := R4.c (N' := fun j => if j = n2.toNat then Z 2 s + 1 else (fun j => if j = n1.toNat then Z 2 s else (fun j => if hI (cmf (cmf h s 0 v1) s 0 v2) (4, s, 100 + (d - 1)) j = F ∨ hI (cmf (cmf h s 0 v1) s 0 v2) (4, s, 100 + (d - 1)) j = -1 then -1 else hI (cmf (cmf h s 0 v1) s 0 v2) (4, s, 100 + (d - 1)) j) j) j)
    (M' := fun f => if (f : Int) = Z 2 s + 1 then n2 else if (f : Int) = Z 2 s then n1 else if (f : Int) = F then -1 else Z 5 (48 * (24 * s + (d - 1)) + f))
    (fun j hj => by (try dsimp only); rw [GS1.oN, hnf, hnf2]) (fun f hf => by
      (try dsimp only)
      by_cases y : (f : Int) = Z 2 s + 1
      · rw [if_pos y, if_pos (show f = (Z 2 s).toNat + 1 by omega)]; omega
      · rw [if_neg y, if_neg (show ¬ f = (Z 2 s).toNat + 1 by omega)]
        by_cases z : (f : Int) = Z 2 s
        · rw [if_pos z, if_pos (show f = (Z 2 s).toNat by omega)]; omega
        · rw [if_neg z, if_neg (show ¬ f = (Z 2 s).toNat by omega)]
          by_cases x : (f : Int) = F
          · rw [if_pos x, if_pos (Or.inl x)]
          · rw [if_neg x, if_neg (show ¬ ((f : Int) = F ∨ (f : Int) = -1) by omega)])
  have dr : DR (hL (cmf (cmf h s 0 v1) s 0 v2) (4, s, 4) (d - 1) &&& (ctg F (-1) ^^^ (-1)) ||| (if nd = 0 then 0 else bitI (Z 2 s)) ||| (if nd = 0 then 0 else bitI (Z 2 s + 1))) (fun f => if (f : Int) = Z 2 s + 1 then nd else if (f : Int) = Z 2 s then nd else Z 6 (48 * (24 * s + (d - 1)) + f)) (fun f => if (f : Int) = Z 2 s + 1 then n2 else if (f : Int) = Z 2 s then n1 else if (f : Int) = F then -1 else Z 5 (48 * (24 * s + (d - 1)) + f)) (Z 2 s + 2) := by
    rw [GS1.oL]
    rw [hnf, hnf2] at D4
    refine D4.c (fun f hf => ?_) (fun f hf _ => ?_)
    · (try dsimp only)
      by_cases y : (f : Int) = Z 2 s + 1
      · rw [if_pos y, if_pos (show f = (Z 2 s).toNat + 1 by omega)]
      · rw [if_neg y, if_neg (show ¬ f = (Z 2 s).toNat + 1 by omega)]
        by_cases z : (f : Int) = Z 2 s
        · rw [if_pos z, if_pos (show f = (Z 2 s).toNat by omega)]
        · rw [if_neg z, if_neg (show ¬ f = (Z 2 s).toNat by omega)]
          by_cases x : (f : Int) = F
          · rw [if_pos x, if_pos (Or.inl x)]
          · rw [if_neg x, if_neg (show ¬ ((f : Int) = F ∨ (f : Int) = -1) by omega)]
    · (try dsimp only)
      by_cases y : (f : Int) = Z 2 s + 1
      · rw [if_pos y, if_pos (show f = (Z 2 s).toNat + 1 by omega)]
      · rw [if_neg y, if_neg (show ¬ f = (Z 2 s).toNat + 1 by omega)]
        by_cases z : (f : Int) = Z 2 s
        · rw [if_pos z, if_pos (show f = (Z 2 s).toNat by omega)]
        · rw [if_neg z, if_neg (show ¬ f = (Z 2 s).toNat by omega)]
  have nf : ∀ f : Nat, Z 2 s ≤ (f : Int) → (f : Int) < Z 2 s + 2 → f = (Z 2 s).toNat ∨ f = (Z 2 s).toNat + 1 := fun f f1 f2 => by omega
  have hsv : SV (cpl (cpl (cE (cmf (cmf h s 0 v1) s 0 v2) s d 3 F (-1) (Z 2 s) (Z 2 s + 1) fc) s (Z 2 s) n1 nd) s (Z 2 s + 1) n2 nd) Y s := by
    refine S1.ver K hd hd2 ⟨by omega, by omega⟩ V C (fun f f1 f2 => ?_) nr dr
    rw [e1, e2]
    rcases nf f f1 f2 with z | z
    · rw [z, m3.1, m3.2, m1.1, m1.2, V3.1.1, V3.1.2]; exact ⟨rfl, rfl⟩
    · rw [z, m2.1, m2.2, V3.2.1, V3.2.2]; exact ⟨rfl, rfl⟩
  have hzs : ZS Y s := by
    refine K.ver hd hd2 ⟨by omega, by omega⟩ V (fun f f1 f2 => ?_) (fun f f1 f2 => ?_) (fun f f1 => ?_) ⟨by omega, by omega, by omega, by omega⟩ (Or.inr (Or.inr (Or.inr (Or.inl ⟨rfl, hF.1, rfl, by omega, by omega, hfc⟩)))) (fun f f1 => ?_) (fun _ => pF) (fun z => absurd rfl z) (fun f f1 f2 f3 => ?_)
    · rcases nf f f1 f2 with z | z
      · rw [z, V3.1.1, V3.1.2]; exact ⟨hv1, by decide, by decide⟩
      · rw [z, V3.2.1, V3.2.2]; exact ⟨hv2, by decide, by decide⟩
    · (try dsimp only)
      rw [if_neg (by omega), if_neg (by omega)]
      split
      · rfl
      · exact K.o hd h1 f1 (by omega)
    · have := K.2.2.1 (d - 1) f (by omega) f1
      (try dsimp only)
      (repeat' split) <;> omega
    · (try dsimp only)
      by_cases y : (f : Int) = Z 2 s + 1
      · rw [if_pos y]
        constructor
        · intro _; exact Or.inr (Or.inr y)
        · intro _; omega
      · rw [if_neg y]
        by_cases z : (f : Int) = Z 2 s
        · rw [if_pos z]
          constructor
          · intro _; exact Or.inr (Or.inl z)
          · intro _; omega
        · rw [if_neg z]
          by_cases x : (f : Int) = F
          · rw [if_pos x]
            constructor
            · intro w; exact absurd rfl w
            · rintro (w | w | w) <;> omega
          · rw [if_neg x]
            constructor
            · intro w; exact Or.inl ⟨w, x, by omega⟩
            · rintro (w | w | w)
              · exact w.1
              · omega
              · omega
    · exact absurd (K.o hd h1 f1 (by omega)) f3
  refine ⟨S.ver zz.2 hs hd hd2 ⟨by omega, by omega⟩ V C2 hsv hzs (fun y i hi => ?_), C2.mo⟩
  obtain ⟨-, q2, q3, -⟩ := SQ1 y
  have k := q3 i hi
  rw [show (Z 1 s).toNat = d - 1 by omega] at k
  have := hq y i hi
  (try dsimp only)
  rw [if_neg (by omega), if_neg (by omega), if_neg (by omega)]
  exact k.2.2
end F1
