/-! ===== the face: a field added ===== -/
section F0
variable {Q : AH → AO → Prop} {h g G : AH} {Z Y : ZT} {s d c : Nat} {A : Nat → Nat}
/-- the model's cells, the script, the law's own -/
def nMo (n : Nm) : Prop := n.1 < 3 ∨ 15 ≤ n.1
theorem cd3_1 {a b e : Prop} [Decidable a] [Decidable b] [Decidable e] (x : a) : cd3 a b e = 1 := by unfold cd3; rw [if_pos x]
theorem cd3_2 {a b e : Prop} [Decidable a] [Decidable b] [Decidable e] (x : ¬ a) (y : b) : cd3 a b e = 2 := by unfold cd3; rw [if_neg x, if_pos y]
theorem cd3_3 {a b e : Prop} [Decidable a] [Decidable b] [Decidable e] (x : ¬ a) (y : ¬ b) (z : e) : cd3 a b e = 3 := by unfold cd3; rw [if_neg x, if_neg y, if_pos z]
theorem cd3_z {a b e : Prop} [Decidable a] [Decidable b] [Decidable e] (x : ¬ a) (y : ¬ b) (z : ¬ e) : cd3 a b e = 0 := by unfold cd3; rw [if_neg x, if_neg y, if_neg z]
theorem cd2_1 {a b : Prop} [Decidable a] [Decidable b] (x : a) : cd2 a b = 1 := by unfold cd2; rw [if_pos x]
theorem cd2_2 {a b : Prop} [Decidable a] [Decidable b] (x : ¬ a) (y : b) : cd2 a b = 2 := by unfold cd2; rw [if_neg x, if_pos y]
theorem cd2_z {a b : Prop} [Decidable a] [Decidable b] (x : ¬ a) (y : ¬ b) : cd2 a b = 0 := by unfold cd2; rw [if_neg x, if_neg y]
theorem kX7_schemaN (W : FmW h) (C : FmC h) (hs : (s : Int) < hI h (3, 0, 0) 6) (k : Q h (.inl (some (vr (4, s, 0))))) : AC mX7_schemaAt fX7_schemaAt loX7_schemaAt 1 6 h [vr (3, 0, 0), vi (s : Int)] Q :=
  kX7_schemaAt W C (fun z => absurd ⟨by omega, hs⟩ z) (fun _ => by rw [Int.toNat_natCast]; exact k)
theorem kX7_rowN (W : FmW h) (C : FmC h) (hs : (s : Int) < hI h (3, 0, 0) 8) (k : Q h (.inl (some (vr (9, s, 0))))) : AC mX7_rowAt fX7_rowAt loX7_rowAt 1 6 h [vr (3, 0, 0), vi (s : Int)] Q :=
  kX7_rowAt W C (fun z => absurd ⟨by omega, hs⟩ z) (fun _ => by rw [Int.toNat_natCast]; exact k)
theorem kX7_moverN (W : FmW h) (C : FmC h) (hs : (s : Int) < hI h (3, 0, 0) 9) (k : Q h (.inl (some (vr (10, s, 0))))) : AC mX7_moverAt fX7_moverAt loX7_moverAt 1 6 h [vr (3, 0, 0), vi (s : Int)] Q :=
  kX7_moverAt W C (fun z => absurd ⟨by omega, hs⟩ z) (fun _ => by rw [Int.toNat_natCast]; exact k)
theorem GS.sb {n2 : Int} (C : GS h G s n2) (B : SB h s) (h0 : 0 ≤ n2 ∧ n2 ≤ 46) : SB G s := by
  unfold SB at *
  rw [C.1, C.2.1, C.2.2.1]
  exact ⟨B.1, B.2.1, h0⟩
theorem CG.sb {w a b x e fc : Int} {N : Nat → Int} {L : Int64} (C : CG G g s d w a b x e fc N L) (B : SB G s) (hd : d ≤ 23) : SB g s := by
  unfold SB at *
  rw [C.1, C.2.1 1 (by decide), C.2.1 2 (by decide)]
  exact ⟨by omega, B.2.1, B.2.2⟩
theorem SIMq.zz {q : Nat} (S : SIMq A q h Z c) : (0 ≤ Z 0 0 ∧ Z 0 0 ≤ 4) := by
  have := S.1.2.1.1.1
  rw [S.1.2.2.1.1] at this
  exact this
theorem SIMq.n5 {q : Nat} (S : SIMq A q h Z c) (hs : s < 4) (hd : Z 1 s < (d : Int)) (hd2 : d < 24) : hT h (5, 24 * s + d, 0) = none ∧ hT h (6, 24 * s + d, 0) = none ∧ hT h (7, 24 * s + d, 0) = none := S.2.1.2.1 s d hs hd2 (Or.inr hd)
theorem SIMq.sc {q : Nat} (S : SIMq A q h Z c) (hs : (s : Int) < Z 0 0) : SV h Z s ∧ ZS Z s ∧ (¬ s = q → SQ h Z s) := S.2.2.1 s hs
theorem SIMq.sbw {q : Nat} (S : SIMq A q h Z c) (hs : (s : Int) < Z 0 0) : 0 ≤ hI h (4, s, 0) 1 ∧ hI h (4, s, 0) 1 ≤ 46 := S.1.2.2.2.2.1 s hs
/-- names and needs of the head -/
theorem SV.nr (S : SV h Z s) (hv : (d : Int) = Z 1 s + 1) (h1 : 1 ≤ d) : NR (hI h (4, s, 100 + (d - 1))) (fun f => Z 5 (48 * (24 * s + (d - 1)) + f)) (Z 2 s) := fun n hn => S.2.2.2.1 (d - 1) n (by omega) hn
theorem SV.dr (S : SV h Z s) (hv : (d : Int) = Z 1 s + 1) (h1 : 1 ≤ d) : DR (hL h (4, s, 4) (d - 1)) (fun f => Z 6 (48 * (24 * s + (d - 1)) + f)) (fun f => Z 5 (48 * (24 * s + (d - 1)) + f)) (Z 2 s) := fun f hf => S.2.2.2.2.1 (d - 1) f (by omega) hf
theorem GS.oN {n2 : Int} (C : GS h G s n2) (v j : Nat) : hI G (4, s, 100 + v) j = hI h (4, s, 100 + v) j := C.2.2.2.2.2.I (fun z => by have := z.2.2; dsimp only at this; omega) j
theorem GS.oL {n2 : Int} (C : GS h G s n2) (v : Nat) : hL G (4, s, 4) v = hL h (4, s, 4) v := C.2.2.2.2.2.L (fun z => by have := z.2.2; dsimp only at this; omega) v
theorem ZS.o (K : ZS Z s) (hd : (d : Int) = Z 1 s + 1) (h1 : 1 ≤ d) {f : Nat} (hf : f < 48) (h2 : Z 2 s ≤ (f : Int)) : Z 5 (48 * (24 * s + (d - 1)) + f) = -1 := by
  have b1 := K.b1
  exact K.2.1 (d - 1) f (by omega) hf (Or.inl h2)
/-- what a version leaves of the model's cells -/
theorem CS.mo {w a b x e fc n2 : Int} {N : Nat → Int} {L : Int64} (C : CS h g s d w a b x e fc n2 N L) : Fr nMo h g := by
  obtain ⟨-, -, -, -, -, -, -, F⟩ := C
  refine F.mo (fun n z => ⟨fun y => ?_, fun y => ?_⟩)
  · have := y.1; rcases z with z | z <;> omega
  · rcases y.1 with y | y | y <;> rcases z with z | z <;> omega
/-- a version that takes a and b away and makes one field -/
theorem gen1 {q : Nat} {w a b fc kd v n nd : Int} {M1 : Nat → Int} (S : SIMq A q h Z c) (hs : (s : Int) < Z 0 0) (hd : (d : Int) = Z 1 s + 1) (hd2 : d < 24) (hf : Z 2 s ≤ 44) (hn : 0 ≤ n ∧ n ≤ 25)
    (V : VS Z Y s d w a b (Z 2 s) (-1) fc (Z 2 s + 1) (fun f => if (f : Int) = Z 2 s then n else M1 f) (fun f => if (f : Int) = Z 2 s then nd else Z 6 (48 * (24 * s + (d - 1)) + f)))
    (hM1 : ∀ f : Nat, M1 f = if (f : Int) = a ∨ (f : Int) = b then -1 else Z 5 (48 * (24 * s + (d - 1)) + f)) (V3 : Y 3 (48 * s + (Z 2 s).toNat) = kd ∧ Y 4 (48 * s + (Z 2 s).toNat) = v)
    (ha : -1 ≤ a ∧ a < Z 2 s) (hb : -1 ≤ b ∧ b < Z 2 s) (hN : hI h (4, s, 100 + (d - 1)) n.toNat = -1 ∨ hI h (4, s, 100 + (d - 1)) n.toNat = a ∨ hI h (4, s, 100 + (d - 1)) n.toNat = b)
    (hv : 0 ≤ v ∧ v ≤ zmost kd) (hkd : 0 ≤ kd ∧ kd ≤ 2) (pk : StK w a b (Z 2 s) (-1) fc (fun f => Y 3 (48 * s + f)))
    (pa : ¬ a = -1 → ¬ Z 5 (48 * (24 * s + (d - 1)) + a.toNat) = -1) (pb : ¬ b = -1 → ¬ Z 5 (48 * (24 * s + (d - 1)) + b.toNat) = -1)
    (hq : ¬ s = q → ∀ i : Nat, (i : Int) < Z 11 s → ¬ Z 12 (48 * s + i) = a ∧ ¬ Z 12 (48 * s + i) = b) :
    SIMq A q (cpl (cE (cmf h s kd v) s d w a b (Z 2 s) (-1) fc) s (Z 2 s) n nd) Y c ∧ Fr nMo h (cpl (cE (cmf h s kd v) s d w a b (Z 2 s) (-1) fc) s (Z 2 s) n nd) := by
  obtain ⟨S1, K, SQ1⟩ := S.sc hs
  have zz := S.zz
  have b1 := K.b1
  have b2 := K.b2
  have h1 : 1 ≤ d := by omega
  have hnf : (((Z 2 s).toNat : Nat) : Int) = Z 2 s := by omega
  have GS1 := (GS.rf S1.1).mf (kd := kd) (v := v) (Int.le_refl _) (by rw [S1.fc]; omega)
  rw [S1.fc] at GS1
  have CG1 := CG.base (w := w) (a := a) (b := b) (c := Z 2 s) (e := -1) (fc := fc) GS1.2.2.2.2.1 (by rw [GS1.1, S1.hd]; omega) h1
  have CG2 := CG1.pla (f := Z 2 s) (n := n) (nd := nd) hn
  have C := GS1.cs CG2
  have C2 := C
  have mn := cmf_n (s := s) (kd := kd) (v := v) S1.fc
  obtain ⟨-, -, d3, -⟩ := CG2
  have e1 := fun i => d3 1 i (by decide) (by decide)
  have e2 := fun i => d3 2 i (by decide) (by decide)
  have R0 := S1.nr hd h1
  have Dr0 := S1.dr hd h1
  have R2 := (R0.rem (x := a) (y := b) (by omega)).gro (c' := Z 2 s + 1) (by omega) (fun f f1 f2 => by (try dsimp only); split; rfl; exact K.o hd h1 (by omega) f1)
  have R3 := R2.put (n0 := n.toNat) (f0 := (Z 2 s).toNat) (by omega) (by (try dsimp only); rcases hN with z | z | z; rw [z]; split <;> rfl; rw [if_pos (Or.inl z)]; rw [if_pos (Or.inr z)]) (by (try dsimp only); split; rfl; exact K.o hd h1 (by omega) (by omega))
  have D2 := (Dr0.rem (x := a) (y := b) (by omega) (by omega)).gro (c' := Z 2 s + 1) (by omega)
  have D3 := D2.put (n := n) (nd := nd) (f0 := (Z 2 s).toNat) (by omega) (by omega) (fun z => by
    have := (bt_and.mp z).1
    have := (Dr0 (Z 2 s).toNat (by omega)).1 this
    omega)
  have nr := R3.c (N' := fun j => if j = n.toNat then Z 2 s else (fun j => if hI (cmf h s kd v) (4, s, 100 + (d - 1)) j = a ∨ hI (cmf h s kd v) (4, s, 100 + (d - 1)) j = b then -1 else hI (cmf h s kd v) (4, s, 100 + (d - 1)) j) j) (M' := fun f => if (f : Int) = Z 2 s then n else M1 f)
    (fun j hj => by (try dsimp only); rw [GS1.oN, hnf]) (fun f hf => by
      (try dsimp only)
      rw [hM1]
      by_cases z : (f : Int) = Z 2 s
      · rw [if_pos z, if_pos (by omega)]; omega
      · rw [if_neg z, if_neg (show ¬ f = (Z 2 s).toNat by omega)])
  have dr : DR (hL (cmf h s kd v) (4, s, 4) (d - 1) &&& (ctg a b ^^^ (-1)) ||| (if nd = 0 then 0 else bitI (Z 2 s))) (fun f => if (f : Int) = Z 2 s then nd else Z 6 (48 * (24 * s + (d - 1)) + f)) (fun f => if (f : Int) = Z 2 s then n else M1 f) (Z 2 s + 1) := by
    rw [GS1.oL]
    rw [hnf] at D3
    refine D3.c (fun f hf => ?_) (fun f hf _ => ?_)
    · (try dsimp only)
      rw [hM1]
      by_cases z : (f : Int) = Z 2 s
      · rw [if_pos z, if_pos (by omega)]
      · rw [if_neg z, if_neg (show ¬ f = (Z 2 s).toNat by omega)]
    · (try dsimp only)
      by_cases z : (f : Int) = Z 2 s
      · rw [if_pos z, if_pos (by omega)]
      · rw [if_neg z, if_neg (show ¬ f = (Z 2 s).toNat by omega)]
  have nf : ∀ f : Nat, Z 2 s ≤ (f : Int) → (f : Int) < Z 2 s + 1 → f = (Z 2 s).toNat := fun f f1 f2 => by omega
  have hsv : SV (cpl (cE (cmf h s kd v) s d w a b (Z 2 s) (-1) fc) s (Z 2 s) n nd) Y s := by
    refine S1.ver K hd hd2 ⟨by omega, by omega⟩ V C (fun f f1 f2 => ?_) nr dr
    rw [nf f f1 f2, e1, e2, mn.1, mn.2, V3.1, V3.2]
    exact ⟨rfl, rfl⟩
  have p5 : ∀ f : Nat, f < 48 → (f : Int) = Z 2 s → Z 5 (48 * (24 * s + (d - 1)) + f) = -1 := fun f f1 f2 => K.o hd h1 f1 (by omega)
  have hzs : ZS Y s := by
    refine K.ver hd hd2 ⟨by omega, by omega⟩ V (fun f f1 f2 => ?_) (fun f f1 f2 => ?_) (fun f f1 => ?_) ⟨by omega, by omega, by omega, by omega⟩ pk (fun f f1 => ?_) pa pb (fun f f1 f2 f3 => ?_)
    · rw [nf f f1 f2, V3.1, V3.2]
      exact ⟨hv, hkd⟩
    · (try dsimp only)
      rw [if_neg (by omega), hM1]
      split
      · rfl
      · exact K.o hd h1 f1 (by omega)
    · (try dsimp only)
      have := K.2.2.1 (d - 1) f (by omega) f1
      split
      · omega
      · rw [hM1]; split <;> omega
    · (try dsimp only)
      by_cases z : (f : Int) = Z 2 s
      · rw [if_pos z]
        constructor
        · intro _; exact Or.inr (Or.inl z)
        · intro _; omega
      · rw [if_neg z, hM1]
        by_cases y : (f : Int) = a ∨ (f : Int) = b
        · rw [if_pos y]
          constructor
          · intro x; exact absurd rfl x
          · rintro (x | x | x) <;> omega
        · rw [if_neg y]
          constructor
          · intro x; exact Or.inl ⟨x, by omega, by omega⟩
          · rintro (x | x | x)
            · exact x.1
            · omega
            · omega
    · rcases f2 with f2 | f2
      · exact absurd (p5 f f1 f2) f3
      · omega
  refine ⟨S.ver zz.2 hs hd hd2 ⟨by omega, by omega⟩ V C2 hsv hzs (fun y i hi => ?_), C2.mo⟩
  obtain ⟨y1, y2⟩ := hq y i hi
  obtain ⟨-, q2, q3, -⟩ := SQ1 y
  have k := q3 i hi
  rw [show (Z 1 s).toNat = d - 1 by omega] at k
  (try dsimp only)
  rw [if_neg (by omega), hM1, if_neg (by omega)]
  exact k.2.2
set_option maxHeartbeats 4000000 in
theorem sX7_add {s n hw v nd : Int} (S : SIM h Z c) (B : ZB Z) (hnd : nd = 0 ∨ nd = 1) (k1 : zcAdd Z s n hw v = 1 → Q h (.inr eIx)) (k2 : zcAdd Z s n hw v = 2 → Q h (.inr eIa)) (k3 : zcAdd Z s n hw v = 3 → Q h (.inr eIs))
    (k0 : zcAdd Z s n hw v = 0 → ∀ g, SIM g (zAdd Z s n hw v nd) c → Fr nMo h g → Q g (.inl (some (vi (Z 2 s.toNat))))) : AC mX7_add fX7_add loX7_add 8 40 h [vr mF, vi s, vi n, vi hw, vi v, vi nd] Q := by
  obtain ⟨A, S⟩ := S
  have W := S.1.1
  have C := S.1.2.1
  have eC := S.1.2.2.1.1
  have zz := S.zz
  refine AC.mk (by decide) (Nat.le_of_ble_eq_true rfl) ?_
  by_cases hs : ¬ (0 ≤ s ∧ s < Z 0 0)
  · have e1 : zcAdd Z s n hw v = 1 := by unfold zcAdd cd3; rw [if_pos hs]
    refine AW.aload_n dX7_add_0 rfl ?_
    refine AW.iload_n dX7_add_1 rfl ?_
    refine AW.callV (as := [vi _]) dX7_add_2 rfl rfl rfl okX7_schemaAt lkX7_58 W.o rfl rfl rfl rfl rfl rfl rfl (kX7_schemaAt W C (fun _ => k1 e1) (fun z => absurd (eC ▸ z) hs))
    skip
  have hs := Classical.not_not.mp hs
  obtain ⟨s, rfl⟩ := Int.eq_ofNat_of_zero_le hs.1
  obtain ⟨S1, K, SQ1⟩ := S.sc hs.2
  have SQ1 := SQ1 (by omega)
  have b1 := K.b1
  have b2 := K.b2
  have W5 := S1.1
  have B5 := S1.sb K (by rw [SQ1.1]; exact SQ1.2.1)
  have bI := B.1.2.2.2.2.2 s (by omega)
  have eH := S1.atH K hs.2 (n := n)
  have c2 : ¬ ((0 ≤ n ∧ n ≤ 25) ∧ (0 ≤ hw ∧ hw ≤ 2) ∧ 0 ≤ v ∧ v ≤ zmost hw) → zcAdd Z s n hw v = 2 := fun z => cd3_2 (fun y => y hs) z
  have c3 : ((0 ≤ n ∧ n ≤ 25) ∧ (0 ≤ hw ∧ hw ≤ 2) ∧ 0 ≤ v ∧ v ≤ zmost hw) → (¬ cfn h s (Z 1 s) n = -1 ∨ Z 1 s = 23) → zcAdd Z s n hw v = 3 := fun z y => cd3_3 (fun y => y hs) (fun y => y z) (by rw [eH]; exact y)
  have c0 : ((0 ≤ n ∧ n ≤ 25) ∧ (0 ≤ hw ∧ hw ≤ 2) ∧ 0 ≤ v ∧ v ≤ zmost hw) → cfn h s (Z 1 s) n = -1 → ¬ Z 1 s = 23 → zcAdd Z s n hw v = 0 := fun z y x => cd3_z (fun y => y hs) (fun y => y z) (by rw [eH]; exact fun w => w.elim (fun q => q y) x)
  refine AW.aload_n dX7_add_0 rfl ?_
  refine AW.iload_n dX7_add_1 rfl ?_
  refine AW.callV (as := [vi _]) dX7_add_2 rfl rfl rfl okX7_schemaAt lkX7_58 W.o rfl rfl rfl rfl rfl rfl rfl (kX7_schemaN W C (by rw [eC]; exact hs.2) (AW.k1 ?_))
  refine AW.astore dX7_add_5 rfl ?_
  refine AW.iload_n dX7_add_7 rfl ?_
  refine AW.callS (as := [vi _]) dX7_add_8 rfl rfl rfl okX7_isName lkX7_62 rfl rfl rfl rfl rfl rfl (kX7_isName  (AW.k1 ?_))
  refine AW.if_eq (tgt := 23) dX7_add_11 rfl (fun c_11 => ?_) (fun c_11 => ?_)
  · refine AW.throwS dX7_add_23 dX7_add_26 dX7_add_27 dX7_add_29 dX7_add_32 rfl okTX7_70 strX7_72 rfl rfl rfl rfl rfl ?_
    exact k2 (c2 (fun z => by first | exact absurd z.1 (bz_0.mp c_11) | exact absurd z.2 (bz_0.mp c_20)))
  · refine AW.iload_n dX7_add_14 rfl ?_
    refine AW.iload dX7_add_15 rfl ?_
    refine AW.callS (as := [vi _, vi _]) dX7_add_17 rfl rfl rfl okX7_isValue lkX7_66 rfl rfl rfl rfl rfl rfl (kX7_isValue  (AW.k1 ?_))
    refine AW.if_ne (tgt := 33) dX7_add_20 rfl (fun c_20 => ?_) (fun c_20 => ?_)
    · have R : ((0 ≤ n ∧ n ≤ 25) ∧ (0 ≤ hw ∧ hw ≤ 2) ∧ 0 ≤ v ∧ v ≤ zmost hw) := ⟨bz_n0.mp c_11, bz_n0.mp c_20⟩
      refine AW.aload dX7_add_33 rfl ?_
      refine AW.aload dX7_add_35 rfl ?_
      refine AW.getIE (j := 0) W5.o dX7_add_37 lkX7_75 rfl rfl inC5 rfl (by exact S1.hd) ?_
      refine AW.iload_n dX7_add_40 rfl ?_
      refine AW.callV (as := [vi _, vi _]) dX7_add_41 rfl rfl rfl okX4_fieldNamed lkX7_78 W5.o rfl rfl rfl rfl rfl rfl rfl (kX4_fieldNamed W5 B5 (AW.k1 ?_))
      refine AW.iconst dX7_add_44 (by decide) ?_
      refine AW.icmp_ne (tgt := 56) dX7_add_45 rfl (fun c_45 => ?_) (fun c_45 => ?_)
      · refine AW.throwS dX7_add_56 dX7_add_59 dX7_add_60 dX7_add_62 dX7_add_65 rfl okTX7_50 strX7_86 rfl rfl rfl rfl rfl ?_
        exact k3 (c3 R (by first | exact Or.inl c_45 | exact Or.inr (by have := bz_n0.mp c_53; rw [S1.hd] at this; exact this)))
      · refine AW.aload dX7_add_48 rfl ?_
        refine AW.callV (as := []) dX7_add_50 rfl rfl rfl okX4_isFull lkX7_82 W5.o rfl rfl rfl rfl rfl rfl rfl (kX4_isFull W5 B5 (AW.k1 ?_))
        refine AW.if_eq (tgt := 66) dX7_add_53 rfl (fun c_53 => ?_) (fun c_53 => ?_)
        · have x23 : ¬ Z 1 s = 23 := fun y => bz_0.mp c_53 (by rw [S1.hd]; exact y)
          obtain ⟨d, hd⟩ := Int.eq_ofNat_of_zero_le (show 0 ≤ Z 1 s + 1 by omega)
          have hd2 : d < 24 := by omega
          have GS1 := (GS.rf W5).mf (kd := hw) (v := v) (Int.le_refl _) (by rw [S1.fc]; omega)
          have B6 := GS1.sb B5 (by rw [S1.fc]; omega)
          obtain ⟨n5, n6, n7⟩ := S.n5 (s := s) (d := d) (by omega) (by omega) hd2
          have CG1 := CG.base (w := 0) (a := -1) (b := -1) (c := Z 2 s) (e := -1) (fc := 0) GS1.2.2.2.2.1 (by rw [GS1.1, S1.hd]; omega) (by omega : 1 ≤ d)
          have CG2 := CG1.pla (f := Z 2 s) (n := n) (nd := nd) R.1
          refine AW.aload dX7_add_66 rfl ?_
          refine AW.iload_n dX7_add_68 rfl ?_
          refine AW.iload dX7_add_69 rfl ?_
          refine AW.callV (as := [vi _, vi _]) dX7_add_71 rfl rfl rfl okX4_makeField lkX7_88 W5.o rfl rfl rfl rfl rfl rfl rfl (kX4_makeField W5 B5 (by rw [S1.fc]; omega) (AW.k1 ?_))
          refine AW.top (y := Z 2 s) S1.fc ?_
          refine AW.istore dX7_add_74 rfl ?_
          refine AW.aload dX7_add_76 rfl ?_
          refine AW.new (kc := 7) (5, 24 * s + d, 0) n5 dX7_add_78 rfl inC7 lkX7_91 insX6 iniX6 rfl rfl ?_
          refine AW.dup dX7_add_81 rfl ?_
          refine AW.iconst dX7_add_82 (by decide) ?_
          refine AW.iconst dX7_add_83 (by decide) ?_
          refine AW.iconst dX7_add_84 (by decide) ?_
          refine AW.iload dX7_add_85 rfl ?_
          refine AW.iconst dX7_add_87 (by decide) ?_
          refine AW.iconst dX7_add_88 (by decide) ?_
          refine AW.callI (as := [vi _, vi _, vi _, vi _, vi _, vi _]) dX7_add_89 rfl rfl rfl okX6_init lkX7_93 rfl rfl rfl rfl rfl (kX6_init (p := 24 * s + d) hT_new (hT_old (by intro e; simp at e) n6) (hT_old (by intro e; simp at e) n7) (AW.k0 ?_))
          refine AW.callV (as := [vq _]) dX7_add_92 rfl rfl rfl okX4_extend lkX7_96 (cns_S GS1.2.2.2.2.1).o rfl rfl rfl rfl rfl rfl rfl (kX4_extend (h := cns (cmf h s hw v) (24 * s + d) 0 (-1) (-1) (Z 2 s) (-1) 0) (cns_S GS1.2.2.2.2.1) (cns_B B6) cns_P ⟨by rw [cns_6.1]; omega, by rw [cns_6.2]; omega, by rw [cns_7.1]; omega, by rw [cns_7.2]; omega⟩ (by rw [cns_I rfl rfl rfl, GS1.1, S1.hd]; omega) (AW.k0 ?_))
          refine AW.aload dX7_add_95 rfl ?_
          refine AW.iload dX7_add_97 rfl ?_
          refine AW.iload_n dX7_add_99 rfl ?_
          refine AW.iload dX7_add_100 rfl ?_
          refine AW.callV (as := [vi _, vi _, vi _]) dX7_add_102 rfl rfl rfl okX4_place lkX7_100 CG1.2.2.2.2.2.2.1.o rfl rfl rfl rfl rfl rfl rfl (kX4_place (h := cE (cmf h s hw v) s d 0 (-1) (-1) (Z 2 s) (-1) 0) CG1.2.2.2.2.2.2.1 (CG1.sb B6 (by omega)) R.1 ⟨by omega, by rw [CG1.2.1 2 (by decide), GS1.2.2.1, S1.fc]; omega⟩ (AW.k0 ?_))
          refine AW.iload dX7_add_105 rfl ?_
          refine AW.iret dX7_add_107 rfl ?_
          have e0 := c0 R c_45 x23
          have cN : hI h (4, s, 100 + (d - 1)) n.toNat = -1 := by (have x := c_45; unfold cfn at x; rw [S1.hd, if_pos ⟨by omega, R.1⟩, show (Z 1 s).toNat = d - 1 by omega] at x; exact x)
          have P := gen1 (M1 := fun f => Z 5 (48 * (24 * s + (d - 1)) + f)) S hs.2 hd.symm hd2 (by omega) R.1 (vAdd (hw := hw) (v := v) (nd := nd) (by omega) K hd hd2 (by omega)) (fun f => by rw [if_neg (by omega)]) (vAdd_n K hd) (by omega) (by omega) (Or.inl cN) ⟨R.2.2.1, R.2.2.2⟩ R.2.1 (Or.inl ⟨rfl, rfl, rfl, by omega, rfl⟩) (fun z => absurd rfl z) (fun z => absurd rfl z) (fun y i hi => by have := (SQ1.2.2.1 i hi).2.1; omega)
          exact k0 e0 _ ⟨A, P.1⟩ P.2
        · refine AW.throwS dX7_add_56 dX7_add_59 dX7_add_60 dX7_add_62 dX7_add_65 rfl okTX7_50 strX7_86 rfl rfl rfl rfl rfl ?_
          exact k3 (c3 R (by first | exact Or.inl c_45 | exact Or.inr (by have := bz_n0.mp c_53; rw [S1.hd] at this; exact this)))
    · refine AW.throwS dX7_add_23 dX7_add_26 dX7_add_27 dX7_add_29 dX7_add_32 rfl okTX7_70 strX7_72 rfl rfl rfl rfl rfl ?_
      exact k2 (c2 (fun z => by first | exact absurd z.1 (bz_0.mp c_11) | exact absurd z.2 (bz_0.mp c_20)))
end F0
