/-! ===== the relation: the face: row ===== -/
section J3
variable {Q : AH → AO → Prop} {h g G : AH} {Z Y X : ZT} {c q s a b r x m : Nat} {A : Nat → Nat}
theorem kX3_n (n9 : hT h (9, m, 0) = none) (n13 : ∀ i, hT h (13, m, i) = none) (k : ∀ g, Fr (fun n => ¬ n = (9, m, 0) ∧ ¬ (n.1 = 13 ∧ n.2.1 = m)) h g → RowW g m s → hI g (9, m, 0) 2 = -1 → StaW g 13 m → hI g (13, m, 0) 1 = 0 → (∀ f, f < 46 → hI g (13, m, 1) f = -1) → (∀ i, hI g (13, m, 2) i = 0) → Q g (.inl none)) :
    AC mX3_init fX3_init loX3_init 4 195 (aN h (9, m, 0) 4 0) [vr (9, m, 0), vr (4, s, 0)] Q := by
  have ne : ∀ j, ¬ ((13, m, j) : Nm) = (9, m, 0) := fun j => by simp
  refine kX3_init hT_new (hT_old (ne 0) (n13 0)) (hT_old (ne 1) (n13 1)) (hT_old (ne 2) (n13 2)) (hT_old (ne 3) (n13 3)) (k _ ?_ ?_ ?_ ?_ ?_ ?_ ?_)
  · refine Fr.wI (Fr.wR (Fr.fl ?_ (fun z => z.2 ⟨rfl, rfl⟩)) (fun z => z.1 rfl)) (fun z => z.1 rfl)
    unfold cst3 cst2 cst1
    exact ((((((((Fr.rf.nw (fun z => z.1 rfl)).wR (fun z => z.1 rfl)).nw (fun z => z.2 ⟨rfl, rfl⟩)).nw (fun z => z.2 ⟨rfl, rfl⟩)).wR (fun z => z.2 ⟨rfl, rfl⟩)).nw (fun z => z.2 ⟨rfl, rfl⟩)).wR (fun z => z.2 ⟨rfl, rfl⟩)).nw (fun z => z.2 ⟨rfl, rfl⟩)).wR (fun z => z.2 ⟨rfl, rfl⟩)
  · refine ⟨?_, ?_, ?_⟩
    · rw [hT_sI, hT_sR, hT_cst]; unfold cst3 cst2 cst1; simp [hT_aN, hT_sR]
    · rw [hR_sI, hR_sR, if_neg (by simp)]; unfold cst cst3 cst2 cst1; show hR (sR _ _ _ _) _ _ = _; simp [hR_aN, hR_sR]
    · rw [hR_sI, hR_sR, if_pos ⟨rfl, rfl⟩]
  · exact hI_e rfl rfl
  · have W : StaW (cst (aN (sR (aN h (9, m, 0) 4 0) (9, m, 0) 0 (some (4, s, 0))) (13, m, 0) 6 0) 13 m) 13 m := cst_S hT_new
    exact W.f (P := fun n => ¬ n = (9, m, 0)) ((Fr.rf.wR (fun z => z rfl)).wI (fun z => z rfl)) (fun j => by simp)
  · rw [hI_n1 rfl rfl, hI_sR]; unfold cst cst3 cst2 cst1; simp [hI_hfl, hI_aN, hI_sR]
  · intro f hf
    rw [hI_n1 rfl rfl, hI_sR]; unfold cst; simp [hI_hfl, hf]
  · intro i
    rw [hI_n1 rfl rfl, hI_sR]; unfold cst cst3 cst2 cst1; simp [hI_hfl, hI_aN, hI_sR]
theorem kX4_fieldNamedE {v n F : Int} (W : SchW h s) (B : SB h s) (e : cfn h s v n = F) (k : Q h (.inl (some (vi F)))) : AC mX4_fieldNamed fX4_fieldNamed loX4_fieldNamed 0 0 h [vr (4, s, 0), vi v, vi n] Q :=
  kX4_fieldNamed W B (by rw [e]; exact k)
theorem kX4_isNeededE {v f x : Int} (W : SchW h s) (B : SB h s) (e : cnd h s v f = x) (k : Q h (.inl (some (vi x)))) : AC mX4_isNeeded fX4_isNeeded loX4_isNeeded 0 0 h [vr (4, s, 0), vi v, vi f] Q :=
  kX4_isNeeded W B (by rw [e]; exact k)
/-- the row being filled: i names are through -/
def RwI (h : AH) (Z : ZT) (s v m i : Nat) (g : AH) : Prop := Fr (fun n => ¬ n = (9, m, 0) ∧ ¬ (n.1 = 13 ∧ n.2.1 = m)) h g ∧ RowW g m s ∧ hI g (9, m, 0) 2 = -1 ∧ StaW g 13 m ∧ hI g (13, m, 0) 0 = (v : Int) ∧ hI g (13, m, 0) 1 = 0
  ∧ (∀ f : Nat, f < 46 → hI g (13, m, 1) f = if (0 ≤ Z 5 (48 * (24 * s + v) + f) ∧ Z 5 (48 * (24 * s + v) + f) < (i : Int)) ∧ ¬ Z 6 (48 * (24 * s + v) + f) = 0 then Z 4 (48 * s + f) else -1) ∧ ∀ i, hI g (13, m, 2) i = 0
theorem RwI.end {v : Nat} (K : ZS Z s) (hv : v < 24) (I : RwI h Z s v m 26 g) {f : Nat} (hf : f < 46) (z : ¬ Z 5 (48 * (24 * s + v) + f) = -1) : hI g (13, m, 1) f = zrwV Z s v f := by
  rw [I.2.2.2.2.2.2.1 f hf]
  have a1 := K.2.2.1 v f hv (by omega)
  have a2 : (f : Int) < Z 2 s := Classical.byContradiction (fun y => z (K.2.1 v f hv (by omega) (Or.inl (by omega))))
  unfold zrwV
  rw [Int.toNat_natCast, show (48 * (24 * (s : Int) + (v : Int)) + (f : Int)).toNat = 48 * (24 * s + v) + f by omega, show (48 * (s : Int) + (f : Int)).toNat = 48 * s + f by omega]
  by_cases y : Z 6 (48 * (24 * s + v) + f) = 0
  · rw [if_neg (fun w => w.2 y), if_neg (fun w => w.2.2 y)]
  · rw [if_pos ⟨by omega, y⟩, if_pos ⟨a2, z, y⟩]
theorem RwI.skip {v i : Nat} (I : RwI h Z s v m i g) (n : ∀ f : Nat, f < 46 → Z 5 (48 * (24 * s + v) + f) = (i : Int) → Z 6 (48 * (24 * s + v) + f) = 0) : RwI h Z s v m (i + 1) g := by
  obtain ⟨i1, i2, i3, i4, i5, i6, i7, i8⟩ := I
  refine ⟨i1, i2, i3, i4, i5, i6, fun f hf => ?_, i8⟩
  rw [i7 f hf]
  have nf := n f hf
  by_cases y : (0 ≤ Z 5 (48 * (24 * s + v) + f) ∧ Z 5 (48 * (24 * s + v) + f) < (i : Int)) ∧ ¬ Z 6 (48 * (24 * s + v) + f) = 0
  · rw [if_pos y, if_pos ⟨by omega, y.2⟩]
  · rw [if_neg y, if_neg (fun w => ?_)]
    by_cases e : Z 5 (48 * (24 * s + v) + f) = (i : Int)
    · exact w.2 (nf e)
    · exact y ⟨by omega, w.2⟩
theorem RwI.put {v i F : Nat} {d : Int} (I : RwI h Z s v m i g) (hF : F < 46) (eF : Z 5 (48 * (24 * s + v) + F) = (i : Int)) (hn : ¬ Z 6 (48 * (24 * s + v) + F) = 0) (ed : d = Z 4 (48 * s + F)) (u : ∀ f : Nat, f < 46 → Z 5 (48 * (24 * s + v) + f) = (i : Int) → f = F) : RwI h Z s v m (i + 1) (cpt g 13 m (F : Int) d) := by
  obtain ⟨i1, i2, i3, i4, i5, i6, i7, i8⟩ := I
  have Fc : Fr (fun n => ¬ n = (13, m, 1)) g (cpt g 13 m (F : Int) d) := by
    unfold cpt; split
    · exact Fr.rf.wI (fun z => z rfl)
    · exact Fr.rf
  have Tc : hT (cpt g 13 m (F : Int) d) = hT g := by unfold cpt; split <;> rfl
  refine ⟨i1.tr (Fc.mo (fun n z w => z.2 (by rw [w]; exact ⟨rfl, rfl⟩))), i2.f Fc (by simp), by rw [Fc.I (by simp)]; exact i3, ?_, by rw [Fc.I (by simp)]; exact i5, by rw [Fc.I (by simp)]; exact i6, fun f hf => ?_, fun j => by rw [Fc.I (by simp)]; exact i8 j⟩
  · have Rc : hR (cpt g 13 m (F : Int) d) = hR g := by unfold cpt; split <;> rfl
    unfold StaW at *
    rw [Tc, Rc]; exact i4
  · have : hI (cpt g 13 m (F : Int) d) (13, m, 1) f = if f = F then d else hI g (13, m, 1) f := by
      unfold cpt
      rw [if_pos (by omega), Int.toNat_natCast, hI_sI]
      by_cases y : f = F
      · rw [if_pos ⟨rfl, y⟩, if_pos y]
      · rw [if_neg (fun w => y w.2), if_neg y]
    rw [this]
    by_cases y : f = F
    · subst y
      rw [if_pos rfl, if_pos ⟨by omega, hn⟩, ed]
    · rw [if_neg y, i7 f hf]
      have uf := u f hf
      by_cases w : (0 ≤ Z 5 (48 * (24 * s + v) + f) ∧ Z 5 (48 * (24 * s + v) + f) < (i : Int)) ∧ ¬ Z 6 (48 * (24 * s + v) + f) = 0
      · rw [if_pos w, if_pos ⟨by omega, w.2⟩]
      · rw [if_neg w, if_neg (fun t => w ⟨⟨t.1.1, ?_⟩, t.2⟩)]
        have : ¬ Z 5 (48 * (24 * s + v) + f) = (i : Int) := fun e => y (uf e)
        omega
set_option maxHeartbeats 1000000 in
theorem sX7_row {s t : Int} (S : SIM h Z c) (N : NZ Z) (hc : c < 512) (k1 : zcVer Z s t (Z 19 0 = 20) = 1 → Q h (.inr eIx)) (k2 : zcVer Z s t (Z 19 0 = 20) = 2 → Q h (.inr eIs))
    (k0 : zcVer Z s t (Z 19 0 = 20) = 0 → ∀ g, SIM g (zRow Z s t) (c + 1) → Fr nMo h g → Q g (.inl (some (vi (Z 19 0))))) : AC mX7_row fX7_row loX7_row 7 240 h [vr mF, vi s, vi t] Q := by
  obtain ⟨A, S⟩ := S
  have W := S.1.1
  have C := S.1.2.1
  have eC := S.1.2.2.1.1
  have e9 := S.1.2.2.1.2.2.1
  have zz := S.zz
  have z19 := S.c19
  refine AC.mk (by decide) (Nat.le_of_ble_eq_true rfl) ?_
  by_cases hs : ¬ (0 ≤ s ∧ s < Z 0 0)
  · have e1 : zcVer Z s t (Z 19 0 = 20) = 1 := cd2_1 (fun z => hs z.1)
    refine AW.aload_n dX7_row_0 rfl ?_
    refine AW.iload_n dX7_row_1 rfl ?_
    refine AW.callV (as := [vi _]) dX7_row_2 rfl rfl rfl okX7_schemaAt lkX7_58 W.o rfl rfl rfl rfl rfl rfl rfl (kX7_schemaAt W C (fun _ => k1 e1) (fun z => absurd (eC ▸ z) hs))
    skip
  have hs := Classical.not_not.mp hs
  obtain ⟨s, rfl⟩ := Int.eq_ofNat_of_zero_le hs.1
  obtain ⟨S1, K, SQ1⟩ := S.sc hs.2
  have SQ1 := SQ1 (by omega)
  have b1 := K.b1
  have b2 := K.b2
  have W5 := S1.1
  have B5 := S1.sb K (by rw [SQ1.1]; exact SQ1.2.1)
  obtain ⟨m, em⟩ := Int.eq_ofNat_of_zero_le z19.1
  have n9 := S.2.1.2.2.2.1 m (by omega)
  have lp : m < 20 → zcVer Z s t (Z 19 0 = 20) = 0 → ∀ (v : Nat), t = (v : Int) → (v : Int) ≤ Z 1 s → ∀ (n i : Nat) (g : AH), i ≤ 26 → 26 ≤ i + n → RwI h Z s v m i g →
      AW mX7_row fX7_row loX7_row 7 240 Q 0 0 72 g [(6, vi (i : Int)), (5, vr (9, m, 0)), (4, vi (m : Int)), (3, vr (4, s, 0)), (2, vi (v : Int)), (1, vi (s : Int)), (0, vr mF)] [] := by
    intro hm e0 v hvt hv n
    induction n with
    | zero =>
      intro i g h1 h2 I
      have e : i = 26 := by omega
      subst e
      have F := I.1
      have Wg : FmW g := W.f F (fun j => ⟨by simp, by simp⟩)
      have W9 := I.2.1
      have p8 : hI g (3, 0, 0) 8 = (m : Int) := by rw [F.I ⟨by simp, by simp⟩]; exact e9.trans em
      refine AW.iload dX7_row_72 rfl ?_
      refine AW.bipush dX7_row_74 bp_26 (by decide) ?_
      refine AW.icmp_ge (tgt := 126) dX7_row_76 rfl (fun c_76 => ?_) (fun c_76 => ?_)
      · refine AW.aload_n dX7_row_126 rfl ?_
        refine AW.getRE (j := 2) Wg.o dX7_row_127 lkX7_23 rfl rfl inC8 rfl Wg.r2 ?_
        refine AW.iload dX7_row_130 rfl ?_
        refine AW.aload dX7_row_132 rfl ?_
        refine AW.astR (t := 5) dX7_row_134 Wg.t2 (by decide) (by decide) rfl W9.o (by omega) (by omega) ?_
        refine AW.aload_n dX7_row_135 rfl ?_
        refine AW.dup dX7_row_136 rfl ?_
        refine AW.getIE (j := 8) Wg.o dX7_row_137 lkX7_335 rfl rfl inC8 rfl (by exact p8) ?_
        refine AW.iconst dX7_row_140 (by decide) ?_
        refine AW.iaddB dX7_row_141 (by omega) ?_
        refine AW.putI (j := 8) dX7_row_142 Wg.o rfl rfl inC8 lkX7_335 rfl (Or.inl rfl) (Or.inl rfl) ?_
        refine AW.iload dX7_row_145 rfl ?_
        refine AW.iret dX7_row_147 rfl ?_
        have P := X_row S N hc em hm hs.2 hv F W9 I.2.2.1 I.2.2.2.1 I.2.2.2.2.1 I.2.2.2.2.2.1 (fun f hf z => I.end K (by omega) hf z) I.2.2.2.2.2.2.2
        rw [hvt, em] at k0
        exact k0 (hvt ▸ em ▸ e0) _ ⟨A, P.1⟩ P.2
      · exact absurd c_76 (by omega)
    | succ n ih =>
      intro i g h1 h2 I
      by_cases e : i = 26
      · exact ih i g h1 (by omega) I
      have F := I.1
      have Wg : FmW g := W.f F (fun j => ⟨by simp, by simp⟩)
      have W9 := I.2.1
      have V13 := I.2.2.2.1
      have Sg : SV g Z s := S1.fr3 b1.2 F (fun x _ => ⟨by simp, by simp⟩) (fun v _ => ⟨⟨by simp, by simp⟩, ⟨by simp, by simp⟩, by simp, by simp⟩)
      have WgS := Sg.1
      have Bg : SB g s := Sg.sb K (by rw [F.I ⟨by simp, by simp⟩, SQ1.1]; exact SQ1.2.1)
      have rF := Sg.fr K (v := (v : Int)) (n := (i : Int))
      have nm := Sg.2.2.2.1 v i hv (by omega)
      have cn : cfn g s (v : Int) (i : Int) = hI g (4, s, 100 + v) i := by
        unfold cfn
        rw [Sg.hd, if_pos (by omega), Int.toNat_natCast, Int.toNat_natCast]
      rw [← cn] at nm
      have z2 : ∀ f : Nat, f < 46 → Z 5 (48 * (24 * s + v) + f) = (i : Int) → (f : Int) < Z 2 s := fun f hf z => Classical.byContradiction (fun y => by
        have := K.2.1 v f (by omega) (by omega) (Or.inl (by omega)); omega)
      generalize eF : cfn g s (v : Int) (i : Int) = F0 at *
      have nx : ∀ g', RwI h Z s v m (i + 1) g' → AW mX7_row fX7_row loX7_row 7 240 Q 0 0 72 g' [(6, vi ((i + 1 : Nat) : Int)), (5, vr (9, m, 0)), (4, vi (m : Int)), (3, vr (4, s, 0)), (2, vi (v : Int)), (1, vi (s : Int)), (0, vr mF)] [] := fun g' I' => ih (i + 1) g' (by omega) (by omega) I'
      by_cases y : F0 = -1
      · have I2 := I.skip (fun f hf z => absurd ((nm.2 f (z2 f hf z)).mpr z) (by omega))
        subst y
        refine AW.iload dX7_row_72 rfl ?_
        refine AW.bipush dX7_row_74 bp_26 (by decide) ?_
        refine AW.icmp_ge (tgt := 126) dX7_row_76 rfl (fun c_76 => ?_) (fun c_76 => ?_)
        · exact absurd c_76 (by omega)
        · refine AW.aload_n dX7_row_79 rfl ?_
          refine AW.iload_n dX7_row_80 rfl ?_
          refine AW.iload dX7_row_81 rfl ?_
          refine AW.callV (as := [vi _, vi _]) dX7_row_83 rfl rfl rfl okX4_fieldNamed lkX7_78 WgS.o rfl rfl rfl rfl rfl rfl rfl (kX4_fieldNamedE WgS Bg eF (AW.k1 ?_))
          refine AW.istore dX7_row_86 rfl ?_
          refine AW.iload dX7_row_88 rfl ?_
          refine AW.iconst dX7_row_90 (by decide) ?_
          refine AW.icmp_eq (tgt := 120) dX7_row_91 rfl (fun c_91 => ?_) (fun c_91 => ?_)
          · refine AW.iincB dX7_row_120 rfl rfl (by omega) ?_
            refine AW.goto (tgt := 72) dX7_row_123 rfl ?_
            exact AW.locs [(6, vi ((i + 1 : Nat) : Int)), (5, vr (9, m, 0)), (4, vi (m : Int)), (3, vr (4, s, 0)), (2, vi (v : Int)), (1, vi (s : Int)), (0, vr mF)] ⟨rfl, rfl, rfl, rfl, rfl, rfl, rfl, trivial⟩ (nx _ I2)
          · exact absurd rfl c_91
      obtain ⟨-, -, r3, r4, r5⟩ := rF.resolve_left y
      rw [Int.toNat_natCast] at r5
      have ed := Sg.ecd (f := F0) ⟨r3, r4⟩
      have en : cnd g s (v : Int) F0 = bz (¬ Z 6 (48 * (24 * s + v) + F0.toNat) = 0) := by
        have := (Sg.2.2.2.2.1 v F0.toNat hv (by omega)).2 (by omega) (by omega)
        rw [show ((F0.toNat : Nat) : Int) = F0 by omega] at this
        unfold cnd
        rw [Sg.hd, Sg.fc, Int.toNat_natCast]
        congr 1
        exact propext ⟨fun w => this.mp w.2.2, fun w => ⟨by omega, by omega, this.mpr w⟩⟩
      have I2 := fun hn : Z 6 (48 * (24 * s + v) + F0.toNat) = 0 => I.skip (fun f hf z => by
        have := (nm.2 f (z2 f hf z)).mpr z
        rw [show f = F0.toNat by omega]; exact hn)
      have I3 := fun hn : ¬ Z 6 (48 * (24 * s + v) + F0.toNat) = 0 => I.put (F := F0.toNat) (d := cdf g s F0) (by omega) r5 hn ed (fun f hf z => by
        have := (nm.2 f (z2 f hf z)).mpr z
        omega)
      rw [show ((F0.toNat : Nat) : Int) = F0 by omega] at I3
      refine AW.iload dX7_row_72 rfl ?_
      refine AW.bipush dX7_row_74 bp_26 (by decide) ?_
      refine AW.icmp_ge (tgt := 126) dX7_row_76 rfl (fun c_76 => ?_) (fun c_76 => ?_)
      · exact absurd c_76 (by omega)
      · refine AW.aload_n dX7_row_79 rfl ?_
        refine AW.iload_n dX7_row_80 rfl ?_
        refine AW.iload dX7_row_81 rfl ?_
        refine AW.callV (as := [vi _, vi _]) dX7_row_83 rfl rfl rfl okX4_fieldNamed lkX7_78 WgS.o rfl rfl rfl rfl rfl rfl rfl (kX4_fieldNamedE WgS Bg eF (AW.k1 ?_))
        refine AW.istore dX7_row_86 rfl ?_
        refine AW.iload dX7_row_88 rfl ?_
        refine AW.iconst dX7_row_90 (by decide) ?_
        refine AW.icmp_eq (tgt := 120) dX7_row_91 rfl (fun c_91 => ?_) (fun c_91 => ?_)
        · exact absurd c_91 y
        · refine AW.aload_n dX7_row_94 rfl ?_
          refine AW.iload_n dX7_row_95 rfl ?_
          refine AW.iload dX7_row_96 rfl ?_
          refine AW.callV (as := [vi _, vi _]) dX7_row_98 rfl rfl rfl okX4_isNeeded lkX7_112 WgS.o rfl rfl rfl rfl rfl rfl rfl (kX4_isNeededE WgS Bg en (AW.k1 ?_))
          refine AW.if_eq (tgt := 120) dX7_row_101 rfl (fun c_101 => ?_) (fun c_101 => ?_)
          · refine AW.iincB dX7_row_120 rfl rfl (by omega) ?_
            refine AW.goto (tgt := 72) dX7_row_123 rfl ?_
            exact AW.locs [(6, vi ((i + 1 : Nat) : Int)), (5, vr (9, m, 0)), (4, vi (m : Int)), (3, vr (4, s, 0)), (2, vi (v : Int)), (1, vi (s : Int)), (0, vr mF)] ⟨rfl, rfl, rfl, rfl, rfl, rfl, rfl, trivial⟩ (nx _ (by first | exact I2 (Classical.not_not.mp (bz_0.mp c_101)) | exact I3 (bz_n0.mp c_101)))
          · refine AW.aload dX7_row_104 rfl ?_
            refine AW.getRE (j := 1) W9.o dX7_row_106 lkX7_320 rfl rfl inC4 rfl W9.r1 ?_
            refine AW.iload dX7_row_109 rfl ?_
            refine AW.aload_n dX7_row_111 rfl ?_
            refine AW.iload dX7_row_112 rfl ?_
            refine AW.callV (as := [vi _]) dX7_row_114 rfl rfl rfl okX4_defaultOf lkX7_129 WgS.o rfl rfl rfl rfl rfl rfl rfl (kX4_defaultOf WgS Bg (AW.k1 ?_))
            refine AW.callV (as := [vi _, vi _]) dX7_row_117 rfl rfl rfl okX5_put lkX7_316 V13.o rfl rfl rfl rfl rfl rfl rfl (kX5_put V13 (AW.k0 ?_))
            refine AW.iincB dX7_row_120 rfl rfl (by omega) ?_
            refine AW.goto (tgt := 72) dX7_row_123 rfl ?_
            exact AW.locs [(6, vi ((i + 1 : Nat) : Int)), (5, vr (9, m, 0)), (4, vi (m : Int)), (3, vr (4, s, 0)), (2, vi (v : Int)), (1, vi (s : Int)), (0, vr mF)] ⟨rfl, rfl, rfl, rfl, rfl, rfl, rfl, trivial⟩ (nx _ (by first | exact I2 (Classical.not_not.mp (bz_0.mp c_101)) | exact I3 (bz_n0.mp c_101)))
  refine AW.aload_n dX7_row_0 rfl ?_
  refine AW.iload_n dX7_row_1 rfl ?_
  refine AW.callV (as := [vi _]) dX7_row_2 rfl rfl rfl okX7_schemaAt lkX7_58 W.o rfl rfl rfl rfl rfl rfl rfl (kX7_schemaN W C (by rw [eC]; exact hs.2) (AW.k1 ?_))
  refine AW.astore_n dX7_row_5 rfl ?_
  refine AW.aload_n dX7_row_6 rfl ?_
  refine AW.iload_n dX7_row_7 rfl ?_
  refine AW.callV (as := [vi _]) dX7_row_8 rfl rfl rfl okX4_isVersion lkX7_183 W5.o rfl rfl rfl rfl rfl rfl rfl (kX4_isVersion W5 B5 (AW.k1 ?_))
  refine AW.if_ne (tgt := 24) dX7_row_11 rfl (fun c_11 => ?_) (fun c_11 => ?_)
  · have hv := bz_n0.mp c_11
    rw [S1.hd] at hv
    refine AW.aload_n dX7_row_24 rfl ?_
    refine AW.getIE (j := 8) W.o dX7_row_25 lkX7_335 rfl rfl inC8 rfl (by exact e9.trans em) ?_
    refine AW.bipush dX7_row_28 bp_20 (by decide) ?_
    refine AW.icmp_lt (tgt := 44) dX7_row_30 rfl (fun c_30 => ?_) (fun c_30 => ?_)
    · have e0 : zcVer Z s t (Z 19 0 = 20) = 0 := cd2_z (fun z => z ⟨hs, hv⟩) (by omega)
      obtain ⟨v, ev⟩ := Int.eq_ofNat_of_zero_le hv.1
      refine AW.aload_n dX7_row_44 rfl ?_
      refine AW.getIE (j := 8) W.o dX7_row_45 lkX7_335 rfl rfl inC8 rfl (by exact e9.trans em) ?_
      refine AW.istore dX7_row_48 rfl ?_
      refine AW.new (kc := 4) (9, m, 0) n9.1 dX7_row_50 rfl inC4 lkX7_21 insX3 iniX3 rfl rfl ?_
      refine AW.dup dX7_row_53 rfl ?_
      refine AW.aload_n dX7_row_54 rfl ?_
      refine AW.callI (as := [vq _]) dX7_row_55 rfl rfl rfl okX3_init lkX7_340 rfl rfl rfl rfl rfl (kX3_n n9.1 n9.2 (fun g F W9 L9 V13 L13 e13 z13 => (AW.k0 ?_)))
      refine AW.astore dX7_row_58 rfl ?_
      refine AW.aload dX7_row_60 rfl ?_
      refine AW.getRE (j := 1) W9.o dX7_row_62 lkX7_320 rfl rfl inC4 rfl W9.r1 ?_
      refine AW.iload_n dX7_row_65 rfl ?_
      refine AW.putI (j := 0) dX7_row_66 V13.o rfl rfl inC6 lkX7_323 rfl (Or.inl rfl) (Or.inl rfl) ?_
      refine AW.iconst dX7_row_69 (by decide) ?_
      refine AW.istore dX7_row_70 rfl ?_
      exact AW.less (Nat.zero_le _) (Nat.zero_le _) (AW.locs [(6, vi ((0 : Nat) : Int)), (5, vr (9, m, 0)), (4, vi (m : Int)), (3, vr (4, s, 0)), (2, vi (v : Int)), (1, vi (s : Int)), (0, vr mF)] ⟨rfl, rfl, rfl, rfl, congrArg (fun z => some (vi z)) ev, rfl, rfl, trivial⟩ (lp (by omega) e0 v ev (by omega) 26 0 _ (by omega) (by omega) ⟨F.wI (fun z => z.2 ⟨rfl, rfl⟩), W9, (hI_n1 rfl L9), V13, by rw [← ev]; exact hI_e rfl rfl, hI_m (by decide) L13, fun f hf => by rw [if_neg (by omega)]; exact hI_n3 rfl (e13 f hf), fun i => hI_n3 rfl (z13 i)⟩))
    · refine AW.throwW dX7_row_33 dX7_row_36 dX7_row_37 dX7_row_40 dX7_row_43 rfl okTX7_50 strX7_338 rfl rfl rfl rfl rfl ?_
      exact k2 (cd2_2 (fun z => z ⟨hs, hv⟩) (by omega))
  · refine AW.throwS dX7_row_14 dX7_row_17 dX7_row_18 dX7_row_20 dX7_row_23 rfl okTX7_186 strX7_188 rfl rfl rfl rfl rfl ?_
    exact k1 (cd2_1 (fun z => bz_0.mp c_11 (by rw [S1.hd]; exact z.2)))
end J3
