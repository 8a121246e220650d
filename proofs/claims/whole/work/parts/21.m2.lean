/-! ===== the model: schemas ===== -/
section M2
variable {Q : AH → AO → Prop} {h : AH} {Z : ZT}
/-- bounds of the schemas' numbers -/
def BS (Z : ZT) : Prop := (0 ≤ Z 0 0 ∧ Z 0 0 ≤ 4) ∧ ∀ s : Nat, s < 4 → 0 ≤ Z 1 s ∧ Z 1 s ≤ 23 ∧ 0 ≤ Z 2 s ∧ Z 2 s ≤ 46 ∧ 0 ≤ Z 11 s ∧ Z 11 s ≤ 46
/-- flags are 0 or 1 -/
def BF (Z : ZT) : Prop := ∀ j, mkd j = 21 → ∀ i, Z j i = 0 ∨ Z j i = 1
def zatH (Z : ZT) (s n : Int) : Int := if 0 ≤ s ∧ s < Z 0 0 then zfind Z s (Z 1 s.toNat) n else -1
theorem kX8_atHead {s n : Int} (W : WfM h) (B : BS Z) (k : Q (mput h Z) (.inl (some (vi (zatH Z s n))))) : AC mX8_atHead fX8_atHead loX8_atHead 0 0 (mput h Z) [vr mO, vi s, vi n] Q := by
  have B0 := B.1
  refine AC.mk (by decide) (Nat.le_of_ble_eq_true rfl) ?_
  refine AW.aload_n dX8_atHead_0 rfl ?_
  refine AW.iload_n dX8_atHead_1 rfl ?_
  refine AW.callV (as := [vi _]) dX8_atHead_2 rfl rfl rfl okX8_isSchema lkX8_156 W.1 rfl rfl rfl rfl rfl rfl rfl (kX8_isSchema W (by assumption) (AW.k1 ?_))
  refine' AW.if_eqJ 24 (tgt := 23) dX8_atHead_5 rfl _ _ _
  rotate_left 2
  · intro c_5 k_5
    refine AW.iconst dX8_atHead_23 (by decide) ?_
    exact k_5
  · intro c_5 k_5
    have c := bz_n0.mp c_5
    have b := B.2 s.toNat (by omega)
    refine AW.aload_n dX8_atHead_8 rfl ?_
    refine AW.iload_n dX8_atHead_9 rfl ?_
    refine AW.aload_n dX8_atHead_10 rfl ?_
    refine AW.mA 1 W dX8_atHead_11 lkX8_7 rfl rfl ?_
    refine AW.iload_n dX8_atHead_14 rfl ?_
    refine AW.mldE (j := 1) W dX8_atHead_15 rfl rfl (by simp only [mlen]; omega) rfl ?_
    refine AW.iload_n dX8_atHead_16 rfl ?_
    refine AW.callV (as := [vi _, vi _, vi _]) dX8_atHead_17 rfl rfl rfl okX8_find lkX8_159 W.1 rfl rfl rfl rfl rfl rfl rfl (kX8_find W (by omega) (by omega) (by omega) (AW.k1 ?_))
    refine AW.goto (tgt := 24) dX8_atHead_20 rfl ?_
    exact k_5
  refine AW.iret dX8_atHead_24 rfl ?_
  refine fin1 k rfl ?_
  unfold zatH
  simp only [bz_0]
  (repeat' split) <;> simp_all
theorem kX8_schema (W : WfM h) (B : BS Z) (k1 : Z 0 0 = 4 → Q (mput h (zs Z 48 0 1)) (.inl (some (vi 0)))) (k2 : Z 0 0 < 4 → Q (mput h (zs (zs Z 48 0 0) 0 0 (Z 0 0 + 1))) (.inl (some (vi (Z 0 0))))) : AC mX8_schema fX8_schema loX8_schema 0 0 (mput h Z) [vr mO] Q := by
  have B0 := B.1
  refine AC.mk (by decide) (Nat.le_of_ble_eq_true rfl) ?_
  refine AW.aload_n dX8_schema_0 rfl ?_
  refine AW.aload_n dX8_schema_1 rfl ?_
  refine AW.mSE 0 W dX8_schema_2 lkX8_141 rfl rfl rfl ?_
  refine AW.iconst dX8_schema_5 (by decide) ?_
  refine' AW.icmp_neJ 14 (tgt := 13) dX8_schema_6 rfl _ _ _
  rotate_left 2
  · intro c_6 k_6
    refine AW.iconst dX8_schema_13 (by decide) ?_
    exact k_6
  · intro c_6 k_6
    refine AW.iconst dX8_schema_9 (by decide) ?_
    refine AW.goto (tgt := 14) dX8_schema_10 rfl ?_
    exact k_6
  refine AW.callV (as := [vi _]) dX8_schema_14 rfl rfl rfl okX8_fails lkX8_162 W.1 rfl rfl rfl rfl rfl rfl rfl (kX8_fails W (AW.k1 ?_))
  refine AW.if_eq (tgt := 22) dX8_schema_17 rfl (fun c_17 => ?_) (fun c_17 => ?_)
  · refine AW.aload_n dX8_schema_22 rfl ?_
    refine AW.dup dX8_schema_23 rfl ?_
    refine AW.mSE 0 W dX8_schema_24 lkX8_141 rfl rfl (by (repeat first | apply zs_ne rfl | apply zs_eq (by omega) | apply zs_miss (by omega)); exact rfl) ?_
    refine AW.iconst dX8_schema_27 (by decide) ?_
    refine AW.iaddB dX8_schema_28 (by omega) ?_
    refine AW.mSp 0 W dX8_schema_29 lkX8_141 rfl rfl rfl ?_
    refine AW.aload_n dX8_schema_32 rfl ?_
    refine AW.mSE 0 W dX8_schema_33 lkX8_141 rfl rfl (by (repeat first | apply zs_ne rfl | apply zs_eq (by omega) | apply zs_miss (by omega)); exact rfl) ?_
    refine AW.iconst dX8_schema_36 (by decide) ?_
    refine AW.isubB dX8_schema_37 (by omega) ?_
    refine AW.iret dX8_schema_38 rfl ?_
    have c := bz_0.mp c_17
    have e : Z 0 0 < 4 := by (repeat' split at c) <;> omega
    refine finZ (k2 e) ?_ (by omega)
    rw [if_pos (by omega)]
  · refine AW.iconst dX8_schema_20 (by decide) ?_
    refine AW.iret dX8_schema_21 rfl ?_
    have c := bz_n0.mp c_17
    have e : Z 0 0 = 4 := by (repeat' split at c) <;> omega
    refine finZ (k1 e) ?_ rfl
    rw [if_neg (by omega)]
theorem kX8_ends {s f a : Int} (W : WfM h) (hs : 0 ≤ s ∧ s < 4) (ea : Z 1 s.toNat = a) (ha : 0 ≤ a ∧ a ≤ 23) (hf : 0 ≤ f ∧ f < 48) (k : Q (mput h (zs Z 5 (48 * (24 * s + a) + f).toNat (-1))) (.inl none)) : AC mX8_ends fX8_ends loX8_ends 0 0 (mput h Z) [vr mO, vi s, vi f] Q := by
  refine AC.mk (by decide) (Nat.le_of_ble_eq_true rfl) ?_
  refine AW.aload_n dX8_ends_0 rfl ?_
  refine AW.mA 5 W dX8_ends_1 lkX8_22 rfl rfl ?_
  refine AW.iload_n dX8_ends_4 rfl ?_
  refine AW.aload_n dX8_ends_5 rfl ?_
  refine AW.mA 1 W dX8_ends_6 lkX8_7 rfl rfl ?_
  refine AW.iload_n dX8_ends_9 rfl ?_
  refine AW.mldE (j := 1) W dX8_ends_10 rfl rfl (by simp only [mlen]; omega) (by exact ea) ?_
  refine AW.iload_n dX8_ends_11 rfl ?_
  refine AW.callS (as := [vi _, vi _, vi _]) dX8_ends_12 rfl rfl rfl okX8_place lkX8_152 rfl rfl rfl rfl rfl rfl (kX8_place (by omega) (AW.k1 ?_))
  refine AW.iconst dX8_ends_15 (by decide) ?_
  refine AW.mst (j := 5) W dX8_ends_16 rfl rfl (by simp only [mlen]; omega) ?_
  refine AW.vret dX8_ends_17 rfl ?_
  exact k
/-- the copy of the head's fields -/
def zcp (Z : ZT) (s a : Int) (i : Nat) : ZT := fun j q => if (j = 5 ∨ j = 6) ∧ 48 * (24 * s + a) ≤ (q : Int) ∧ (q : Int) < 48 * (24 * s + a) + i then Z j (q - 48) else Z j q
theorem zcp_step {s a : Int} (hs : 0 ≤ s ∧ s < 4) (ha : 0 < a ∧ a < 24) (i : Nat) (hi : i < 48) :
    zs (zs (zcp Z s a i) 5 (48 * (24 * s + a) + (i : Int)).toNat (Z 5 (48 * (24 * s + (a - 1)) + (i : Int)).toNat)) 6 (48 * (24 * s + a) + (i : Int)).toNat (Z 6 (48 * (24 * s + (a - 1)) + (i : Int)).toNat) = zcp Z s a (i + 1) := by
  funext j q
  unfold zs zcp
  by_cases e6 : j = 6 ∧ q = (48 * (24 * s + a) + (i : Int)).toNat
  · obtain ⟨rfl, rfl⟩ := e6
    rw [if_pos ⟨rfl, rfl⟩, if_pos ⟨Or.inr rfl, by omega, by omega⟩]
    congr 1; omega
  · rw [if_neg e6]
    by_cases e5 : j = 5 ∧ q = (48 * (24 * s + a) + (i : Int)).toNat
    · obtain ⟨rfl, rfl⟩ := e5
      rw [if_pos ⟨rfl, rfl⟩, if_pos ⟨Or.inl rfl, by omega, by omega⟩]
      congr 1; omega
    · rw [if_neg e5]
      by_cases e : (j = 5 ∨ j = 6) ∧ 48 * (24 * s + a) ≤ (q : Int) ∧ (q : Int) < 48 * (24 * s + a) + (i : Nat)
      · rw [if_pos e, if_pos ⟨e.1, by omega, by omega⟩]
      · rw [if_neg e, if_neg]
        rintro ⟨e1, e2, e3⟩
        refine e ⟨e1, e2, ?_⟩
        rcases e1 with rfl | rfl
        · have := fun z => e5 ⟨rfl, z⟩
          omega
        · have := fun z => e6 ⟨rfl, z⟩
          omega
theorem zcp_0 {s a : Int} : zcp Z s a 0 = Z := by
  funext j q
  unfold zcp
  rw [if_neg]
  rintro ⟨-, e1, e2⟩
  omega
theorem zcp_o {s a : Int} {i j q : Nat} {x : Int} (hj : (j != 5 && j != 6) = true) (k : Z j q = x) : zcp Z s a i j q = x := by
  unfold zcp
  rw [if_neg, k]
  rintro ⟨e | e, -⟩ <;> subst e <;> simp at hj
theorem zcp_l {s a : Int} {i j q : Nat} {x : Int} (hq : (q : Int) < 48 * (24 * s + a)) (k : Z j q = x) : zcp Z s a i j q = x := by
  unfold zcp
  rw [if_neg, k]
  rintro ⟨-, e, -⟩
  omega
/-- a new version a, of a head with f fields -/
def zbeg (Z : ZT) (s a f w : Int) : ZT :=
  zs (zs (zs (zs (zs (zs (zcp Z s a f.toNat) 1 s.toNat a) 7 (24 * s + a).toNat w) 8 (2 * (24 * s + a)).toNat (-1)) 8 (2 * (24 * s + a) + 1).toNat (-1)) 9 (2 * (24 * s + a)).toNat (-1)) 9 (2 * (24 * s + a) + 1).toNat (-1)
theorem lX8_begins {fr lo : Nat} (hfr : fr = fX8_begins) (hlo : lo = loX8_begins) {mc ms bc bs : Nat} {s w a f : Int} (W : WfM h) (hs : 0 ≤ s ∧ s < 4) (ea : Z 1 s.toNat + 1 = a) (ef : Z 2 s.toNat = f) (ha : 0 < a ∧ a < 24) (hf : 0 ≤ f ∧ f ≤ 46) (F : ∀ i, Z 6 i = 0 ∨ Z 6 i = 1) (k : Q (mput h (zbeg Z s a f w)) (.inl (some (vi (24 * s + a))))) :
    ∀ (m i : Nat), (i : Int) ≤ f → f ≤ i + m → AW mX8_begins fr lo mc ms Q bc bs 12 (mput h (zcp Z s a i)) [(4, vi (i : Int)), (3, vi a), (0, vr mO), (1, vi s), (2, vi w)] [] := by
  subst hfr; subst hlo
  have fin : ∀ i : Nat, f = i → f.toNat = i := fun i e => by omega
  intro m
  induction m with
  | zero =>
    intro i h1 h2
    refine AW.iload dX8_begins_12 rfl ?_
    refine AW.aload_n dX8_begins_14 rfl ?_
    refine AW.mA 2 W dX8_begins_15 lkX8_13 rfl rfl ?_
    refine AW.iload_n dX8_begins_18 rfl ?_
    refine AW.mldE (j := 2) W dX8_begins_19 rfl rfl (by simp only [mlen]; omega) (by refine (zcp_o rfl ef)) ?_
    refine AW.icmp_ge (tgt := 81) dX8_begins_20 rfl (fun c_20 => ?_) (fun c_20 => ?_)
    · refine AW.aload_n dX8_begins_81 rfl ?_
      refine AW.mA 1 W dX8_begins_82 lkX8_7 rfl rfl ?_
      refine AW.iload_n dX8_begins_85 rfl ?_
      refine AW.iload_n dX8_begins_86 rfl ?_
      refine AW.mst (j := 1) W dX8_begins_87 rfl rfl (by simp only [mlen]; omega) ?_
      refine AW.bipush dX8_begins_88 bp_24 (by decide) ?_
      refine AW.iload_n dX8_begins_90 rfl ?_
      refine AW.imulB dX8_begins_91 (by omega) ?_
      refine AW.iload_n dX8_begins_92 rfl ?_
      refine AW.iaddB dX8_begins_93 (by omega) ?_
      refine AW.istore dX8_begins_94 rfl ?_
      refine AW.aload_n dX8_begins_96 rfl ?_
      refine AW.mA 7 W dX8_begins_97 lkX8_29 rfl rfl ?_
      refine AW.iload dX8_begins_100 rfl ?_
      refine AW.iload_n dX8_begins_102 rfl ?_
      refine AW.mst (j := 7) W dX8_begins_103 rfl rfl (by simp only [mlen]; omega) ?_
      refine AW.aload_n dX8_begins_104 rfl ?_
      refine AW.mA 8 W dX8_begins_105 lkX8_32 rfl rfl ?_
      refine AW.iconst dX8_begins_108 (by decide) ?_
      refine AW.iload dX8_begins_109 rfl ?_
      refine AW.imulB dX8_begins_111 (by omega) ?_
      refine AW.iconst dX8_begins_112 (by decide) ?_
      refine AW.mst (j := 8) W dX8_begins_113 rfl rfl (by simp only [mlen]; omega) ?_
      refine AW.pcs (pc2 := 114) rfl ?_
      refine AW.aload_n dX8_begins_114 rfl ?_
      refine AW.mA 8 W dX8_begins_115 lkX8_32 rfl rfl ?_
      refine AW.iconst dX8_begins_118 (by decide) ?_
      refine AW.iload dX8_begins_119 rfl ?_
      refine AW.imulB dX8_begins_121 (by omega) ?_
      refine AW.iconst dX8_begins_122 (by decide) ?_
      refine AW.iaddB dX8_begins_123 (by omega) ?_
      refine AW.iconst dX8_begins_124 (by decide) ?_
      refine AW.mst (j := 8) W dX8_begins_125 rfl rfl (by simp only [mlen]; omega) ?_
      refine AW.aload_n dX8_begins_126 rfl ?_
      refine AW.mA 9 W dX8_begins_127 lkX8_35 rfl rfl ?_
      refine AW.iconst dX8_begins_130 (by decide) ?_
      refine AW.iload dX8_begins_131 rfl ?_
      refine AW.imulB dX8_begins_133 (by omega) ?_
      refine AW.iconst dX8_begins_134 (by decide) ?_
      refine AW.mst (j := 9) W dX8_begins_135 rfl rfl (by simp only [mlen]; omega) ?_
      refine AW.aload_n dX8_begins_136 rfl ?_
      refine AW.mA 9 W dX8_begins_137 lkX8_35 rfl rfl ?_
      refine AW.iconst dX8_begins_140 (by decide) ?_
      refine AW.iload dX8_begins_141 rfl ?_
      refine AW.imulB dX8_begins_143 (by omega) ?_
      refine AW.iconst dX8_begins_144 (by decide) ?_
      refine AW.iaddB dX8_begins_145 (by omega) ?_
      refine AW.iconst dX8_begins_146 (by decide) ?_
      refine AW.pcs (pc2 := 147) rfl ?_
      refine AW.mst (j := 9) W dX8_begins_147 rfl rfl (by simp only [mlen]; omega) ?_
      refine AW.iload dX8_begins_148 rfl ?_
      refine AW.iret dX8_begins_150 rfl ?_
      refine finZ k ?_ rfl
      unfold zbeg
      rw [fin i (by omega)]
    · exact absurd c_20 (by omega)
  | succ m ih =>
    intro i h1 h2
    refine AW.iload dX8_begins_12 rfl ?_
    refine AW.aload_n dX8_begins_14 rfl ?_
    refine AW.mA 2 W dX8_begins_15 lkX8_13 rfl rfl ?_
    refine AW.iload_n dX8_begins_18 rfl ?_
    refine AW.mldE (j := 2) W dX8_begins_19 rfl rfl (by simp only [mlen]; omega) (by refine (zcp_o rfl ef)) ?_
    refine AW.icmp_ge (tgt := 81) dX8_begins_20 rfl (fun c_20 => ?_) (fun c_20 => ?_)
    · refine AW.aload_n dX8_begins_81 rfl ?_
      refine AW.mA 1 W dX8_begins_82 lkX8_7 rfl rfl ?_
      refine AW.iload_n dX8_begins_85 rfl ?_
      refine AW.iload_n dX8_begins_86 rfl ?_
      refine AW.mst (j := 1) W dX8_begins_87 rfl rfl (by simp only [mlen]; omega) ?_
      refine AW.bipush dX8_begins_88 bp_24 (by decide) ?_
      refine AW.iload_n dX8_begins_90 rfl ?_
      refine AW.imulB dX8_begins_91 (by omega) ?_
      refine AW.iload_n dX8_begins_92 rfl ?_
      refine AW.iaddB dX8_begins_93 (by omega) ?_
      refine AW.istore dX8_begins_94 rfl ?_
      refine AW.aload_n dX8_begins_96 rfl ?_
      refine AW.mA 7 W dX8_begins_97 lkX8_29 rfl rfl ?_
      refine AW.iload dX8_begins_100 rfl ?_
      refine AW.iload_n dX8_begins_102 rfl ?_
      refine AW.mst (j := 7) W dX8_begins_103 rfl rfl (by simp only [mlen]; omega) ?_
      refine AW.aload_n dX8_begins_104 rfl ?_
      refine AW.mA 8 W dX8_begins_105 lkX8_32 rfl rfl ?_
      refine AW.iconst dX8_begins_108 (by decide) ?_
      refine AW.iload dX8_begins_109 rfl ?_
      refine AW.imulB dX8_begins_111 (by omega) ?_
      refine AW.iconst dX8_begins_112 (by decide) ?_
      refine AW.mst (j := 8) W dX8_begins_113 rfl rfl (by simp only [mlen]; omega) ?_
      refine AW.pcs (pc2 := 114) rfl ?_
      refine AW.aload_n dX8_begins_114 rfl ?_
      refine AW.mA 8 W dX8_begins_115 lkX8_32 rfl rfl ?_
      refine AW.iconst dX8_begins_118 (by decide) ?_
      refine AW.iload dX8_begins_119 rfl ?_
      refine AW.imulB dX8_begins_121 (by omega) ?_
      refine AW.iconst dX8_begins_122 (by decide) ?_
      refine AW.iaddB dX8_begins_123 (by omega) ?_
      refine AW.iconst dX8_begins_124 (by decide) ?_
      refine AW.mst (j := 8) W dX8_begins_125 rfl rfl (by simp only [mlen]; omega) ?_
      refine AW.aload_n dX8_begins_126 rfl ?_
      refine AW.mA 9 W dX8_begins_127 lkX8_35 rfl rfl ?_
      refine AW.iconst dX8_begins_130 (by decide) ?_
      refine AW.iload dX8_begins_131 rfl ?_
      refine AW.imulB dX8_begins_133 (by omega) ?_
      refine AW.iconst dX8_begins_134 (by decide) ?_
      refine AW.mst (j := 9) W dX8_begins_135 rfl rfl (by simp only [mlen]; omega) ?_
      refine AW.aload_n dX8_begins_136 rfl ?_
      refine AW.mA 9 W dX8_begins_137 lkX8_35 rfl rfl ?_
      refine AW.iconst dX8_begins_140 (by decide) ?_
      refine AW.iload dX8_begins_141 rfl ?_
      refine AW.imulB dX8_begins_143 (by omega) ?_
      refine AW.iconst dX8_begins_144 (by decide) ?_
      refine AW.iaddB dX8_begins_145 (by omega) ?_
      refine AW.iconst dX8_begins_146 (by decide) ?_
      refine AW.pcs (pc2 := 147) rfl ?_
      refine AW.mst (j := 9) W dX8_begins_147 rfl rfl (by simp only [mlen]; omega) ?_
      refine AW.iload dX8_begins_148 rfl ?_
      refine AW.iret dX8_begins_150 rfl ?_
      refine finZ k ?_ rfl
      unfold zbeg
      rw [fin i (by omega)]
    · refine AW.aload_n dX8_begins_23 rfl ?_
      refine AW.mA 5 W dX8_begins_24 lkX8_22 rfl rfl ?_
      refine AW.iload_n dX8_begins_27 rfl ?_
      refine AW.iload_n dX8_begins_28 rfl ?_
      refine AW.iload dX8_begins_29 rfl ?_
      refine AW.callS (as := [vi _, vi _, vi _]) dX8_begins_31 rfl rfl rfl okX8_place lkX8_152 rfl rfl rfl rfl rfl rfl (kX8_place (by omega) (AW.k1 ?_))
      refine AW.aload_n dX8_begins_34 rfl ?_
      refine AW.mA 5 W dX8_begins_35 lkX8_22 rfl rfl ?_
      refine AW.iload_n dX8_begins_38 rfl ?_
      refine AW.iload_n dX8_begins_39 rfl ?_
      refine AW.iconst dX8_begins_40 (by decide) ?_
      refine AW.isubB dX8_begins_41 (by omega) ?_
      refine AW.iload dX8_begins_42 rfl ?_
      refine AW.callS (as := [vi _, vi _, vi _]) dX8_begins_44 rfl rfl rfl okX8_place lkX8_152 rfl rfl rfl rfl rfl rfl (kX8_place (by omega) (AW.k1 ?_))
      refine AW.mldE (j := 5) W dX8_begins_47 rfl rfl (by simp only [mlen]; omega) (by (repeat first | apply zs_ne rfl | apply zs_eq (by omega) | apply zs_miss (by omega) | apply zcp_o rfl | apply zcp_l (by omega)); exact rfl) ?_
      refine AW.mst (j := 5) W dX8_begins_48 rfl rfl (by simp only [mlen]; omega) ?_
      refine AW.aload_n dX8_begins_49 rfl ?_
      refine AW.mA 6 W dX8_begins_50 lkX8_25 rfl rfl ?_
      refine AW.iload_n dX8_begins_53 rfl ?_
      refine AW.iload_n dX8_begins_54 rfl ?_
      refine AW.iload dX8_begins_55 rfl ?_
      refine AW.callS (as := [vi _, vi _, vi _]) dX8_begins_57 rfl rfl rfl okX8_place lkX8_152 rfl rfl rfl rfl rfl rfl (kX8_place (by omega) (AW.k1 ?_))
      refine AW.aload_n dX8_begins_60 rfl ?_
      refine AW.pcs (pc2 := 61) rfl ?_
      refine AW.mA 6 W dX8_begins_61 lkX8_25 rfl rfl ?_
      refine AW.iload_n dX8_begins_64 rfl ?_
      refine AW.iload_n dX8_begins_65 rfl ?_
      refine AW.iconst dX8_begins_66 (by decide) ?_
      refine AW.isubB dX8_begins_67 (by omega) ?_
      refine AW.iload dX8_begins_68 rfl ?_
      refine AW.callS (as := [vi _, vi _, vi _]) dX8_begins_70 rfl rfl rfl okX8_place lkX8_152 rfl rfl rfl rfl rfl rfl (kX8_place (by omega) (AW.k1 ?_))
      refine AW.mldZE (j := 6) W dX8_begins_73 rfl rfl (by simp only [mlen]; omega) (by (repeat first | apply zs_ne rfl | apply zs_eq (by omega) | apply zs_miss (by omega) | apply zcp_o rfl | apply zcp_l (by omega)); exact rfl) ?_
      refine AW.mstZ (j := 6) W dX8_begins_74 rfl rfl (by simp only [mlen]; omega) (by exact F _) ?_
      refine AW.iincB dX8_begins_75 rfl rfl (by omega) ?_
      refine AW.goto (tgt := 12) dX8_begins_78 rfl ?_
      refine AW.mZ (zcp_step hs (by omega) i (by omega)) ?_
      exact ih (i + 1) (by omega) (by omega)
theorem kX8_begins {s w a f : Int} (W : WfM h) (hs : 0 ≤ s ∧ s < 4) (ea : Z 1 s.toNat + 1 = a) (ef : Z 2 s.toNat = f) (ha : 0 < a ∧ a < 24) (hf : 0 ≤ f ∧ f ≤ 46) (F : ∀ i, Z 6 i = 0 ∨ Z 6 i = 1) (k : Q (mput h (zbeg Z s a f w)) (.inl (some (vi (24 * s + a))))) : AC mX8_begins fX8_begins loX8_begins 0 0 (mput h Z) [vr mO, vi s, vi w] Q := by
  refine AC.mk (by decide) (Nat.le_of_ble_eq_true rfl) ?_
  refine AW.aload_n dX8_begins_0 rfl ?_
  refine AW.mA 1 W dX8_begins_1 lkX8_7 rfl rfl ?_
  refine AW.iload_n dX8_begins_4 rfl ?_
  refine AW.mldE (j := 1) W dX8_begins_5 rfl rfl (by simp only [mlen]; omega) rfl ?_
  refine AW.iconst dX8_begins_6 (by decide) ?_
  refine AW.iaddB dX8_begins_7 (by omega) ?_
  refine AW.top ea ?_
  refine AW.istore_n dX8_begins_8 rfl ?_
  refine AW.iconst dX8_begins_9 (by decide) ?_
  refine AW.istore dX8_begins_10 rfl ?_
  refine AW.mZ (zcp_0 (s := s) (a := a)).symm ?_
  exact lX8_begins rfl rfl W hs ea ef ha hf F k f.toNat 0 (by omega) (by omega)
/-- a new field f of the head a -/
def zmak (Z : ZT) (s a f n hw v nd : Int) : ZT :=
  zs (zs (zs (zs (zs Z 3 (48 * s + f).toNat hw) 4 (48 * s + f).toNat v) 5 (48 * (24 * s + a) + f).toNat n) 6 (48 * (24 * s + a) + f).toNat nd) 2 s.toNat (f + 1)
theorem kX8_makes {s n hw v nd a f : Int} (W : WfM h) (hs : 0 ≤ s ∧ s < 4) (ea : Z 1 s.toNat = a) (ef : Z 2 s.toNat = f) (ha : 0 ≤ a ∧ a ≤ 23) (hf : 0 ≤ f ∧ f < 48) (hnd : nd = 0 ∨ nd = 1) (k : Q (mput h (zmak Z s a f n hw v nd)) (.inl (some (vi f)))) : AC mX8_makes fX8_makes loX8_makes 0 0 (mput h Z) [vr mO, vi s, vi n, vi hw, vi v, vi nd] Q := by
  refine AC.mk (by decide) (Nat.le_of_ble_eq_true rfl) ?_
  refine AW.aload_n dX8_makes_0 rfl ?_
  refine AW.mA 2 W dX8_makes_1 lkX8_13 rfl rfl ?_
  refine AW.iload_n dX8_makes_4 rfl ?_
  refine AW.mldE (j := 2) W dX8_makes_5 rfl rfl (by simp only [mlen]; omega) (by exact ef) ?_
  refine AW.istore dX8_makes_6 rfl ?_
  refine AW.aload_n dX8_makes_8 rfl ?_
  refine AW.mA 3 W dX8_makes_9 lkX8_16 rfl rfl ?_
  refine AW.bipush dX8_makes_12 bp_48 (by decide) ?_
  refine AW.iload_n dX8_makes_14 rfl ?_
  refine AW.imulB dX8_makes_15 (by omega) ?_
  refine AW.iload dX8_makes_16 rfl ?_
  refine AW.iaddB dX8_makes_18 (by omega) ?_
  refine AW.iload_n dX8_makes_19 rfl ?_
  refine AW.mst (j := 3) W dX8_makes_20 rfl rfl (by simp only [mlen]; omega) ?_
  refine AW.aload_n dX8_makes_21 rfl ?_
  refine AW.mA 4 W dX8_makes_22 lkX8_19 rfl rfl ?_
  refine AW.bipush dX8_makes_25 bp_48 (by decide) ?_
  refine AW.iload_n dX8_makes_27 rfl ?_
  refine AW.imulB dX8_makes_28 (by omega) ?_
  refine AW.iload dX8_makes_29 rfl ?_
  refine AW.iaddB dX8_makes_31 (by omega) ?_
  refine AW.iload dX8_makes_32 rfl ?_
  refine AW.mst (j := 4) W dX8_makes_34 rfl rfl (by simp only [mlen]; omega) ?_
  refine AW.pcs (pc2 := 35) rfl ?_
  refine AW.aload_n dX8_makes_35 rfl ?_
  refine AW.mA 5 W dX8_makes_36 lkX8_22 rfl rfl ?_
  refine AW.iload_n dX8_makes_39 rfl ?_
  refine AW.aload_n dX8_makes_40 rfl ?_
  refine AW.mA 1 W dX8_makes_41 lkX8_7 rfl rfl ?_
  refine AW.iload_n dX8_makes_44 rfl ?_
  refine AW.mldE (j := 1) W dX8_makes_45 rfl rfl (by simp only [mlen]; omega) (by apply zs_ne rfl; apply zs_ne rfl; exact ea) ?_
  refine AW.iload dX8_makes_46 rfl ?_
  refine AW.callS (as := [vi _, vi _, vi _]) dX8_makes_48 rfl rfl rfl okX8_place lkX8_152 rfl rfl rfl rfl rfl rfl (kX8_place (by omega) (AW.k1 ?_))
  refine AW.iload_n dX8_makes_51 rfl ?_
  refine AW.mst (j := 5) W dX8_makes_52 rfl rfl (by simp only [mlen]; omega) ?_
  refine AW.aload_n dX8_makes_53 rfl ?_
  refine AW.mA 6 W dX8_makes_54 lkX8_25 rfl rfl ?_
  refine AW.iload_n dX8_makes_57 rfl ?_
  refine AW.aload_n dX8_makes_58 rfl ?_
  refine AW.mA 1 W dX8_makes_59 lkX8_7 rfl rfl ?_
  refine AW.iload_n dX8_makes_62 rfl ?_
  refine AW.mldE (j := 1) W dX8_makes_63 rfl rfl (by simp only [mlen]; omega) (by apply zs_ne rfl; apply zs_ne rfl; apply zs_ne rfl; exact ea) ?_
  refine AW.iload dX8_makes_64 rfl ?_
  refine AW.callS (as := [vi _, vi _, vi _]) dX8_makes_66 rfl rfl rfl okX8_place lkX8_152 rfl rfl rfl rfl rfl rfl (kX8_place (by omega) (AW.k1 ?_))
  refine AW.iload dX8_makes_69 rfl ?_
  refine AW.mstZ (j := 6) W dX8_makes_71 rfl rfl (by simp only [mlen]; omega) (by exact hnd) ?_
  refine AW.aload_n dX8_makes_72 rfl ?_
  refine AW.mA 2 W dX8_makes_73 lkX8_13 rfl rfl ?_
  refine AW.pcs (pc2 := 76) rfl ?_
  refine AW.iload_n dX8_makes_76 rfl ?_
  refine AW.dup2 dX8_makes_77 rfl rfl ?_
  refine AW.mldE (j := 2) W dX8_makes_78 rfl rfl (by simp only [mlen]; omega) (by apply zs_ne rfl; apply zs_ne rfl; apply zs_ne rfl; apply zs_ne rfl; exact ef) ?_
  refine AW.iconst dX8_makes_79 (by decide) ?_
  refine AW.iaddB dX8_makes_80 (by omega) ?_
  refine AW.mst (j := 2) W dX8_makes_81 rfl rfl (by simp only [mlen]; omega) ?_
  refine AW.iload dX8_makes_82 rfl ?_
  refine AW.iret dX8_makes_84 rfl ?_
  exact k
/-- whether a drop waits -/
def zwA (Z : ZT) (s f : Int) : Nat → Int
  | 0 => 0
  | k + 1 => if zwA Z s f k = 0 then bz (Z 12 (48 * s + (k : Int)).toNat = f) else 1
def zwt (Z : ZT) (s f : Int) : Int := zwA Z s f (Z 11 s.toNat).toNat
theorem zwA_01 {s f : Int} : ∀ k, zwA Z s f k = 0 ∨ zwA Z s f k = 1
  | 0 => Or.inl rfl
  | k + 1 => by unfold zwA; split; exact bz01 _; exact Or.inr rfl
theorem lX8_isWaiting {fr lo : Nat} (hfr : fr = fX8_isWaiting) (hlo : lo = loX8_isWaiting) {mc ms bc bs : Nat} {s f : Int} (W : WfM h) (hs : 0 ≤ s ∧ s < 4) (hf : 0 ≤ Z 11 s.toNat ∧ Z 11 s.toNat ≤ 48) (k : Q (mput h Z) (.inl (some (vi (zwt Z s f))))) :
    ∀ (m i : Nat), (i : Int) ≤ Z 11 s.toNat → Z 11 s.toNat ≤ i + m → AW mX8_isWaiting fr lo mc ms Q bc bs 5 (mput h Z) [(4, vi (i : Int)), (3, vi (zwA Z s f i)), (0, vr mO), (1, vi s), (2, vi f)] [] := by
  subst hfr; subst hlo
  intro m
  induction m with
  | zero =>
    intro i h1 h2
    refine AW.iload dX8_isWaiting_5 rfl ?_
    refine AW.aload_n dX8_isWaiting_7 rfl ?_
    refine AW.mA 11 W dX8_isWaiting_8 lkX8_41 rfl rfl ?_
    refine AW.iload_n dX8_isWaiting_11 rfl ?_
    refine AW.mldE (j := 11) W dX8_isWaiting_12 rfl rfl (by simp only [mlen]; omega) rfl ?_
    refine AW.icmp_ge (tgt := 48) dX8_isWaiting_13 rfl (fun c_13 => ?_) (fun c_13 => ?_)
    · refine AW.iload_n dX8_isWaiting_48 rfl ?_
      refine AW.zret dX8_isWaiting_49 rfl ?_ ?_
      · exact zwA_01 i
      refine fin1 k rfl ?_
      unfold zwt
      congr 1
      omega
    · exact absurd c_13 (by omega)
  | succ m ih =>
    intro i h1 h2
    refine AW.iload dX8_isWaiting_5 rfl ?_
    refine AW.aload_n dX8_isWaiting_7 rfl ?_
    refine AW.mA 11 W dX8_isWaiting_8 lkX8_41 rfl rfl ?_
    refine AW.iload_n dX8_isWaiting_11 rfl ?_
    refine AW.mldE (j := 11) W dX8_isWaiting_12 rfl rfl (by simp only [mlen]; omega) rfl ?_
    refine AW.icmp_ge (tgt := 48) dX8_isWaiting_13 rfl (fun c_13 => ?_) (fun c_13 => ?_)
    · refine AW.iload_n dX8_isWaiting_48 rfl ?_
      refine AW.zret dX8_isWaiting_49 rfl ?_ ?_
      · exact zwA_01 i
      refine fin1 k rfl ?_
      unfold zwt
      congr 1
      omega
    · refine AW.iload_n dX8_isWaiting_16 rfl ?_
      refine' AW.if_neJ 41 (tgt := 36) dX8_isWaiting_17 rfl _ _ _
      rotate_left 2
      · intro c_17 k_17
        refine AW.iconst dX8_isWaiting_36 (by decide) ?_
        refine AW.goto (tgt := 41) dX8_isWaiting_37 rfl ?_
        exact k_17
      · intro c_17 k_17
        refine AW.aload_n dX8_isWaiting_20 rfl ?_
        refine AW.mA 12 W dX8_isWaiting_21 lkX8_44 rfl rfl ?_
        refine AW.bipush dX8_isWaiting_24 bp_48 (by decide) ?_
        refine AW.iload_n dX8_isWaiting_26 rfl ?_
        refine AW.imulB dX8_isWaiting_27 (by omega) ?_
        refine AW.iload dX8_isWaiting_28 rfl ?_
        refine AW.iaddB dX8_isWaiting_30 (by omega) ?_
        refine AW.mldE (j := 12) W dX8_isWaiting_31 rfl rfl (by simp only [mlen]; omega) rfl ?_
        refine AW.iload_n dX8_isWaiting_32 rfl ?_
        refine' AW.icmp_neJ 41 (tgt := 40) dX8_isWaiting_33 rfl _ _ _
        rotate_left 2
        · intro c_33 k_33
          refine AW.iconst dX8_isWaiting_40 (by decide) ?_
          exact k_33
        · intro c_33 k_33
          refine AW.iconst dX8_isWaiting_36 (by decide) ?_
          refine AW.goto (tgt := 41) dX8_isWaiting_37 rfl ?_
          exact k_33
        exact k_17
      refine AW.istore_n dX8_isWaiting_41 rfl ?_
      refine AW.iincB dX8_isWaiting_42 rfl rfl (by omega) ?_
      refine AW.goto (tgt := 5) dX8_isWaiting_45 rfl ?_
      refine AW.locs [(4, vi ((i + 1 : Nat) : Int)), (3, vi (zwA Z s f (i + 1))), (0, vr mO), (1, vi s), (2, vi f)] ⟨rfl, ?_, rfl, rfl, rfl, trivial⟩ (ih (i + 1) (by omega) (by omega))
      show some (vi _) = some (vi _)
      congr 2
      simp only [zwA, bz]
      (repeat' split) <;> simp_all
theorem kX8_isWaiting {s f : Int} (W : WfM h) (hs : 0 ≤ s ∧ s < 4) (hf : 0 ≤ Z 11 s.toNat ∧ Z 11 s.toNat ≤ 48) (k : Q (mput h Z) (.inl (some (vi (zwt Z s f))))) : AC mX8_isWaiting fX8_isWaiting loX8_isWaiting 0 0 (mput h Z) [vr mO, vi s, vi f] Q := by
  refine AC.mk (by decide) (Nat.le_of_ble_eq_true rfl) ?_
  refine AW.iconst dX8_isWaiting_0 (by decide) ?_
  refine AW.istore_n dX8_isWaiting_1 rfl ?_
  refine AW.iconst dX8_isWaiting_2 (by decide) ?_
  refine AW.istore dX8_isWaiting_3 rfl ?_
  exact lX8_isWaiting rfl rfl W hs hf k (Z 11 s.toNat).toNat 0 (by omega) (by omega)
def ztur (v f t : Int) : Int := if v = -1 ∨ f = t then v else if f = 1 then v else if t = 1 then bz (0 < v) else if f = 0 then v.tdiv 10 else wr (10 * v)
theorem kX8_turned {v f t : Int} (k : Q h (.inl (some (vi (ztur v f t))))) : AC mX8_turned fX8_turned loX8_turned 0 0 h [vi v, vi f, vi t] Q := by
  refine AC.mk (by decide) (Nat.le_of_ble_eq_true rfl) ?_
  refine AW.iload_n dX8_turned_0 rfl ?_
  refine AW.iconst dX8_turned_1 (by decide) ?_
  refine AW.icmp_eq (tgt := 10) dX8_turned_2 rfl (fun c_2 => ?_) (fun c_2 => ?_)
  · refine AW.iload_n dX8_turned_10 rfl ?_
    refine AW.iret dX8_turned_11 rfl ?_
    refine fin1 k rfl ?_
    unfold ztur
    rw [if_pos]
    omega
  · refine AW.iload_n dX8_turned_5 rfl ?_
    refine AW.iload_n dX8_turned_6 rfl ?_
    refine AW.icmp_ne (tgt := 12) dX8_turned_7 rfl (fun c_7 => ?_) (fun c_7 => ?_)
    · refine AW.iload_n dX8_turned_12 rfl ?_
      refine AW.iconst dX8_turned_13 (by decide) ?_
      refine' AW.icmp_neJ 53 (tgt := 21) dX8_turned_14 rfl _ _ _
      rotate_left 2
      · intro c_14 k_14
        refine AW.iload_n dX8_turned_21 rfl ?_
        refine AW.iconst dX8_turned_22 (by decide) ?_
        refine' AW.icmp_neJ 53 (tgt := 38) dX8_turned_23 rfl _ _ _
        rotate_left 2
        · intro c_23 k_23
          refine AW.iload_n dX8_turned_38 rfl ?_
          refine' AW.if_neJ 53 (tgt := 49) dX8_turned_39 rfl _ _ _
          rotate_left 2
          · intro c_39 k_39
            refine AW.bipush dX8_turned_49 bp_10 (by decide) ?_
            refine AW.iload_n dX8_turned_51 rfl ?_
            refine AW.imul dX8_turned_52 ?_
            exact k_39
          · intro c_39 k_39
            refine AW.iload_n dX8_turned_42 rfl ?_
            refine AW.bipush dX8_turned_43 bp_10 (by decide) ?_
            refine AW.idiv dX8_turned_45 (by omega) ?_
            refine AW.goto (tgt := 53) dX8_turned_46 rfl ?_
            exact k_39
          exact k_23
        · intro c_23 k_23
          refine AW.iload_n dX8_turned_26 rfl ?_
          refine' AW.if_leJ 53 (tgt := 34) dX8_turned_27 rfl _ _ _
          rotate_left 2
          · intro c_27 k_27
            refine AW.iconst dX8_turned_34 (by decide) ?_
            refine AW.goto (tgt := 53) dX8_turned_35 rfl ?_
            exact k_27
          · intro c_27 k_27
            refine AW.iconst dX8_turned_30 (by decide) ?_
            refine AW.goto (tgt := 53) dX8_turned_31 rfl ?_
            exact k_27
          exact k_23
        exact k_14
      · intro c_14 k_14
        refine AW.iload_n dX8_turned_17 rfl ?_
        refine AW.goto (tgt := 53) dX8_turned_18 rfl ?_
        exact k_14
      refine AW.iret dX8_turned_53 rfl ?_
      refine fin1 k rfl ?_
      have e : ¬ (v = -1 ∨ f = t) := by omega
      unfold ztur bz
      rw [if_neg e]
      (repeat' split) <;> first | rfl | omega
    · refine AW.iload_n dX8_turned_10 rfl ?_
      refine AW.iret dX8_turned_11 rfl ?_
      refine fin1 k rfl ?_
      unfold ztur
      rw [if_pos]
      omega
def zfre (Z : ZT) (s f : Int) : Int := bz (Z 3 (48 * s + f).toNat = 0 ∧ zwt Z s f = 0 ∧ ¬ Z 1 s.toNat = 23)
theorem kX8_isFree {s f : Int} (W : WfM h) (B : BS Z) (hs : 0 ≤ s ∧ s < 4) (hf : 0 ≤ f ∧ f < 48) (k : Q (mput h Z) (.inl (some (vi (zfre Z s f))))) : AC mX8_isFree fX8_isFree loX8_isFree 0 0 (mput h Z) [vr mO, vi s, vi f] Q := by
  have b := B.2 s.toNat (by omega)
  refine AC.mk (by decide) (Nat.le_of_ble_eq_true rfl) ?_
  refine AW.aload_n dX8_isFree_0 rfl ?_
  refine AW.mA 3 W dX8_isFree_1 lkX8_16 rfl rfl ?_
  refine AW.bipush dX8_isFree_4 bp_48 (by decide) ?_
  refine AW.iload_n dX8_isFree_6 rfl ?_
  refine AW.imulB dX8_isFree_7 (by omega) ?_
  refine AW.iload_n dX8_isFree_8 rfl ?_
  refine AW.iaddB dX8_isFree_9 (by omega) ?_
  refine AW.mldE (j := 3) W dX8_isFree_10 rfl rfl (by simp only [mlen]; omega) rfl ?_
  refine' AW.if_neJ 36 (tgt := 35) dX8_isFree_11 rfl _ _ _
  rotate_left 2
  · intro c_11 k_11
    refine AW.iconst dX8_isFree_35 (by decide) ?_
    exact k_11
  · intro c_11 k_11
    refine AW.aload_n dX8_isFree_14 rfl ?_
    refine AW.iload_n dX8_isFree_15 rfl ?_
    refine AW.iload_n dX8_isFree_16 rfl ?_
    refine AW.callV (as := [vi _, vi _]) dX8_isFree_17 rfl rfl rfl okX8_isWaiting lkX8_183 W.1 rfl rfl rfl rfl rfl rfl rfl (kX8_isWaiting W (by omega) (by omega) (AW.k1 ?_))
    refine' AW.if_neJ 36 (tgt := 35) dX8_isFree_20 rfl _ _ _
    rotate_left 2
    · intro c_20 k_20
      refine AW.iconst dX8_isFree_35 (by decide) ?_
      exact k_20
    · intro c_20 k_20
      refine AW.aload_n dX8_isFree_23 rfl ?_
      refine AW.iload_n dX8_isFree_24 rfl ?_
      refine AW.callV (as := [vi _]) dX8_isFree_25 rfl rfl rfl okX8_isLast lkX8_173 W.1 rfl rfl rfl rfl rfl rfl rfl (kX8_isLast W (by omega) (AW.k1 ?_))
      refine' AW.if_neJ 36 (tgt := 35) dX8_isFree_28 rfl _ _ _
      rotate_left 2
      · intro c_28 k_28
        refine AW.iconst dX8_isFree_35 (by decide) ?_
        exact k_28
      · intro c_28 k_28
        refine AW.iconst dX8_isFree_31 (by decide) ?_
        refine AW.goto (tgt := 36) dX8_isFree_32 rfl ?_
        exact k_28
      exact k_20
    exact k_11
  refine AW.zret dX8_isFree_36 rfl ?_ ?_
  · (repeat' split) <;> simp
  refine fin1 k rfl ?_
  unfold zfre
  simp only [bz_0]
  unfold bz
  (repeat' split) <;> simp_all
theorem kX8_isOther {a b : Int} (k : Q h (.inl (some (vi (bz (a ≠ -1 ∧ a ≠ b)))))) : AC mX8_isOther fX8_isOther loX8_isOther 0 0 h [vr mO, vi a, vi b] Q := by
  refine AC.mk (by decide) (Nat.le_of_ble_eq_true rfl) ?_
  refine AW.iload_n dX8_isOther_0 rfl ?_
  refine AW.iconst dX8_isOther_1 (by decide) ?_
  refine' AW.icmp_eqJ 15 (tgt := 14) dX8_isOther_2 rfl _ _ _
  rotate_left 2
  · intro c_2 k_2
    refine AW.iconst dX8_isOther_14 (by decide) ?_
    exact k_2
  · intro c_2 k_2
    refine AW.iload_n dX8_isOther_5 rfl ?_
    refine AW.iload_n dX8_isOther_6 rfl ?_
    refine' AW.icmp_eqJ 15 (tgt := 14) dX8_isOther_7 rfl _ _ _
    rotate_left 2
    · intro c_7 k_7
      refine AW.iconst dX8_isOther_14 (by decide) ?_
      exact k_7
    · intro c_7 k_7
      refine AW.iconst dX8_isOther_10 (by decide) ?_
      refine AW.goto (tgt := 15) dX8_isOther_11 rfl ?_
      exact k_7
    exact k_2
  refine AW.zret dX8_isOther_15 rfl ?_ ?_
  · (repeat' split) <;> simp
  refine fin1 k rfl ?_
  unfold bz
  (repeat' split) <;> simp_all
def zjoi (a b f : Int) : Int := if a = -1 ∨ b = -1 then -1 else if 9999 < wr (wr (f * a) + b) then 9999 else wr (wr (f * a) + b)
theorem kX8_joined {a b f : Int} (k : Q h (.inl (some (vi (zjoi a b f))))) : AC mX8_joined fX8_joined loX8_joined 0 0 h [vi a, vi b, vi f] Q := by
  refine AC.mk (by decide) (Nat.le_of_ble_eq_true rfl) ?_
  refine AW.iload_n dX8_joined_0 rfl ?_
  refine AW.iload_n dX8_joined_1 rfl ?_
  refine AW.imul dX8_joined_2 ?_
  refine AW.iload_n dX8_joined_3 rfl ?_
  refine AW.iadd dX8_joined_4 ?_
  refine AW.istore_n dX8_joined_5 rfl ?_
  refine AW.iload_n dX8_joined_6 rfl ?_
  refine AW.iconst dX8_joined_7 (by decide) ?_
  refine' AW.icmp_eqJ 34 (tgt := 16) dX8_joined_8 rfl _ _ _
  rotate_left 2
  · intro c_8 k_8
    refine AW.iconst dX8_joined_16 (by decide) ?_
    refine AW.goto (tgt := 34) dX8_joined_17 rfl ?_
    exact k_8
  · intro c_8 k_8
    refine AW.iload_n dX8_joined_11 rfl ?_
    refine AW.iconst dX8_joined_12 (by decide) ?_
    refine' AW.icmp_neJ 34 (tgt := 20) dX8_joined_13 rfl _ _ _
    rotate_left 2
    · intro c_13 k_13
      refine AW.iload_n dX8_joined_20 rfl ?_
      refine AW.sipush dX8_joined_21 sp_9999 (by decide) ?_
      refine' AW.icmp_leJ 34 (tgt := 33) dX8_joined_24 rfl _ _ _
      rotate_left 2
      · intro c_24 k_24
        refine AW.iload_n dX8_joined_33 rfl ?_
        exact k_24
      · intro c_24 k_24
        refine AW.sipush dX8_joined_27 sp_9999 (by decide) ?_
        refine AW.goto (tgt := 34) dX8_joined_30 rfl ?_
        exact k_24
      exact k_13
    · intro c_13 k_13
      refine AW.iconst dX8_joined_16 (by decide) ?_
      refine AW.goto (tgt := 34) dX8_joined_17 rfl ?_
      exact k_13
    exact k_8
  refine AW.iret dX8_joined_34 rfl ?_
  refine fin1 k rfl ?_
  unfold zjoi
  (repeat' split) <;> omega
end M2
