/-! ===== the model: copies, counts, read ===== -/
section M16
variable {Q : AH → AO → Prop} {h : AH} {Z : ZT}
/-- the first n of a block laid over another -/
def zbl (Z : ZT) (j d s n : Nat) : ZT := fun j' i => if j' = j ∧ d ≤ i ∧ i < d + n then Z j (i - d + s) else Z j' i
theorem zbl_0 {j d s : Nat} : zbl Z j d s 0 = Z := by
  funext a b; unfold zbl; rw [if_neg]; rintro ⟨-, e1, e2⟩; omega
theorem zbl_ne {j d s n j' i' : Nat} {x : Int} (hj : Nat.beq j' j = false) (k : Z j' i' = x) : zbl Z j d s n j' i' = x := by
  unfold zbl
  rw [if_neg, k]
  rintro ⟨rfl, -⟩
  simp at hj
theorem zbl_out {j d s n i' : Nat} {x : Int} (hi : i' < d ∨ d + n ≤ i') (k : Z j i' = x) : zbl Z j d s n j i' = x := by
  unfold zbl
  rw [if_neg, k]
  rintro ⟨-, e1, e2⟩
  omega
theorem zbl_o {j d s n j' : Nat} (hj : Nat.beq j' j = false) : zbl Z j d s n j' = Z j' := by funext q; exact zbl_ne hj rfl
theorem zbl_step {j d s n i : Nat} {v : Int} (hi : i = d + n) (hv : v = Z j (n + s)) : zs (zbl Z j d s n) j i v = zbl Z j d s (n + 1) := by
  subst hi; subst hv
  funext a b
  unfold zs zbl
  by_cases e : a = j ∧ b = d + n
  · rw [if_pos e, if_pos ⟨e.1, by omega, by omega⟩, e.2]
    congr 1; omega
  · rw [if_neg e]
    by_cases e2 : a = j ∧ d ≤ b ∧ b < d + n
    · rw [if_pos e2, if_pos ⟨e2.1, by omega, by omega⟩]
    · rw [if_neg e2, if_neg]
      rintro ⟨z1, z2, z3⟩
      refine e2 ⟨z1, z2, ?_⟩
      have := fun z => e ⟨z1, z⟩
      omega
theorem zs_zbl {j d s n j' i : Nat} {v : Int} (hj : Nat.beq j' j = false) : zs (zbl Z j d s n) j' i v = zbl (zs Z j' i v) j d s n := by
  have hj' : ¬ j' = j := fun e => by subst e; simp at hj
  funext a b
  unfold zs zbl
  dsimp only
  by_cases e : a = j' ∧ b = i
  · rw [if_pos e, if_neg (fun z => hj' (e.1.symm.trans z.1)), if_pos e]
  · rw [if_neg e]
    by_cases e2 : a = j ∧ d ≤ b ∧ b < d + n
    · rw [if_pos e2, if_pos e2, if_neg (fun z => hj' z.1.symm)]
    · rw [if_neg e2, if_neg e2, if_neg e]
theorem cpy_step {d2 s2 d5 s5 i q q1 q2 : Nat} {v v1 v2 : Int} (hq : q = d2 + i) (hv : v = Z 24 (i + s2)) (hq1 : q1 = d5 + 2 * i) (hv1 : v1 = Z 25 (2 * i + s5)) (hq2 : q2 = d5 + (2 * i + 1)) (hv2 : v2 = Z 25 (2 * i + 1 + s5)) :
    zs (zs (zs (zbl (zbl Z 24 d2 s2 i) 25 d5 s5 (2 * i)) 24 q v) 25 q1 v1) 25 q2 v2 = zbl (zbl Z 24 d2 s2 (i + 1)) 25 d5 s5 (2 * (i + 1)) := by
  rw [zs_zbl rfl, zbl_step hq hv, zbl_step hq1 (hv1.trans (zbl_ne rfl rfl).symm), zbl_step hq2 (hv2.trans (zbl_ne rfl rfl).symm)]
  rfl
theorem zbl_z3 {t l w : Nat → Int} {j d s n : Nat} (hj : Nat.beq j 43 = false) (hj' : Nat.beq j 44 = false) (hj2 : Nat.beq j 45 = false) : zbl (z3 Z t l w) j d s n = z3 (zbl Z j d s n) t l w := by
  have e : ∀ k, Nat.beq j k = false → ¬ j = k := fun k q e => by subst e; simp at q
  funext a b
  unfold zbl z3 zrow
  have e1 := e 43 hj
  have e2 := e 44 hj'
  have e3 := e 45 hj2
  by_cases q1 : a = 43
  · subst q1; simp [Ne.symm e1]
  · by_cases q2 : a = 44
    · subst q2; simp [Ne.symm e2]
    · by_cases q3 : a = 45
      · subst q3; simp [Ne.symm e3]
      · simp [q1, q2, q3, e1, e2, e3]
def zcp0 (Z : ZT) (a b : Nat) : ZT := zs (zs (zs Z 20 b (Z 20 a)) 21 b (Z 21 a)) 23 b (Z 23 a)
def zcpy (Z : ZT) (a b : Nat) : ZT := zbl (zbl (zbl (zcp0 Z a b) 22 (48 * b) (48 * a) 48) 24 (24 * b) (24 * a) 24) 25 (48 * b) (48 * a) 48
theorem kX8_copies {a b : Int} (W : WfM h) (ha : 0 ≤ a ∧ a < 22) (hb : 0 ≤ b ∧ b < 22) (hab : ¬ a = b) (k : Q (mput h (zcpy Z a.toNat b.toNat)) (.inl none)) :
    AC mX8_copies fX8_copies loX8_copies 0 0 (mput h Z) [vr mO, vi a, vi b] Q := by
  refine AC.mk (by decide) (Nat.le_of_ble_eq_true rfl) ?_
  have lp2 : ∀ (m i : Nat), i ≤ 24 → 24 ≤ i + m → AW mX8_copies fX8_copies loX8_copies 0 0 Q 0 0 74 (mput h (zbl (zbl (zbl (zcp0 Z a.toNat b.toNat) 22 (48 * b.toNat) (48 * a.toNat) 48) 24 (24 * b.toNat) (24 * a.toNat) i) 25 (48 * b.toNat) (48 * a.toNat) (2 * i))) [(3, vi (i : Int)), (0, vr mO), (1, vi a), (2, vi b)] [] := by
    intro m
    induction m with
    | zero =>
      intro i h1 h2
      have e : i = 24 := by omega
      subst e
      refine AW.iload_n dX8_copies_74 rfl ?_
      refine AW.bipush dX8_copies_75 bp_24 (by decide) ?_
      refine AW.icmp_ge (tgt := 164) dX8_copies_77 rfl (fun c_77 => ?_) (fun c_77 => ?_)
      · refine AW.vret dX8_copies_164 rfl ?_
        exact k
      · exact absurd c_77 (by omega)
    | succ m ih =>
      intro i h1 h2
      by_cases e : i = 24
      · exact ih i h1 (by omega)
      refine AW.iload_n dX8_copies_74 rfl ?_
      refine AW.bipush dX8_copies_75 bp_24 (by decide) ?_
      refine AW.icmp_ge (tgt := 164) dX8_copies_77 rfl (fun c_77 => ?_) (fun c_77 => ?_)
      · exact absurd c_77 (by omega)
      · refine AW.aload_n dX8_copies_80 rfl ?_
        refine AW.mA 24 W dX8_copies_81 lkX8_74 rfl rfl ?_
        refine AW.bipush dX8_copies_84 bp_24 (by decide) ?_
        refine AW.iload_n dX8_copies_86 rfl ?_
        refine AW.imulB dX8_copies_87 (by omega) ?_
        refine AW.iload_n dX8_copies_88 rfl ?_
        refine AW.iaddB dX8_copies_89 (by omega) ?_
        refine AW.aload_n dX8_copies_90 rfl ?_
        refine AW.mA 24 W dX8_copies_91 lkX8_74 rfl rfl ?_
        refine AW.bipush dX8_copies_94 bp_24 (by decide) ?_
        refine AW.iload_n dX8_copies_96 rfl ?_
        refine AW.imulB dX8_copies_97 (by omega) ?_
        refine AW.iload_n dX8_copies_98 rfl ?_
        refine AW.iaddB dX8_copies_99 (by omega) ?_
        refine AW.mldE (j := 24) W dX8_copies_100 rfl rfl (by simp only [mlen]; omega) (by (repeat first | apply zs_ne rfl | apply zs_eq (by omega) | apply zs_miss (by omega) | apply zbl_ne rfl | apply zbl_out (by omega)); exact rfl) ?_
        refine AW.mst (j := 24) W dX8_copies_101 rfl rfl (by simp only [mlen]; omega) ?_
        refine AW.aload_n dX8_copies_102 rfl ?_
        refine AW.mA 25 W dX8_copies_103 lkX8_77 rfl rfl ?_
        refine AW.iconst dX8_copies_106 (by decide) ?_
        refine AW.bipush dX8_copies_107 bp_24 (by decide) ?_
        refine AW.iload_n dX8_copies_109 rfl ?_
        refine AW.imulB dX8_copies_110 (by omega) ?_
        refine AW.iload_n dX8_copies_111 rfl ?_
        refine AW.pcs (pc2 := 112) rfl ?_
        refine AW.iaddB dX8_copies_112 (by omega) ?_
        refine AW.imulB dX8_copies_113 (by omega) ?_
        refine AW.aload_n dX8_copies_114 rfl ?_
        refine AW.mA 25 W dX8_copies_115 lkX8_77 rfl rfl ?_
        refine AW.iconst dX8_copies_118 (by decide) ?_
        refine AW.bipush dX8_copies_119 bp_24 (by decide) ?_
        refine AW.iload_n dX8_copies_121 rfl ?_
        refine AW.imulB dX8_copies_122 (by omega) ?_
        refine AW.iload_n dX8_copies_123 rfl ?_
        refine AW.iaddB dX8_copies_124 (by omega) ?_
        refine AW.imulB dX8_copies_125 (by omega) ?_
        refine AW.mldE (j := 25) W dX8_copies_126 rfl rfl (by simp only [mlen]; omega) (by (repeat first | apply zs_ne rfl | apply zs_eq (by omega) | apply zs_miss (by omega) | apply zbl_ne rfl | apply zbl_out (by omega)); exact rfl) ?_
        refine AW.mst (j := 25) W dX8_copies_127 rfl rfl (by simp only [mlen]; omega) ?_
        refine AW.aload_n dX8_copies_128 rfl ?_
        refine AW.mA 25 W dX8_copies_129 lkX8_77 rfl rfl ?_
        refine AW.iconst dX8_copies_132 (by decide) ?_
        refine AW.bipush dX8_copies_133 bp_24 (by decide) ?_
        refine AW.iload_n dX8_copies_135 rfl ?_
        refine AW.imulB dX8_copies_136 (by omega) ?_
        refine AW.iload_n dX8_copies_137 rfl ?_
        refine AW.iaddB dX8_copies_138 (by omega) ?_
        refine AW.imulB dX8_copies_139 (by omega) ?_
        refine AW.iconst dX8_copies_140 (by decide) ?_
        refine AW.iaddB dX8_copies_141 (by omega) ?_
        refine AW.pcs (pc2 := 142) rfl ?_
        refine AW.aload_n dX8_copies_142 rfl ?_
        refine AW.mA 25 W dX8_copies_143 lkX8_77 rfl rfl ?_
        refine AW.iconst dX8_copies_146 (by decide) ?_
        refine AW.bipush dX8_copies_147 bp_24 (by decide) ?_
        refine AW.iload_n dX8_copies_149 rfl ?_
        refine AW.imulB dX8_copies_150 (by omega) ?_
        refine AW.iload_n dX8_copies_151 rfl ?_
        refine AW.iaddB dX8_copies_152 (by omega) ?_
        refine AW.imulB dX8_copies_153 (by omega) ?_
        refine AW.iconst dX8_copies_154 (by decide) ?_
        refine AW.iaddB dX8_copies_155 (by omega) ?_
        refine AW.mldE (j := 25) W dX8_copies_156 rfl rfl (by simp only [mlen]; omega) (by (repeat first | apply zs_ne rfl | apply zs_eq (by omega) | apply zs_miss (by omega) | apply zbl_ne rfl | apply zbl_out (by omega)); exact rfl) ?_
        refine AW.mst (j := 25) W dX8_copies_157 rfl rfl (by simp only [mlen]; omega) ?_
        refine AW.iincB dX8_copies_158 rfl rfl (by omega) ?_
        refine AW.goto (tgt := 74) dX8_copies_161 rfl ?_
        refine AW.locs [(3, vi ((i + 1 : Nat) : Int)), (0, vr mO), (1, vi a), (2, vi b)] ⟨rfl, rfl, rfl, rfl, trivial⟩ (AW.mZ ?_ (ih (i + 1) (by omega) (by omega)))
        refine cpy_step (by omega) ?_ (by omega) ?_ (by omega) ?_
        · rw [zbl_ne rfl rfl]; exact congrArg (Z 24) (by omega)
        · rw [zbl_ne rfl rfl]; exact congrArg (Z 25) (by omega)
        · rw [zbl_ne rfl rfl]; exact congrArg (Z 25) (by omega)
  have lp1 : ∀ (m i : Nat), i ≤ 48 → 48 ≤ i + m → AW mX8_copies fX8_copies loX8_copies 0 0 Q 0 0 38 (mput h (zbl (zcp0 Z a.toNat b.toNat) 22 (48 * b.toNat) (48 * a.toNat) i)) [(3, vi (i : Int)), (0, vr mO), (1, vi a), (2, vi b)] [] := by
    intro m
    induction m with
    | zero =>
      intro i h1 h2
      have e : i = 48 := by omega
      subst e
      refine AW.iload_n dX8_copies_38 rfl ?_
      refine AW.bipush dX8_copies_39 bp_48 (by decide) ?_
      refine AW.icmp_ge (tgt := 72) dX8_copies_41 rfl (fun c_41 => ?_) (fun c_41 => ?_)
      · refine AW.iconst dX8_copies_72 (by decide) ?_
        refine AW.istore_n dX8_copies_73 rfl ?_
        refine AW.locs [(3, vi ((0 : Nat) : Int)), (0, vr mO), (1, vi a), (2, vi b)] ⟨rfl, rfl, rfl, rfl, trivial⟩ (AW.mZ ?_ (lp2 24 0 (by omega) (by omega)))
        rw [zbl_0, zbl_0]
      · exact absurd c_41 (by omega)
    | succ m ih =>
      intro i h1 h2
      by_cases e : i = 48
      · exact ih i h1 (by omega)
      refine AW.iload_n dX8_copies_38 rfl ?_
      refine AW.bipush dX8_copies_39 bp_48 (by decide) ?_
      refine AW.icmp_ge (tgt := 72) dX8_copies_41 rfl (fun c_41 => ?_) (fun c_41 => ?_)
      · exact absurd c_41 (by omega)
      · refine AW.aload_n dX8_copies_44 rfl ?_
        refine AW.mA 22 W dX8_copies_45 lkX8_68 rfl rfl ?_
        refine AW.bipush dX8_copies_48 bp_48 (by decide) ?_
        refine AW.iload_n dX8_copies_50 rfl ?_
        refine AW.imulB dX8_copies_51 (by omega) ?_
        refine AW.iload_n dX8_copies_52 rfl ?_
        refine AW.iaddB dX8_copies_53 (by omega) ?_
        refine AW.aload_n dX8_copies_54 rfl ?_
        refine AW.mA 22 W dX8_copies_55 lkX8_68 rfl rfl ?_
        refine AW.bipush dX8_copies_58 bp_48 (by decide) ?_
        refine AW.iload_n dX8_copies_60 rfl ?_
        refine AW.imulB dX8_copies_61 (by omega) ?_
        refine AW.iload_n dX8_copies_62 rfl ?_
        refine AW.iaddB dX8_copies_63 (by omega) ?_
        refine AW.mldE (j := 22) W dX8_copies_64 rfl rfl (by simp only [mlen]; omega) (by (repeat first | apply zs_ne rfl | apply zs_eq (by omega) | apply zs_miss (by omega) | apply zbl_ne rfl | apply zbl_out (by omega)); exact rfl) ?_
        refine AW.mst (j := 22) W dX8_copies_65 rfl rfl (by simp only [mlen]; omega) ?_
        refine AW.iincB dX8_copies_66 rfl rfl (by omega) ?_
        refine AW.goto (tgt := 38) dX8_copies_69 rfl ?_
        refine AW.locs [(3, vi ((i + 1 : Nat) : Int)), (0, vr mO), (1, vi a), (2, vi b)] ⟨rfl, rfl, rfl, rfl, trivial⟩ (AW.mZ ?_ (ih (i + 1) (by omega) (by omega)))
        refine zbl_step (by omega) ?_
        exact congrArg (Z 22) (by omega)
  refine AW.aload_n dX8_copies_0 rfl ?_
  refine AW.mA 20 W dX8_copies_1 lkX8_62 rfl rfl ?_
  refine AW.iload_n dX8_copies_4 rfl ?_
  refine AW.aload_n dX8_copies_5 rfl ?_
  refine AW.mA 20 W dX8_copies_6 lkX8_62 rfl rfl ?_
  refine AW.iload_n dX8_copies_9 rfl ?_
  refine AW.mldE (j := 20) W dX8_copies_10 rfl rfl (by simp only [mlen]; omega) rfl ?_
  refine AW.mst (j := 20) W dX8_copies_11 rfl rfl (by simp only [mlen]; omega) ?_
  refine AW.aload_n dX8_copies_12 rfl ?_
  refine AW.mA 21 W dX8_copies_13 lkX8_65 rfl rfl ?_
  refine AW.iload_n dX8_copies_16 rfl ?_
  refine AW.aload_n dX8_copies_17 rfl ?_
  refine AW.mA 21 W dX8_copies_18 lkX8_65 rfl rfl ?_
  refine AW.iload_n dX8_copies_21 rfl ?_
  refine AW.mldE (j := 21) W dX8_copies_22 rfl rfl (by simp only [mlen]; omega) (by (repeat first | apply zs_ne rfl | apply zs_eq (by omega) | apply zs_miss (by omega)); exact rfl) ?_
  refine AW.mst (j := 21) W dX8_copies_23 rfl rfl (by simp only [mlen]; omega) ?_
  refine AW.aload_n dX8_copies_24 rfl ?_
  refine AW.mA 23 W dX8_copies_25 lkX8_71 rfl rfl ?_
  refine AW.iload_n dX8_copies_28 rfl ?_
  refine AW.aload_n dX8_copies_29 rfl ?_
  refine AW.mA 23 W dX8_copies_30 lkX8_71 rfl rfl ?_
  refine AW.iload_n dX8_copies_33 rfl ?_
  refine AW.mldE (j := 23) W dX8_copies_34 rfl rfl (by simp only [mlen]; omega) (by (repeat first | apply zs_ne rfl | apply zs_eq (by omega) | apply zs_miss (by omega)); exact rfl) ?_
  refine AW.pcs (pc2 := 35) rfl ?_
  refine AW.mst (j := 23) W dX8_copies_35 rfl rfl (by simp only [mlen]; omega) ?_
  refine AW.iconst dX8_copies_36 (by decide) ?_
  refine AW.istore_n dX8_copies_37 rfl ?_
  refine AW.mZ ?_ (lp1 48 0 (by omega) (by omega))
  rw [zbl_0]
  rfl
end M16
