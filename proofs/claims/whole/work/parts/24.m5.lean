/-! ===== the model: traces and drops ===== -/
section M5
variable {Q : AH → AO → Prop} {h : AH} {Z : ZT}
def zrow (Z : ZT) (j0 : Nat) (t : Nat → Int) : ZT := fun j i => if j = j0 then t i else Z j i
theorem zrow_e {j i : Nat} {t : Nat → Int} {x : Int} (k : t i = x) : zrow Z j t j i = x := by unfold zrow; rw [if_pos rfl, k]
theorem zrow_ne {j0 j i : Nat} {t : Nat → Int} {x : Int} (hj : Nat.beq j j0 = false) (k : Z j i = x) : zrow Z j0 t j i = x := by
  unfold zrow
  rw [if_neg, k]
  rintro rfl
  simp at hj
theorem zs_zrow {j i : Nat} {t : Nat → Int} {v : Int} : zs (zrow Z j t) j i v = zrow Z j (fun q => if q = i then v else t q) := by
  funext a b
  unfold zs zrow
  by_cases e : a = j
  · subst e; simp
  · simp [e]
theorem zrow_self {j : Nat} : zrow Z j (Z j) = Z := by
  funext a b
  unfold zrow
  split
  · next e => rw [e]
  · rfl
theorem zrow_zrow {j : Nat} {t t' : Nat → Int} : zrow (zrow Z j t) j t' = zrow Z j t' := by
  funext a b
  unfold zrow
  split <;> rfl
def tset (t : Nat → Int) (i : Int) (v : Int) : Nat → Int := fun q => if q = i.toNat then v else t q
/-- fields in front and behind are fields or none -/
def BB (Z : ZT) : Prop := ∀ i, (-1 ≤ Z 8 i ∧ Z 8 i < 48) ∧ (-1 ≤ Z 9 i ∧ Z 9 i < 48)
/-- over one step -/
def zh0 (f0 : Int) (t : Nat → Int) : Int := bz (¬ f0 = -1 ∧ ¬ t f0.toNat = 0)
def zt1 (f0 : Int) (t : Nat → Int) : Nat → Int := if f0 = -1 then t else tset t f0 0
def zh1 (f0 f1 : Int) (t : Nat → Int) : Int := if ¬ zh0 f0 t = 0 then 1 else zh0 f1 (zt1 f0 t)
def zt2 (f0 f1 : Int) (t : Nat → Int) : Nat → Int := zt1 f1 (zt1 f0 t)
def ztb (hs b : Int) (t : Nat → Int) : Nat → Int := if hs = 0 ∨ b = -1 then t else tset t b 1
def zfs (Z : ZT) (p : Int) (t : Nat → Int) : Nat → Int :=
  if 2 ≤ Z 7 p.toNat ∧ Z 7 p.toNat ≤ 5 then
    ztb (zh1 (Z 8 (2 * p).toNat) (Z 8 (2 * p + 1).toNat) t) (Z 9 (2 * p + 1).toNat) (ztb (zh1 (Z 8 (2 * p).toNat) (Z 8 (2 * p + 1).toNat) t) (Z 9 (2 * p).toNat) (zt2 (Z 8 (2 * p).toNat) (Z 8 (2 * p + 1).toNat) t))
  else t
def zfo (Z : ZT) (s a : Int) (t : Nat → Int) : Nat → Nat → Int
  | 0 => t
  | m + 1 => zfs Z (24 * s + (a + 1 + (m : Int))) (zfo Z s a t m)
theorem X8_follows_b {fr lo mc ms bc bs : Nat} (hfr : fr = fX8_follows) (hlo : lo = loX8_follows) {s a k p hv : Int} {t : Nat → Int} (W : WfM h) (B : BB Z) (hp : 0 ≤ p ∧ p < 96) (k172 : AW mX8_follows fr lo mc ms Q bc bs 172 (mput h (zrow Z 46 (ztb hv (Z 9 (2 * p + 1).toNat) (ztb hv (Z 9 (2 * p).toNat) t)))) [(3, vi k), (0, vr mO), (1, vi s), (2, vi a)] []) :
    AW mX8_follows fr lo mc ms Q bc bs 121 (mput h (zrow Z 46 t)) [(6, vi 0), (5, vi hv), (4, vi p), (3, vi k), (0, vr mO), (1, vi s), (2, vi a)] [] := by
  subst hfr; subst hlo
  have s2 : ∀ tv, tv = ztb hv (Z 9 (2 * p + 1).toNat) (ztb hv (Z 9 (2 * p).toNat) t) → AW mX8_follows fX8_follows loX8_follows mc ms Q bc bs 121 (mput h (zrow Z 46 tv)) [(6, vi 2), (5, vi hv), (4, vi p), (3, vi k), (0, vr mO), (1, vi s), (2, vi a)] [] := by
    intro tv etv
    subst etv
    refine AW.iload dX8_follows_121 rfl ?_
    refine AW.iconst dX8_follows_123 (by decide) ?_
    refine AW.icmp_ge (tgt := 172) dX8_follows_124 rfl (fun c_124 => ?_) (fun c_124 => ?_)
    · exact AW.locs [(3, vi k), (0, vr mO), (1, vi s), (2, vi a)] ⟨rfl, rfl, rfl, rfl, trivial⟩ k172
    · exact absurd c_124 (by omega)
  have s1 : ∀ tv, tv = ztb hv (Z 9 (2 * p).toNat) t → AW mX8_follows fX8_follows loX8_follows mc ms Q bc bs 121 (mput h (zrow Z 46 tv)) [(6, vi 1), (5, vi hv), (4, vi p), (3, vi k), (0, vr mO), (1, vi s), (2, vi a)] [] := by
    intro tv etv
    have b1 := (B (2 * p + 1).toNat).2
    refine AW.iload dX8_follows_121 rfl ?_
    refine AW.iconst dX8_follows_123 (by decide) ?_
    refine AW.icmp_ge (tgt := 172) dX8_follows_124 rfl (fun c_124 => ?_) (fun c_124 => ?_)
    · exact absurd c_124 (by omega)
    · refine AW.iload dX8_follows_127 rfl ?_
      refine AW.if_eq (tgt := 172) dX8_follows_129 rfl (fun c_129 => ?_) (fun c_129 => ?_)
      · refine AW.locs [(3, vi k), (0, vr mO), (1, vi s), (2, vi a)] ⟨rfl, rfl, rfl, rfl, trivial⟩ (AW.mZ ?_ k172)
        rw [etv]
        unfold ztb
        simp [c_129]
      · refine AW.aload_n dX8_follows_132 rfl ?_
        refine AW.mA 9 W dX8_follows_133 lkX8_35 rfl rfl ?_
        refine AW.iconst dX8_follows_136 (by decide) ?_
        refine AW.iload dX8_follows_137 rfl ?_
        refine AW.imulB dX8_follows_139 (by omega) ?_
        refine AW.iload dX8_follows_140 rfl ?_
        refine AW.iaddB dX8_follows_142 (by omega) ?_
        refine AW.mldE (j := 9) W dX8_follows_143 rfl rfl (by simp only [mlen]; omega) (by (repeat first | apply zs_ne rfl | apply zs_eq (by omega) | apply zs_miss (by omega) | apply zrow_ne rfl); exact rfl) ?_
        refine AW.iconst dX8_follows_144 (by decide) ?_
        refine AW.icmp_eq (tgt := 166) dX8_follows_145 rfl (fun c_145 => ?_) (fun c_145 => ?_)
        · first | (refine AW.mZ (Z' := zrow Z 46 (ztb hv (Z 9 (2 * p + 1).toNat) (ztb hv (Z 9 (2 * p).toNat) t))) (by rw [etv]; unfold ztb; first | (rw [zs_zrow]; simp only [c_129, c_145, or_self, if_false]; rfl) | (simp only [c_145, or_true, if_true]; done)) ?_) | skip
          refine AW.iincB dX8_follows_166 rfl rfl (by omega) ?_
          refine AW.goto (tgt := 121) dX8_follows_169 rfl ?_
          exact AW.locs [(6, vi 2), (5, vi hv), (4, vi p), (3, vi k), (0, vr mO), (1, vi s), (2, vi a)] ⟨rfl, rfl, rfl, rfl, rfl, rfl, rfl, trivial⟩ (s2 _ rfl)
        · refine AW.aload_n dX8_follows_148 rfl ?_
          refine AW.mA 46 W dX8_follows_149 lkX8_131 rfl rfl ?_
          refine AW.aload_n dX8_follows_152 rfl ?_
          refine AW.mA 9 W dX8_follows_153 lkX8_35 rfl rfl ?_
          refine AW.iconst dX8_follows_156 (by decide) ?_
          refine AW.iload dX8_follows_157 rfl ?_
          refine AW.imulB dX8_follows_159 (by omega) ?_
          refine AW.iload dX8_follows_160 rfl ?_
          refine AW.iaddB dX8_follows_162 (by omega) ?_
          refine AW.mldE (j := 9) W dX8_follows_163 rfl rfl (by simp only [mlen]; omega) (by (repeat first | apply zs_ne rfl | apply zs_eq (by omega) | apply zs_miss (by omega) | apply zrow_ne rfl); exact rfl) ?_
          refine AW.iconst dX8_follows_164 (by decide) ?_
          refine AW.mstZ (j := 46) W dX8_follows_165 rfl rfl (by simp only [mlen]; omega) (by omega) ?_
          first | (refine AW.mZ (Z' := zrow Z 46 (ztb hv (Z 9 (2 * p + 1).toNat) (ztb hv (Z 9 (2 * p).toNat) t))) (by rw [etv]; unfold ztb; first | (rw [zs_zrow]; simp only [c_129, c_145, or_self, if_false]; rfl) | (simp only [c_145, or_true, if_true]; done)) ?_) | skip
          refine AW.iincB dX8_follows_166 rfl rfl (by omega) ?_
          refine AW.goto (tgt := 121) dX8_follows_169 rfl ?_
          exact AW.locs [(6, vi 2), (5, vi hv), (4, vi p), (3, vi k), (0, vr mO), (1, vi s), (2, vi a)] ⟨rfl, rfl, rfl, rfl, rfl, rfl, rfl, trivial⟩ (s2 _ rfl)
  have b0 := (B (2 * p).toNat).2
  refine AW.iload dX8_follows_121 rfl ?_
  refine AW.iconst dX8_follows_123 (by decide) ?_
  refine AW.icmp_ge (tgt := 172) dX8_follows_124 rfl (fun c_124 => ?_) (fun c_124 => ?_)
  · exact absurd c_124 (by omega)
  · refine AW.iload dX8_follows_127 rfl ?_
    refine AW.if_eq (tgt := 172) dX8_follows_129 rfl (fun c_129 => ?_) (fun c_129 => ?_)
    · refine AW.locs [(3, vi k), (0, vr mO), (1, vi s), (2, vi a)] ⟨rfl, rfl, rfl, rfl, trivial⟩ (AW.mZ ?_ k172)
      unfold ztb
      simp [c_129]
    · refine AW.aload_n dX8_follows_132 rfl ?_
      refine AW.mA 9 W dX8_follows_133 lkX8_35 rfl rfl ?_
      refine AW.iconst dX8_follows_136 (by decide) ?_
      refine AW.iload dX8_follows_137 rfl ?_
      refine AW.imulB dX8_follows_139 (by omega) ?_
      refine AW.iload dX8_follows_140 rfl ?_
      refine AW.iaddB dX8_follows_142 (by omega) (AW.top (y := 2 * p) (by omega) ?_)
      refine AW.mldE (j := 9) W dX8_follows_143 rfl rfl (by simp only [mlen]; omega) (by (repeat first | apply zs_ne rfl | apply zs_eq (by omega) | apply zs_miss (by omega) | apply zrow_ne rfl); exact rfl) ?_
      refine AW.iconst dX8_follows_144 (by decide) ?_
      refine AW.icmp_eq (tgt := 166) dX8_follows_145 rfl (fun c_145 => ?_) (fun c_145 => ?_)
      · refine AW.iincB dX8_follows_166 rfl rfl (by omega) ?_
        refine AW.goto (tgt := 121) dX8_follows_169 rfl ?_
        refine AW.locs [(6, vi 1), (5, vi hv), (4, vi p), (3, vi k), (0, vr mO), (1, vi s), (2, vi a)] ⟨rfl, rfl, rfl, rfl, rfl, rfl, rfl, trivial⟩ (AW.mZ ?_ (s1 _ rfl))
        first | (unfold ztb; simp only [c_145, or_true, if_true]; done) | (rw [zs_zrow]; unfold ztb; simp only [c_129, c_145, or_self, if_false]; rfl)
      · refine AW.aload_n dX8_follows_148 rfl ?_
        refine AW.mA 46 W dX8_follows_149 lkX8_131 rfl rfl ?_
        refine AW.aload_n dX8_follows_152 rfl ?_
        refine AW.mA 9 W dX8_follows_153 lkX8_35 rfl rfl ?_
        refine AW.iconst dX8_follows_156 (by decide) ?_
        refine AW.iload dX8_follows_157 rfl ?_
        refine AW.imulB dX8_follows_159 (by omega) ?_
        refine AW.iload dX8_follows_160 rfl ?_
        refine AW.iaddB dX8_follows_162 (by omega) (AW.top (y := 2 * p) (by omega) ?_)
        refine AW.mldE (j := 9) W dX8_follows_163 rfl rfl (by simp only [mlen]; omega) (by (repeat first | apply zs_ne rfl | apply zs_eq (by omega) | apply zs_miss (by omega) | apply zrow_ne rfl); exact rfl) ?_
        refine AW.iconst dX8_follows_164 (by decide) ?_
        refine AW.mstZ (j := 46) W dX8_follows_165 rfl rfl (by simp only [mlen]; omega) (by omega) ?_
        refine AW.iincB dX8_follows_166 rfl rfl (by omega) ?_
        refine AW.goto (tgt := 121) dX8_follows_169 rfl ?_
        refine AW.locs [(6, vi 1), (5, vi hv), (4, vi p), (3, vi k), (0, vr mO), (1, vi s), (2, vi a)] ⟨rfl, rfl, rfl, rfl, rfl, rfl, rfl, trivial⟩ (AW.mZ ?_ (s1 _ rfl))
        first | (unfold ztb; simp only [c_145, or_true, if_true]; done) | (rw [zs_zrow]; unfold ztb; simp only [c_129, c_145, or_self, if_false]; rfl)
theorem X8_follows_f {fr lo mc ms bc bs : Nat} (hfr : fr = fX8_follows) (hlo : lo = loX8_follows) {s a k p : Int} {t : Nat → Int} (W : WfM h) (B : BB Z) (hp : 0 ≤ p ∧ p < 96) (k118 : AW mX8_follows fr lo mc ms Q bc bs 118 (mput h (zrow Z 46 (zt2 (Z 8 (2 * p).toNat) (Z 8 (2 * p + 1).toNat) t))) [(5, vi (zh1 (Z 8 (2 * p).toNat) (Z 8 (2 * p + 1).toNat) t)), (4, vi p), (3, vi k), (0, vr mO), (1, vi s), (2, vi a)] []) :
    AW mX8_follows fr lo mc ms Q bc bs 50 (mput h (zrow Z 46 t)) [(6, vi 0), (5, vi 0), (4, vi p), (3, vi k), (0, vr mO), (1, vi s), (2, vi a)] [] := by
  subst hfr; subst hlo
  have s2 : AW mX8_follows fX8_follows loX8_follows mc ms Q bc bs 50 (mput h (zrow Z 46 (zt2 (Z 8 (2 * p).toNat) (Z 8 (2 * p + 1).toNat) t))) [(6, vi 2), (5, vi (zh1 (Z 8 (2 * p).toNat) (Z 8 (2 * p + 1).toNat) t)), (4, vi p), (3, vi k), (0, vr mO), (1, vi s), (2, vi a)] [] := by
    refine AW.iload dX8_follows_50 rfl ?_
    refine AW.iconst dX8_follows_52 (by decide) ?_
    refine AW.icmp_ge (tgt := 118) dX8_follows_53 rfl (fun c_53 => ?_) (fun c_53 => ?_)
    · exact AW.locs [(5, vi (zh1 (Z 8 (2 * p).toNat) (Z 8 (2 * p + 1).toNat) t)), (4, vi p), (3, vi k), (0, vr mO), (1, vi s), (2, vi a)] ⟨rfl, rfl, rfl, rfl, rfl, rfl, trivial⟩ k118
    · exact absurd c_53 (by omega)
  have s1 : ∀ tv hv, tv = zt1 (Z 8 (2 * p).toNat) t → hv = zh0 (Z 8 (2 * p).toNat) t → AW mX8_follows fX8_follows loX8_follows mc ms Q bc bs 50 (mput h (zrow Z 46 tv)) [(6, vi 1), (5, vi hv), (4, vi p), (3, vi k), (0, vr mO), (1, vi s), (2, vi a)] [] := by
    intro tv hv etv ehv
    have b1 := (B (2 * p + 1).toNat).1
    refine AW.iload dX8_follows_50 rfl ?_
    refine AW.iconst dX8_follows_52 (by decide) ?_
    refine AW.icmp_ge (tgt := 118) dX8_follows_53 rfl (fun c_53 => ?_) (fun c_53 => ?_)
    · exact absurd c_53 (by omega)
    · refine AW.aload_n dX8_follows_56 rfl ?_
      refine AW.mA 8 W dX8_follows_57 lkX8_32 rfl rfl ?_
      refine AW.iconst dX8_follows_60 (by decide) ?_
      refine AW.iload dX8_follows_61 rfl ?_
      refine AW.imulB dX8_follows_63 (by omega) ?_
      refine AW.iload dX8_follows_64 rfl ?_
      refine AW.iaddB dX8_follows_66 (by omega) ?_
      refine AW.mldE (j := 8) W dX8_follows_67 rfl rfl (by simp only [mlen]; omega) (by (repeat first | apply zs_ne rfl | apply zs_eq (by omega) | apply zs_miss (by omega) | apply zrow_e | apply zrow_ne rfl); exact rfl) ?_
      refine AW.istore dX8_follows_68 rfl ?_
      refine AW.iload dX8_follows_70 rfl ?_
      refine' AW.if_neJ 96 (tgt := 91) dX8_follows_72 rfl _ _ _
      rotate_left 2
      · intro c_72 k_72
        refine AW.iconst dX8_follows_91 (by decide) ?_
        refine AW.goto (tgt := 96) dX8_follows_92 rfl ?_
        exact k_72
      · intro c_72 k_72
        refine AW.iload dX8_follows_75 rfl ?_
        refine AW.iconst dX8_follows_77 (by decide) ?_
        refine' AW.icmp_eqJ 96 (tgt := 95) dX8_follows_78 rfl _ _ _
        rotate_left 2
        · intro c_78 k_78
          refine AW.iconst dX8_follows_95 (by decide) ?_
          exact k_78
        · intro c_78 k_78
          refine AW.aload_n dX8_follows_81 rfl ?_
          refine AW.mA 46 W dX8_follows_82 lkX8_131 rfl rfl ?_
          refine AW.iload dX8_follows_85 rfl ?_
          refine AW.mldZE (j := 46) W dX8_follows_87 rfl rfl (by simp only [mlen]; omega) (by (repeat first | apply zs_ne rfl | apply zs_eq (by omega) | apply zs_miss (by omega) | apply zrow_e | apply zrow_ne rfl); exact rfl) ?_
          refine' AW.if_eqJ 96 (tgt := 95) dX8_follows_88 rfl _ _ _
          rotate_left 2
          · intro c_88 k_88
            refine AW.iconst dX8_follows_95 (by decide) ?_
            exact k_88
          · intro c_88 k_88
            refine AW.iconst dX8_follows_91 (by decide) ?_
            refine AW.goto (tgt := 96) dX8_follows_92 rfl ?_
            exact k_88
          exact k_78
        exact k_72
      refine AW.top (y := zh1 (Z 8 (2 * p).toNat) (Z 8 (2 * p + 1).toNat) t) (by subst etv; subst ehv; unfold zh1; generalize zh0 (Z 8 (2 * p).toNat) t = u; unfold zh0 bz; (repeat' split) <;> simp_all) ?_
      refine AW.istore dX8_follows_96 rfl ?_
      refine AW.iload dX8_follows_98 rfl ?_
      refine AW.iconst dX8_follows_100 (by decide) ?_
      refine AW.icmp_eq (tgt := 112) dX8_follows_101 rfl (fun c_101 => ?_) (fun c_101 => ?_)
      · refine AW.iincB dX8_follows_112 rfl rfl (by omega) ?_
        refine AW.goto (tgt := 50) dX8_follows_115 rfl ?_
        refine AW.locs [(6, vi 2), (5, vi (zh1 (Z 8 (2 * p).toNat) (Z 8 (2 * p + 1).toNat) t)), (4, vi p), (3, vi k), (0, vr mO), (1, vi s), (2, vi a)] ⟨rfl, rfl, rfl, rfl, rfl, rfl, rfl, trivial⟩ (AW.mZ ?_ s2)
        subst etv
        unfold zt2
        generalize zt1 (Z 8 (2 * p).toNat) t = u
        first | (unfold zt1; simp only [c_101, if_true]; done) | (rw [zs_zrow]; unfold zt1; simp only [c_101, if_false]; rfl)
      · refine AW.aload_n dX8_follows_104 rfl ?_
        refine AW.mA 46 W dX8_follows_105 lkX8_131 rfl rfl ?_
        refine AW.iload dX8_follows_108 rfl ?_
        refine AW.iconst dX8_follows_110 (by decide) ?_
        refine AW.mstZ (j := 46) W dX8_follows_111 rfl rfl (by simp only [mlen]; omega) (by omega) ?_
        refine AW.iincB dX8_follows_112 rfl rfl (by omega) ?_
        refine AW.goto (tgt := 50) dX8_follows_115 rfl ?_
        refine AW.locs [(6, vi 2), (5, vi (zh1 (Z 8 (2 * p).toNat) (Z 8 (2 * p + 1).toNat) t)), (4, vi p), (3, vi k), (0, vr mO), (1, vi s), (2, vi a)] ⟨rfl, rfl, rfl, rfl, rfl, rfl, rfl, trivial⟩ (AW.mZ ?_ s2)
        subst etv
        unfold zt2
        generalize zt1 (Z 8 (2 * p).toNat) t = u
        first | (unfold zt1; simp only [c_101, if_true]; done) | (rw [zs_zrow]; unfold zt1; simp only [c_101, if_false]; rfl)
  have b0 := (B (2 * p).toNat).1
  refine AW.iload dX8_follows_50 rfl ?_
  refine AW.iconst dX8_follows_52 (by decide) ?_
  refine AW.icmp_ge (tgt := 118) dX8_follows_53 rfl (fun c_53 => ?_) (fun c_53 => ?_)
  · exact absurd c_53 (by omega)
  · refine AW.aload_n dX8_follows_56 rfl ?_
    refine AW.mA 8 W dX8_follows_57 lkX8_32 rfl rfl ?_
    refine AW.iconst dX8_follows_60 (by decide) ?_
    refine AW.iload dX8_follows_61 rfl ?_
    refine AW.imulB dX8_follows_63 (by omega) ?_
    refine AW.iload dX8_follows_64 rfl ?_
    refine AW.iaddB dX8_follows_66 (by omega) (AW.top (y := 2 * p) (by omega) ?_)
    refine AW.mldE (j := 8) W dX8_follows_67 rfl rfl (by simp only [mlen]; omega) (by (repeat first | apply zs_ne rfl | apply zs_eq (by omega) | apply zs_miss (by omega) | apply zrow_e | apply zrow_ne rfl); exact rfl) ?_
    refine AW.istore dX8_follows_68 rfl ?_
    refine AW.iload dX8_follows_70 rfl ?_
    refine' AW.if_neJ 96 (tgt := 91) dX8_follows_72 rfl _ _ _
    rotate_left 2
    · intro c_72 k_72
      refine AW.iconst dX8_follows_91 (by decide) ?_
      refine AW.goto (tgt := 96) dX8_follows_92 rfl ?_
      exact k_72
    · intro c_72 k_72
      refine AW.iload dX8_follows_75 rfl ?_
      refine AW.iconst dX8_follows_77 (by decide) ?_
      refine' AW.icmp_eqJ 96 (tgt := 95) dX8_follows_78 rfl _ _ _
      rotate_left 2
      · intro c_78 k_78
        refine AW.iconst dX8_follows_95 (by decide) ?_
        exact k_78
      · intro c_78 k_78
        refine AW.aload_n dX8_follows_81 rfl ?_
        refine AW.mA 46 W dX8_follows_82 lkX8_131 rfl rfl ?_
        refine AW.iload dX8_follows_85 rfl ?_
        refine AW.mldZE (j := 46) W dX8_follows_87 rfl rfl (by simp only [mlen]; omega) (by (repeat first | apply zs_ne rfl | apply zs_eq (by omega) | apply zs_miss (by omega) | apply zrow_e | apply zrow_ne rfl); exact rfl) ?_
        refine' AW.if_eqJ 96 (tgt := 95) dX8_follows_88 rfl _ _ _
        rotate_left 2
        · intro c_88 k_88
          refine AW.iconst dX8_follows_95 (by decide) ?_
          exact k_88
        · intro c_88 k_88
          refine AW.iconst dX8_follows_91 (by decide) ?_
          refine AW.goto (tgt := 96) dX8_follows_92 rfl ?_
          exact k_88
        exact k_78
      exact k_72
    refine AW.top (y := zh0 (Z 8 (2 * p).toNat) t) (by unfold zh0 bz; (repeat' split) <;> simp_all) ?_
    refine AW.istore dX8_follows_96 rfl ?_
    refine AW.iload dX8_follows_98 rfl ?_
    refine AW.iconst dX8_follows_100 (by decide) ?_
    refine AW.icmp_eq (tgt := 112) dX8_follows_101 rfl (fun c_101 => ?_) (fun c_101 => ?_)
    · refine AW.iincB dX8_follows_112 rfl rfl (by omega) ?_
      refine AW.goto (tgt := 50) dX8_follows_115 rfl ?_
      refine AW.locs [(6, vi 1), (5, vi (zh0 (Z 8 (2 * p).toNat) t)), (4, vi p), (3, vi k), (0, vr mO), (1, vi s), (2, vi a)] ⟨rfl, rfl, rfl, rfl, rfl, rfl, rfl, trivial⟩ (AW.mZ ?_ (s1 _ _ rfl rfl))
      first | (unfold zt1; simp only [c_101, if_true]; done) | (rw [zs_zrow]; unfold zt1; simp only [c_101, if_false]; rfl)
    · refine AW.aload_n dX8_follows_104 rfl ?_
      refine AW.mA 46 W dX8_follows_105 lkX8_131 rfl rfl ?_
      refine AW.iload dX8_follows_108 rfl ?_
      refine AW.iconst dX8_follows_110 (by decide) ?_
      refine AW.mstZ (j := 46) W dX8_follows_111 rfl rfl (by simp only [mlen]; omega) (by omega) ?_
      refine AW.iincB dX8_follows_112 rfl rfl (by omega) ?_
      refine AW.goto (tgt := 50) dX8_follows_115 rfl ?_
      refine AW.locs [(6, vi 1), (5, vi (zh0 (Z 8 (2 * p).toNat) t)), (4, vi p), (3, vi k), (0, vr mO), (1, vi s), (2, vi a)] ⟨rfl, rfl, rfl, rfl, rfl, rfl, rfl, trivial⟩ (AW.mZ ?_ (s1 _ _ rfl rfl))
      first | (unfold zt1; simp only [c_101, if_true]; done) | (rw [zs_zrow]; unfold zt1; simp only [c_101, if_false]; rfl)
theorem X8_follows_c {fr lo mc ms bc bs : Nat} (hfr : fr = fX8_follows) (hlo : lo = loX8_follows) {s a k p : Int} {t : Nat → Int} (W : WfM h) (B : BB Z) (hp : 0 ≤ p ∧ p < 96) (hw : 2 ≤ Z 7 p.toNat ∧ Z 7 p.toNat ≤ 5) (k172 : AW mX8_follows fr lo mc ms Q bc bs 172 (mput h (zrow Z 46 (zfs Z p t))) [(3, vi k), (0, vr mO), (1, vi s), (2, vi a)] []) :
    AW mX8_follows fr lo mc ms Q bc bs 50 (mput h (zrow Z 46 t)) [(6, vi 0), (5, vi 0), (4, vi p), (3, vi k), (0, vr mO), (1, vi s), (2, vi a)] [] := by
  subst hfr; subst hlo
  refine X8_follows_f rfl rfl W B hp ?_
  refine AW.iconst dX8_follows_118 (by decide) ?_
  refine AW.istore dX8_follows_119 rfl ?_
  refine X8_follows_b rfl rfl W B hp ?_
  unfold zfs at k172
  rw [if_pos hw] at k172
  exact k172
theorem lX8_follows {fr lo : Nat} (hfr : fr = fX8_follows) (hlo : lo = loX8_follows) {mc ms bc bs : Nat} {s a : Int} {t : Nat → Int} (W : WfM h) (B : BB Z) (hs : 0 ≤ s ∧ s < 4) (ha : 0 ≤ a) (b1 : a ≤ Z 1 s.toNat ∧ Z 1 s.toNat ≤ 23) (k : Q (mput h (zrow Z 46 (zfo Z s a t (Z 1 s.toNat - a).toNat))) (.inl none)) :
    ∀ (m i : Nat), a + 1 + i ≤ Z 1 s.toNat + 1 → Z 1 s.toNat ≤ a + i + m → AW mX8_follows fr lo mc ms Q bc bs 4 (mput h (zrow Z 46 (zfo Z s a t i))) [(3, vi (a + 1 + (i : Int))), (0, vr mO), (1, vi s), (2, vi a)] [] := by
  subst hfr; subst hlo
  have fin : ∀ i : Nat, Z 1 s.toNat = a + i → (Z 1 s.toNat - a).toNat = i := fun i e => by omega
  intro m
  induction m with
  | zero =>
    intro i h1 h2
    refine AW.iload_n dX8_follows_4 rfl ?_
    refine AW.aload_n dX8_follows_5 rfl ?_
    refine AW.mA 1 W dX8_follows_6 lkX8_7 rfl rfl ?_
    refine AW.iload_n dX8_follows_9 rfl ?_
    refine AW.mldE (j := 1) W dX8_follows_10 rfl rfl (by simp only [mlen]; omega) (by (repeat first | apply zs_ne rfl | apply zs_eq (by omega) | apply zs_miss (by omega) | apply zrow_ne rfl); exact rfl) ?_
    refine AW.icmp_gt (tgt := 178) dX8_follows_11 rfl (fun c_11 => ?_) (fun c_11 => ?_)
    · refine AW.vret dX8_follows_178 rfl ?_
      rw [fin i (by omega)] at k
      exact k
    · exact absurd c_11 (by omega)
  | succ m ih =>
    intro i h1 h2
    by_cases hl : a + 1 + (i : Int) ≤ Z 1 s.toNat
    · have nx : ∀ tv, tv = zfs Z (24 * s + (a + 1 + (i : Int))) (zfo Z s a t i) → AW mX8_follows fX8_follows loX8_follows mc ms Q bc bs 172 (mput h (zrow Z 46 tv)) [(3, vi (a + 1 + (i : Int))), (0, vr mO), (1, vi s), (2, vi a)] [] := by
        intro tv etv
        refine AW.iincB dX8_follows_172 rfl rfl (by omega) ?_
        refine AW.goto (tgt := 4) dX8_follows_175 rfl ?_
        refine AW.locs [(3, vi (a + 1 + ((i + 1 : Nat) : Int))), (0, vr mO), (1, vi s), (2, vi a)] ⟨?_, rfl, rfl, rfl, trivial⟩ (AW.mZ ?_ (ih (i + 1) (by omega) (by omega)))
        · show some (vi _) = some (vi _); congr 2; omega
        · rw [etv]; rfl
      refine AW.iload_n dX8_follows_4 rfl ?_
      refine AW.aload_n dX8_follows_5 rfl ?_
      refine AW.mA 1 W dX8_follows_6 lkX8_7 rfl rfl ?_
      refine AW.iload_n dX8_follows_9 rfl ?_
      refine AW.mldE (j := 1) W dX8_follows_10 rfl rfl (by simp only [mlen]; omega) (by (repeat first | apply zs_ne rfl | apply zs_eq (by omega) | apply zs_miss (by omega) | apply zrow_ne rfl); exact rfl) ?_
      refine AW.icmp_gt (tgt := 178) dX8_follows_11 rfl (fun c_11 => ?_) (fun c_11 => ?_)
      · exact absurd c_11 (by omega)
      · refine AW.bipush dX8_follows_14 bp_24 (by decide) ?_
        refine AW.iload_n dX8_follows_16 rfl ?_
        refine AW.imulB dX8_follows_17 (by omega) ?_
        refine AW.iload_n dX8_follows_18 rfl ?_
        refine AW.iaddB dX8_follows_19 (by omega) (AW.top (y := 24 * s + (a + 1 + (i : Int))) (by omega) ?_)
        refine AW.istore dX8_follows_20 rfl ?_
        refine AW.aload_n dX8_follows_22 rfl ?_
        refine AW.mA 7 W dX8_follows_23 lkX8_29 rfl rfl ?_
        refine AW.iload dX8_follows_26 rfl ?_
        refine AW.mldE (j := 7) W dX8_follows_28 rfl rfl (by simp only [mlen]; omega) (by (repeat first | apply zs_ne rfl | apply zs_eq (by omega) | apply zs_miss (by omega) | apply zrow_ne rfl); exact rfl) ?_
        refine AW.iconst dX8_follows_29 (by decide) ?_
        refine AW.icmp_lt (tgt := 172) dX8_follows_30 rfl (fun c_30 => ?_) (fun c_30 => ?_)
        · refine AW.locs [(3, vi (a + 1 + (i : Int))), (0, vr mO), (1, vi s), (2, vi a)] ⟨rfl, rfl, rfl, rfl, trivial⟩ (nx _ ?_)
          unfold zfs
          rw [if_neg (by omega)]
        · refine AW.aload_n dX8_follows_33 rfl ?_
          refine AW.mA 7 W dX8_follows_34 lkX8_29 rfl rfl ?_
          refine AW.iload dX8_follows_37 rfl ?_
          refine AW.mldE (j := 7) W dX8_follows_39 rfl rfl (by simp only [mlen]; omega) (by (repeat first | apply zs_ne rfl | apply zs_eq (by omega) | apply zs_miss (by omega) | apply zrow_ne rfl); exact rfl) ?_
          refine AW.iconst dX8_follows_40 (by decide) ?_
          refine AW.icmp_gt (tgt := 172) dX8_follows_41 rfl (fun c_41 => ?_) (fun c_41 => ?_)
          · refine AW.locs [(3, vi (a + 1 + (i : Int))), (0, vr mO), (1, vi s), (2, vi a)] ⟨rfl, rfl, rfl, rfl, trivial⟩ (nx _ ?_)
            unfold zfs
            rw [if_neg (by omega)]
          · refine AW.iconst dX8_follows_44 (by decide) ?_
            refine AW.istore dX8_follows_45 rfl ?_
            refine AW.iconst dX8_follows_47 (by decide) ?_
            refine AW.istore dX8_follows_48 rfl ?_
            exact X8_follows_c rfl rfl W B (by omega) (by omega) (nx _ rfl)
    · have nl := hl
      refine AW.iload_n dX8_follows_4 rfl ?_
      refine AW.aload_n dX8_follows_5 rfl ?_
      refine AW.mA 1 W dX8_follows_6 lkX8_7 rfl rfl ?_
      refine AW.iload_n dX8_follows_9 rfl ?_
      refine AW.mldE (j := 1) W dX8_follows_10 rfl rfl (by simp only [mlen]; omega) (by (repeat first | apply zs_ne rfl | apply zs_eq (by omega) | apply zs_miss (by omega) | apply zrow_ne rfl); exact rfl) ?_
      refine AW.icmp_gt (tgt := 178) dX8_follows_11 rfl (fun c_11 => ?_) (fun c_11 => ?_)
      · refine AW.vret dX8_follows_178 rfl ?_
        rw [fin i (by omega)] at k
        exact k
      · exact absurd c_11 (by omega)
theorem kX8_follows {s a : Int} {t : Nat → Int} (W : WfM h) (B : BB Z) (hs : 0 ≤ s ∧ s < 4) (ha : 0 ≤ a) (b1 : a ≤ Z 1 s.toNat ∧ Z 1 s.toNat ≤ 23) (k : Q (mput h (zrow Z 46 (zfo Z s a t (Z 1 s.toNat - a).toNat))) (.inl none)) : AC mX8_follows fX8_follows loX8_follows 0 0 (mput h (zrow Z 46 t)) [vr mO, vi s, vi a] Q := by
  refine AC.mk (by decide) (Nat.le_of_ble_eq_true rfl) ?_
  refine AW.iload_n dX8_follows_0 rfl ?_
  refine AW.iconst dX8_follows_1 (by decide) ?_
  refine AW.iaddB dX8_follows_2 (by omega) ?_
  refine AW.istore_n dX8_follows_3 rfl ?_
  refine AW.locs [(3, vi (a + 1 + ((0 : Nat) : Int))), (0, vr mO), (1, vi s), (2, vi a)] ⟨?_, rfl, rfl, rfl, trivial⟩ (lX8_follows rfl rfl W B hs ha b1 k (Z 1 s.toNat - a).toNat 0 (by omega) (by omega))
  show some (vi _) = some (vi _)
  congr 2
  omega
end M5
