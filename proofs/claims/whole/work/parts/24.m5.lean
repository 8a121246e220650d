/-! ===== the model: traces and drops ===== -/
section M5
variable {Q : AH → AO → Prop} {h : AH} {Z : ZT}
def zrow (Z : ZT) (j0 : Nat) (t : Nat → Int) : ZT := fun j i => if j = j0 then t i else Z j i
theorem zrow_e {j i : Nat} {t : Nat → Int} {x : Int} (k : t i = x) : zrow Z j t j i = x := by unfold zrow; rw [if_pos rfl, k]
theorem zrow_ne {j0 j i : Nat} {t : Nat → Int} {x : Int} (hj : Nat.beq j j0 = false) (k : Z j i = x) : zrow Z j0 t j i = x := by
  unfold zrow
  rw [if_neg, k]
  rintro rfl
  simp at hj
theorem zs_zrow {j i : Nat} {t : Nat → Int} {v : Int} : zs (zrow Z j t) j i v = zrow Z j (fun q => if q = i then v else t q) := by
  funext a b
  unfold zs zrow
  by_cases e : a = j
  · subst e; simp
  · simp [e]
theorem zrow_self {j : Nat} : zrow Z j (Z j) = Z := by
  funext a b
  unfold zrow
  split
  · next e => rw [e]
  · rfl
theorem zrow_zrow {j : Nat} {t t' : Nat → Int} : zrow (zrow Z j t) j t' = zrow Z j t' := by
  funext a b
  unfold zrow
  split <;> rfl
def tset (t : Nat → Int) (i : Int) (v : Int) : Nat → Int := fun q => if q = i.toNat then v else t q
/-- fields in front and behind are fields or none -/
def BB (Z : ZT) : Prop := ∀ i, (-1 ≤ Z 8 i ∧ Z 8 i < 48) ∧ (-1 ≤ Z 9 i ∧ Z 9 i < 48)
/-- over one step -/
def zh0 (f0 : Int) (t : Nat → Int) : Int := bz (¬ f0 = -1 ∧ ¬ t f0.toNat = 0)
def zt1 (f0 : Int) (t : Nat → Int) : Nat → Int := if f0 = -1 then t else tset t f0 0
def zh1 (f0 f1 : Int) (t : Nat → Int) : Int := if ¬ zh0 f0 t = 0 then 1 else zh0 f1 (zt1 f0 t)
def zt2 (f0 f1 : Int) (t : Nat → Int) : Nat → Int := zt1 f1 (zt1 f0 t)
def ztb (hs b : Int) (t : Nat → Int) : Nat → Int := if hs = 0 ∨ b = -1 then t else tset t b 1
def zfs (Z : ZT) (p : Int) (t : Nat → Int) : Nat → Int :=
  if 2 ≤ Z 7 p.toNat ∧ Z 7 p.toNat ≤ 5 then
    ztb (zh1 (Z 8 (2 * p).toNat) (Z 8 (2 * p + 1).toNat) t) (Z 9 (2 * p + 1).toNat) (ztb (zh1 (Z 8 (2 * p).toNat) (Z 8 (2 * p + 1).toNat) t) (Z 9 (2 * p).toNat) (zt2 (Z 8 (2 * p).toNat) (Z 8 (2 * p + 1).toNat) t))
  else t
def zfo (Z : ZT) (s a : Int) (t : Nat → Int) : Nat → Nat → Int
  | 0 => t
  | m + 1 => zfs Z (24 * s + (a + 1 + (m : Int))) (zfo Z s a t m)
theorem X8_follows_b {fr lo mc ms bc bs : Nat} (hfr : fr = fX8_follows) (hlo : lo = loX8_follows) {s a k p hv : Int} {t : Nat → Int} (W : WfM h) (B : BB Z) (hp : 0 ≤ p ∧ p < 96) (k172 : ∀ x6 : Int, AW mX8_follows fr lo mc ms Q bc bs 172 (mput h (zrow Z 46 (ztb hv (Z 9 (2 * p + 1).toNat) (ztb hv (Z 9 (2 * p).toNat) t)))) [(3, vi k), (0, vr mO), (1, vi s), (2, vi a)] []) :
    AW mX8_follows fr lo mc ms Q bc bs 121 (mput h (zrow Z 46 t)) [(6, vi 0), (5, vi hv), (4, vi p), (3, vi k), (0, vr mO), (1, vi s), (2, vi a)] [] := by
  subst hfr; subst hlo
  have s2 : ∀ tv, tv = ztb hv (Z 9 (2 * p + 1).toNat) (ztb hv (Z 9 (2 * p).toNat) t) → AW mX8_follows fX8_follows loX8_follows mc ms Q bc bs 121 (mput h (zrow Z 46 tv)) [(6, vi 2), (5, vi hv), (4, vi p), (3, vi k), (0, vr mO), (1, vi s), (2, vi a)] [] := by
    intro tv etv
    subst etv
    refine AW.iload dX8_follows_121 rfl ?_
    refine AW.iconst dX8_follows_123 (by decide) ?_
    refine AW.icmp_ge (tgt := 172) dX8_follows_124 rfl (fun c_124 => ?_) (fun c_124 => ?_)
    · exact AW.locs _ ⟨rfl, rfl, rfl, rfl, trivial⟩ (k172 0)
    · exact absurd c_124 (by omega)
  have s1 : ∀ tv, tv = ztb hv (Z 9 (2 * p).toNat) t → AW mX8_follows fX8_follows loX8_follows mc ms Q bc bs 121 (mput h (zrow Z 46 tv)) [(6, vi 1), (5, vi hv), (4, vi p), (3, vi k), (0, vr mO), (1, vi s), (2, vi a)] [] := by
    intro tv etv
    have b1 := (B (2 * p + 1).toNat).2
    refine AW.iload dX8_follows_121 rfl ?_
    refine AW.iconst dX8_follows_123 (by decide) ?_
    refine AW.icmp_ge (tgt := 172) dX8_follows_124 rfl (fun c_124 => ?_) (fun c_124 => ?_)
    · exact absurd c_124 (by omega)
    · refine AW.iload dX8_follows_127 rfl ?_
      refine AW.if_eq (tgt := 172) dX8_follows_129 rfl (fun c_129 => ?_) (fun c_129 => ?_)
      · refine AW.locs _ ⟨rfl, rfl, rfl, rfl, trivial⟩ (AW.mZ ?_ (k172 0))
        rw [etv]
        unfold ztb
        simp [c_129]
      · refine AW.aload_n dX8_follows_132 rfl ?_
        refine AW.mA 9 W dX8_follows_133 lkX8_35 rfl rfl ?_
        refine AW.iconst dX8_follows_136 (by decide) ?_
        refine AW.iload dX8_follows_137 rfl ?_
        refine AW.imulB dX8_follows_139 (by omega) ?_
        refine AW.iload dX8_follows_140 rfl ?_
        refine AW.iaddB dX8_follows_142 (by omega) ?_
        refine AW.mldE (j := 9) W dX8_follows_143 rfl rfl (by simp only [mlen]; omega) (by (repeat first | apply zs_ne rfl | apply zs_eq (by omega) | apply zs_miss (by omega) | apply zrow_ne rfl); exact rfl) ?_
        refine AW.iconst dX8_follows_144 (by decide) ?_
        refine AW.icmp_eq (tgt := 166) dX8_follows_145 rfl (fun c_145 => ?_) (fun c_145 => ?_)
        · first | (refine AW.mZ (Z' := zrow Z 46 (ztb hv (Z 9 (2 * p + 1).toNat) (ztb hv (Z 9 (2 * p).toNat) t))) (by rw [etv]; unfold ztb; first | (rw [zs_zrow]; simp only [c_129, c_145, or_self, if_false]; rfl) | (simp only [c_145, or_true, if_true]; done)) ?_) | skip
          refine AW.iincB dX8_follows_166 rfl rfl (by omega) ?_
          refine AW.goto (tgt := 121) dX8_follows_169 rfl ?_
          exact AW.locs _ ⟨rfl, rfl, rfl, rfl, rfl, rfl, rfl, trivial⟩ (s2 _ rfl)
        · refine AW.aload_n dX8_follows_148 rfl ?_
          refine AW.mA 46 W dX8_follows_149 lkX8_131 rfl rfl ?_
          refine AW.aload_n dX8_follows_152 rfl ?_
          refine AW.mA 9 W dX8_follows_153 lkX8_35 rfl rfl ?_
          refine AW.iconst dX8_follows_156 (by decide) ?_
          refine AW.iload dX8_follows_157 rfl ?_
          refine AW.imulB dX8_follows_159 (by omega) ?_
          refine AW.iload dX8_follows_160 rfl ?_
          refine AW.iaddB dX8_follows_162 (by omega) ?_
          refine AW.mldE (j := 9) W dX8_follows_163 rfl rfl (by simp only [mlen]; omega) (by (repeat first | apply zs_ne rfl | apply zs_eq (by omega) | apply zs_miss (by omega) | apply zrow_ne rfl); exact rfl) ?_
          refine AW.iconst dX8_follows_164 (by decide) ?_
          refine AW.mstZ (j := 46) W dX8_follows_165 rfl rfl (by simp only [mlen]; omega) (by omega) ?_
          first | (refine AW.mZ (Z' := zrow Z 46 (ztb hv (Z 9 (2 * p + 1).toNat) (ztb hv (Z 9 (2 * p).toNat) t))) (by rw [etv]; unfold ztb; first | (rw [zs_zrow]; simp only [c_129, c_145, or_self, if_false]; rfl) | (simp only [c_145, or_true, if_true]; done)) ?_) | skip
          refine AW.iincB dX8_follows_166 rfl rfl (by omega) ?_
          refine AW.goto (tgt := 121) dX8_follows_169 rfl ?_
          exact AW.locs _ ⟨rfl, rfl, rfl, rfl, rfl, rfl, rfl, trivial⟩ (s2 _ rfl)
  have b0 := (B (2 * p).toNat).2
  refine AW.iload dX8_follows_121 rfl ?_
  refine AW.iconst dX8_follows_123 (by decide) ?_
  refine AW.icmp_ge (tgt := 172) dX8_follows_124 rfl (fun c_124 => ?_) (fun c_124 => ?_)
  · exact absurd c_124 (by omega)
  · refine AW.iload dX8_follows_127 rfl ?_
    refine AW.if_eq (tgt := 172) dX8_follows_129 rfl (fun c_129 => ?_) (fun c_129 => ?_)
    · refine AW.locs _ ⟨rfl, rfl, rfl, rfl, trivial⟩ (AW.mZ ?_ (k172 0))
      unfold ztb
      simp [c_129]
    · refine AW.aload_n dX8_follows_132 rfl ?_
      refine AW.mA 9 W dX8_follows_133 lkX8_35 rfl rfl ?_
      refine AW.iconst dX8_follows_136 (by decide) ?_
      refine AW.iload dX8_follows_137 rfl ?_
      refine AW.imulB dX8_follows_139 (by omega) ?_
      refine AW.iload dX8_follows_140 rfl ?_
      refine AW.iaddB dX8_follows_142 (by omega) (AW.top (y := 2 * p) (by omega) ?_)
      refine AW.mldE (j := 9) W dX8_follows_143 rfl rfl (by simp only [mlen]; omega) (by (repeat first | apply zs_ne rfl | apply zs_eq (by omega) | apply zs_miss (by omega) | apply zrow_ne rfl); exact rfl) ?_
      refine AW.iconst dX8_follows_144 (by decide) ?_
      refine AW.icmp_eq (tgt := 166) dX8_follows_145 rfl (fun c_145 => ?_) (fun c_145 => ?_)
      · refine AW.iincB dX8_follows_166 rfl rfl (by omega) ?_
        refine AW.goto (tgt := 121) dX8_follows_169 rfl ?_
        first | exact AW.locs _ ⟨rfl, rfl, rfl, rfl, rfl, rfl, rfl, trivial⟩ (AW.mZ (by unfold ztb; simp only [c_145, or_true, if_true]) (s1 _ rfl)) | exact AW.locs _ ⟨rfl, rfl, rfl, rfl, rfl, rfl, rfl, trivial⟩ (AW.mZ (by rw [zs_zrow]; unfold ztb; simp only [c_129, c_145, or_self, if_false]; rfl) (s1 _ rfl))
      · refine AW.aload_n dX8_follows_148 rfl ?_
        refine AW.mA 46 W dX8_follows_149 lkX8_131 rfl rfl ?_
        refine AW.aload_n dX8_follows_152 rfl ?_
        refine AW.mA 9 W dX8_follows_153 lkX8_35 rfl rfl ?_
        refine AW.iconst dX8_follows_156 (by decide) ?_
        refine AW.iload dX8_follows_157 rfl ?_
        refine AW.imulB dX8_follows_159 (by omega) ?_
        refine AW.iload dX8_follows_160 rfl ?_
        refine AW.iaddB dX8_follows_162 (by omega) (AW.top (y := 2 * p) (by omega) ?_)
        refine AW.mldE (j := 9) W dX8_follows_163 rfl rfl (by simp only [mlen]; omega) (by (repeat first | apply zs_ne rfl | apply zs_eq (by omega) | apply zs_miss (by omega) | apply zrow_ne rfl); exact rfl) ?_
        refine AW.iconst dX8_follows_164 (by decide) ?_
        refine AW.mstZ (j := 46) W dX8_follows_165 rfl rfl (by simp only [mlen]; omega) (by omega) ?_
        refine AW.iincB dX8_follows_166 rfl rfl (by omega) ?_
        refine AW.goto (tgt := 121) dX8_follows_169 rfl ?_
        first | exact AW.locs _ ⟨rfl, rfl, rfl, rfl, rfl, rfl, rfl, trivial⟩ (AW.mZ (by unfold ztb; simp only [c_145, or_true, if_true]) (s1 _ rfl)) | exact AW.locs _ ⟨rfl, rfl, rfl, rfl, rfl, rfl, rfl, trivial⟩ (AW.mZ (by rw [zs_zrow]; unfold ztb; simp only [c_129, c_145, or_self, if_false]; rfl) (s1 _ rfl))
end M5
