/-! ===== the model: what holds a field up ===== -/
section M6
variable {Q : AH → AO → Prop} {h : AH} {Z : ZT}
def flg (t : Nat → Int) : Prop := ∀ q, t q = 0 ∨ t q = 1
def agr (t t' : Nat → Int) : Prop := ∀ q : Nat, q < 48 → t q = t' q
/-- bounds of the forms -/
def BG (Z : ZT) : Prop := (0 ≤ Z 13 0 ∧ Z 13 0 ≤ 8) ∧ ∀ g : Nat, g < 8 → 0 ≤ Z 14 g ∧ Z 14 g < 4 ∧ 0 ≤ Z 15 g ∧ Z 15 g ≤ Z 1 (Z 14 g).toNat
theorem zh0_01 {f0 : Int} {t : Nat → Int} : zh0 f0 t = 0 ∨ zh0 f0 t = 1 := bz01 _
theorem zt1_flg {f0 : Int} {t : Nat → Int} (F : flg t) : flg (zt1 f0 t) := by
  intro q; unfold zt1 tset; split
  · exact F q
  · dsimp only; split
    · exact Or.inl rfl
    · exact F q
theorem ztb_flg {f0 b : Int} {t : Nat → Int} (F : flg t) : flg (ztb f0 b t) := by
  intro q; unfold ztb tset; split
  · exact F q
  · dsimp only; split
    · exact Or.inr rfl
    · exact F q
theorem zfs_flg {p : Int} {t : Nat → Int} (F : flg t) : flg (zfs Z p t) := by
  unfold zfs; split
  · exact ztb_flg (ztb_flg (zt1_flg (zt1_flg F)))
  · exact F
theorem zfo_flg {s a : Int} {t : Nat → Int} (F : flg t) : ∀ n, flg (zfo Z s a t n)
  | 0 => F
  | n + 1 => zfs_flg (zfo_flg F n)
theorem zh0_agr {f0 : Int} {t t' : Nat → Int} (hf : -1 ≤ f0 ∧ f0 < 48) (A : agr t t') : zh0 f0 t = zh0 f0 t' := by
  unfold zh0
  by_cases e : f0 = -1
  · simp [e]
  · rw [A f0.toNat (by omega)]
theorem tset_agr {i v : Int} {t t' : Nat → Int} (A : agr t t') : agr (tset t i v) (tset t' i v) := by
  intro q hq; unfold tset; split
  · rfl
  · exact A q hq
theorem zt1_agr {f0 : Int} {t t' : Nat → Int} (A : agr t t') : agr (zt1 f0 t) (zt1 f0 t') := by
  unfold zt1; split
  · exact A
  · exact tset_agr A
theorem zh1_agr {f0 f1 : Int} {t t' : Nat → Int} (hf : -1 ≤ f0 ∧ f0 < 48) (hf1 : -1 ≤ f1 ∧ f1 < 48) (A : agr t t') : zh1 f0 f1 t = zh1 f0 f1 t' := by
  unfold zh1
  rw [zh0_agr hf A, zh0_agr hf1 (zt1_agr A)]
theorem ztb_agr {f0 b : Int} {t t' : Nat → Int} (A : agr t t') : agr (ztb f0 b t) (ztb f0 b t') := by
  unfold ztb; split
  · exact A
  · exact tset_agr A
theorem zfs_agr {p : Int} {t t' : Nat → Int} (B : BB Z) (A : agr t t') : agr (zfs Z p t) (zfs Z p t') := by
  unfold zfs; split
  · rw [zh1_agr (B _).1 (B _).1 A]
    exact ztb_agr (ztb_agr (zt1_agr (zt1_agr A)))
  · exact A
theorem zfo_agr {s a : Int} {t t' : Nat → Int} (B : BB Z) (A : agr t t') : ∀ n, agr (zfo Z s a t n) (zfo Z s a t' n)
  | 0 => A
  | n + 1 => zfs_agr B (zfo_agr B A n)
def zup (t0 t1 : Nat → Int) (i : Nat) : Nat → Int := fun q => if q < i then t1 q else t0 q
theorem zup_0 {t0 t1 : Nat → Int} : zup t0 t1 0 = t0 := by funext q; unfold zup; rw [if_neg (by omega)]
theorem zup_step {t0 t1 : Nat → Int} {j i q : Nat} {v : Int} (hq : q = i) (hv : v = t1 i) : zs (zrow Z j (zup t0 t1 i)) j q v = zrow Z j (zup t0 t1 (i + 1)) := by
  subst hq; subst hv
  rw [zs_zrow]
  congr 1
  funext x
  unfold zup
  by_cases e : x = q
  · subst e; rw [if_pos rfl, if_pos (by omega)]
  · rw [if_neg e]
    by_cases e2 : x < q
    · rw [if_pos e2, if_pos (by omega)]
    · rw [if_neg e2, if_neg (by omega)]
theorem zup_agr {t0 t1 : Nat → Int} : agr (zup t0 t1 48) t1 := by intro q hq; unfold zup; rw [if_pos hq]
theorem zup_flg {t0 t1 : Nat → Int} {i : Nat} (F0 : flg t0) (F1 : flg t1) : flg (zup t0 t1 i) := by
  intro q; unfold zup; split
  · exact F1 q
  · exact F0 q
def zTr (Z : ZT) (s a f : Int) : Nat → Int := zfo Z s a (fun q => bz ((q : Int) = f)) (Z 1 s.toNat - a).toNat
def zTo0 (Z : ZT) (g w : Int) : Nat → Int := fun q => bz (¬ Z 17 (48 * g + (q : Int)).toNat = 0 ∧ (w = 0 ∨ ¬ Z 18 (48 * g + (q : Int)).toNat = 0))
def zTo (Z : ZT) (g w : Int) : Nat → Int := zfo Z (Z 14 g.toNat) (Z 15 g.toNat) (zTo0 Z g w) (Z 1 (Z 14 g.toNat).toNat - Z 15 g.toNat).toNat
/-- whether a form holds the field f of the head of s up -/
def zhuA (Z : ZT) (s f : Int) : Nat → Int
  | 0 => 0
  | g + 1 => if Z 14 g = s ∧ Z 16 g = 0 then bz (¬ zhuA Z s f g = 0 ∨ ¬ zTo Z (g : Int) 0 f.toNat = 0) else zhuA Z s f g
def zhu (Z : ZT) (s f : Int) : Int := zhuA Z s f (Z 13 0).toNat
theorem zhuA_01 {s f : Int} : ∀ g, zhuA Z s f g = 0 ∨ zhuA Z s f g = 1
  | 0 => Or.inl rfl
  | g + 1 => by unfold zhuA; split; exact bz01 _; exact zhuA_01 g
end M6
