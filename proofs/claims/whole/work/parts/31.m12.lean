/-! ===== the model: renew ===== -/
section M12
variable {Q : AH → AO → Prop} {h : AH} {Z : ZT}
/-- what the traces are read from -/
def reT (Z' Z : ZT) : Prop := ∀ j, (j == 1 || j == 7 || j == 8 || j == 9 || j == 13 || j == 14 || j == 15 || j == 16 || j == 17 || j == 18) = true → Z' j = Z j
theorem zfs_c {Z' : ZT} (e : reT Z' Z) {p : Int} {t : Nat → Int} : zfs Z' p t = zfs Z p t := by
  unfold zfs; rw [e 7 rfl, e 8 rfl, e 9 rfl]
theorem zfo_c {Z' : ZT} (e : reT Z' Z) {s a : Int} {t : Nat → Int} : ∀ n, zfo Z' s a t n = zfo Z s a t n
  | 0 => rfl
  | n + 1 => by unfold zfo; rw [zfo_c e n, zfs_c e]
theorem zTo_c {Z' : ZT} (e : reT Z' Z) {g w : Int} : zTo Z' g w = zTo Z g w := by
  unfold zTo zTo0; rw [zfo_c e, e 14 rfl, e 15 rfl, e 1 rfl, e 17 rfl, e 18 rfl]
theorem zTr_c {Z' : ZT} (e : reT Z' Z) {s a f : Int} : zTr Z' s a f = zTr Z s a f := by
  unfold zTr; rw [zfo_c e, e 1 rfl]
theorem zhuA_c {Z' : ZT} (e : reT Z' Z) {s f : Int} : ∀ g, zhuA Z' s f g = zhuA Z s f g
  | 0 => rfl
  | g + 1 => by unfold zhuA; rw [zhuA_c e g, e 14 rfl, e 16 rfl, zTo_c e]
theorem zhu_c {Z' : ZT} (e : reT Z' Z) {s f : Int} : zhu Z' s f = zhu Z s f := by
  unfold zhu; rw [zhuA_c e, e 13 rfl]
theorem reT_zs {Z' : ZT} {j i : Nat} {v : Int} (hj : (j == 1 || j == 7 || j == 8 || j == 9 || j == 13 || j == 14 || j == 15 || j == 16 || j == 17 || j == 18) = false) (e : reT Z' Z) : reT (zs Z' j i v) Z := by
  intro j' hj'
  rw [← e j' hj']
  funext q
  unfold zs
  rw [if_neg]
  rintro ⟨rfl, -⟩
  rw [hj'] at hj
  exact absurd hj (by decide)
theorem reT_zrow {Z' : ZT} {j : Nat} {t : Nat → Int} (hj : (j == 1 || j == 7 || j == 8 || j == 9 || j == 13 || j == 14 || j == 15 || j == 16 || j == 17 || j == 18) = false) (e : reT Z' Z) : reT (zrow Z' j t) Z := by
  intro j' hj'
  rw [← e j' hj']
  funext q
  unfold zrow
  rw [if_neg]
  rintro rfl
  rw [hj'] at hj
  exact absurd hj (by decide)
theorem reT_r : reT Z Z := fun _ _ => rfl
theorem zTo_flg {g w : Int} : flg (zTo Z g w) := by unfold zTo; exact zfo_flg (fun q => bz01 _) _
theorem BI_zrow47 {t : Nat → Int} (B : BI Z) (F : flg t) : BI (zrow Z 47 t) := by
  obtain ⟨b1, b2, b3, b4, b5, b6⟩ := B
  refine ⟨b1, fun j hm q => ?_, b3, b4, b5, b6⟩
  unfold zrow; split
  · exact F q
  · exact b2 j hm q
theorem zrow_comm {j j' : Nat} {t t' : Nat → Int} (hj : Nat.beq j j' = false) : zrow (zrow Z j t) j' t' = zrow (zrow Z j' t') j t := by
  have hj' : ¬ j = j' := fun e => by subst e; simp at hj
  funext a b
  unfold zrow
  by_cases e : a = j'
  · rw [if_pos e, if_neg (fun z => hj' (z.symm.trans e)), if_pos e]
  · rw [if_neg e]
    by_cases e2 : a = j
    · rw [if_pos e2, if_pos e2]
    · rw [if_neg e2, if_neg e2, if_neg e]
/-- the fields of a form taken anew -/
def zrnF (Z : ZT) (g : Int) (th tw : Nat → Int) (i : Nat) : ZT := fun j q => if (j = 17 ∨ j = 18) ∧ 48 * g ≤ (q : Int) ∧ (q : Int) < 48 * g + i then (if j = 17 then th (q - (48 * g).toNat) else tw (q - (48 * g).toNat)) else Z j q
theorem zrnF_0 {g : Int} {th tw : Nat → Int} : zrnF Z g th tw 0 = Z := by
  funext j q; unfold zrnF; rw [if_neg]; rintro ⟨-, e1, e2⟩; omega
theorem zrnF_step {g : Int} {th tw : Nat → Int} (hg : 0 ≤ g) {i q q' : Nat} {v v' : Int} (hq : q = (48 * g + (i : Int)).toNat) (hq' : q' = (48 * g + (i : Int)).toNat) (hv : v = th i) (hv' : v' = tw i) : zs (zs (zrnF Z g th tw i) 17 q v) 18 q' v' = zrnF Z g th tw (i + 1) := by
  subst hq; subst hq'; subst hv; subst hv'
  funext a b
  unfold zs zrnF
  have e0 : (48 * g + (i : Int)).toNat - (48 * g).toNat = i := by omega
  by_cases e : a = 18 ∧ b = (48 * g + (i : Int)).toNat
  · rw [if_pos e, if_pos ⟨Or.inr e.1, by omega, by omega⟩, if_neg (by omega), e.2, e0]
  · rw [if_neg e]
    by_cases e1 : a = 17 ∧ b = (48 * g + (i : Int)).toNat
    · rw [if_pos e1, if_pos ⟨Or.inl e1.1, by omega, by omega⟩, if_pos e1.1, e1.2, e0]
    · rw [if_neg e1]
      by_cases e2 : (a = 17 ∨ a = 18) ∧ 48 * g ≤ (b : Int) ∧ (b : Int) < 48 * g + (i : Nat)
      · have e3 : (a = 17 ∨ a = 18) ∧ 48 * g ≤ (b : Int) ∧ (b : Int) < 48 * g + ((i + 1 : Nat) : Int) := ⟨e2.1, by omega, by omega⟩
        rw [if_pos e2, if_pos e3]
      · rw [if_neg e2, if_neg]
        rintro ⟨z1, z2, z3⟩
        refine e2 ⟨z1, z2, ?_⟩
        rcases z1 with z1 | z1
        · have := fun z => e1 ⟨z1, z⟩
          omega
        · have := fun z => e ⟨z1, z⟩
          omega
theorem BI_zrnF {g : Int} {th tw : Nat → Int} {i : Nat} (B : BI Z) (F : flg th) (F2 : flg tw) : BI (zrnF Z g th tw i) := by
  have e : ∀ j', (j' != 17 && j' != 18) = true → zrnF Z g th tw i j' = Z j' := by
    intro j' hj'
    funext q
    unfold zrnF
    rw [if_neg]
    rintro ⟨rfl | rfl, -⟩ <;> simp at hj'
  obtain ⟨b1, b2, b3, b4, b5, b6⟩ := B
  refine ⟨?_, ?_, ?_, ?_, ?_, ?_⟩
  · unfold BS; rw [e 0 rfl, e 1 rfl, e 2 rfl, e 11 rfl]; exact b1
  · intro j' hm q
    unfold zrnF; split
    · split
      · exact F _
      · exact F2 _
    · exact b2 j' hm q
  · unfold BB; rw [e 8 rfl, e 9 rfl]; exact b3
  · unfold BG; rw [e 13 rfl, e 14 rfl, e 15 rfl, e 1 rfl]; exact b4
  · unfold BW; rw [e 12 rfl]; exact b5
  · rw [e 1 rfl, e 2 rfl]; exact b6
theorem zrnF_o {g : Int} {th tw : Nat → Int} {i j q : Nat} {x : Int} (hj : (j != 17 && j != 18) = true) (k : Z j q = x) : zrnF Z g th tw i j q = x := by
  unfold zrnF
  rw [if_neg, k]
  rintro ⟨rfl | rfl, -⟩ <;> simp at hj
theorem BI_z15 {g : Nat} {v : Int} (hv : 0 ≤ v ∧ v ≤ Z 1 (Z 14 g).toNat) (B : BI Z) : BI (zs Z 15 g v) := by
  obtain ⟨b1, b2, b3, b4, b5, b6⟩ := B
  refine ⟨b1, fun j hm q => ?_, b3, ⟨b4.1, fun q hq => ?_⟩, b5, b6⟩
  · unfold zs; rw [if_neg]
    · exact b2 j hm q
    · rintro ⟨rfl, -⟩; exact absurd hm (by decide)
  · have b := b4.2 q hq
    refine ⟨b.1, b.2.1, ?_⟩
    show 0 ≤ zs Z 15 g v 15 q ∧ zs Z 15 g v 15 q ≤ Z 1 (Z 14 q).toNat
    unfold zs; split
    · next e => rw [e.2]; exact hv
    · exact b.2.2
def zRnw0 (Z : ZT) (g : Int) : ZT := zs (zrnF (zs Z 48 0 0) g (zTo Z g 0) (zTo Z g 1) 48) 15 g.toNat (Z 1 (Z 14 g.toNat).toNat)
/-- a state but for the rows 46 and 47 -/
def z67 (Z : ZT) (t u : Nat → Int) : ZT := zrow (zrow Z 47 u) 46 t
theorem zs_z67 {t u : Nat → Int} {j i : Nat} {v : Int} (hj : Nat.beq j 46 = false) (hj' : Nat.beq j 47 = false) : zs (z67 Z t u) j i v = z67 (zs Z j i v) t u := by
  unfold z67; rw [zs_zrow_c hj, zs_zrow_c hj']
theorem z67_ne {t u : Nat → Int} {j i : Nat} {x : Int} (hj : Nat.beq j 46 = false) (hj' : Nat.beq j 47 = false) (k : Z j i = x) : z67 Z t u j i = x := by
  unfold z67; exact zrow_ne hj (zrow_ne hj' k)
theorem z67_self : z67 Z (Z 46) (Z 47) = Z := by unfold z67; rw [zrow_self]; exact zrow_self
theorem BI_z67 {t u : Nat → Int} (B : BI Z) (F : flg t) (F2 : flg u) : BI (z67 Z t u) := BI_zrow (BI_zrow47 B F2) F
theorem zdo_z67 {s f : Int} {t u : Nat → Int} : zdo (z67 Z t u) s f = z67 (zdo Z s f) t u := by
  have e47 : zdo (zrow Z 47 u) s f = zrow (zdo Z s f) 47 u := by
    unfold zdo zbeg
    have e : ∀ a n, zcp (zrow Z 47 u) s a n = zrow (zcp Z s a n) 47 u := by
      intro a n
      funext j i
      unfold zcp zrow
      by_cases e : j = 47
      · rw [if_neg (fun z => by have := z.1; omega), if_pos e, if_pos e]
      · rw [if_neg e, if_neg e, if_neg e]
    rw [zrow_ne (x := Z 1 s.toNat) rfl rfl, zrow_ne (x := Z 2 s.toNat) rfl rfl, e, zs_zrow_c rfl, zs_zrow_c rfl, zs_zrow_c rfl, zs_zrow_c rfl, zs_zrow_c rfl, zs_zrow_c rfl, zs_zrow_c rfl, zs_zrow_c rfl]
  unfold z67; rw [zdo_zrow, e47]
theorem zlaS_47 {s : Int} {u : Nat → Int} : ∀ i, zlaS (zrow Z 47 u) s i = (zrow (zlaS Z s i).1 47 u, (zlaS Z s i).2)
  | 0 => rfl
  | i + 1 => by
    have e47 : ∀ Z : ZT, ∀ f, zdo (zrow Z 47 u) s f = zrow (zdo Z s f) 47 u := by
      intro Z f
      have := zdo_z67 (Z := Z) (s := s) (f := f) (t := Z 46) (u := u)
      have e1 : z67 Z (Z 46) u = zrow Z 47 u := zrow_self (Z := zrow Z 47 u) (j := 46)
      have e2 : z67 (zdo Z s f) (Z 46) u = zrow (zdo Z s f) 47 u := by
        have z : zdo Z s f 46 = Z 46 := by
          have := zdo_zrow (Z := Z) (s := s) (f := f) (t := Z 46)
          rw [zrow_self] at this
          rw [this]; rfl
        rw [← z]; exact zrow_self (Z := zrow (zdo Z s f) 47 u) (j := 46)
      rw [e1, e2] at this; exact this
    by_cases c : ¬ (zlaS Z s i).1 1 s.toNat = 23 ∧ zhu (zlaS Z s i).1 s ((zlaS Z s i).1 12 (48 * s + (i : Int)).toNat) = 0
    · have c' : ¬ (zlaS (zrow Z 47 u) s i).1 1 s.toNat = 23 ∧ zhu (zlaS (zrow Z 47 u) s i).1 s ((zlaS (zrow Z 47 u) s i).1 12 (48 * s + (i : Int)).toNat) = 0 := by
        rw [zlaS_47 i]; exact ⟨c.1, (zhu_c (reT_zrow rfl reT_r)).trans c.2⟩
      rw [zlaS_d c', zlaS_d c, zlaS_47 i]
      exact Prod.ext (e47 (zlaS Z s i).1 ((zlaS Z s i).1 12 (48 * s + (i : Int)).toNat)) rfl
    · have c' : ¬ (¬ (zlaS (zrow Z 47 u) s i).1 1 s.toNat = 23 ∧ zhu (zlaS (zrow Z 47 u) s i).1 s ((zlaS (zrow Z 47 u) s i).1 12 (48 * s + (i : Int)).toNat) = 0) := by
        rw [zlaS_47 i]; exact fun z => c ⟨z.1, (zhu_c (reT_zrow rfl reT_r)).symm.trans z.2⟩
      rw [zlaS_n c', zlaS_n c, zlaS_47 i]
      exact Prod.ext (zs_zrow_c rfl) rfl
theorem zla_47 {s : Int} {u : Nat → Int} : zla (zrow Z 47 u) s = zrow (zla Z s) 47 u := by
  unfold zla; rw [zrow_ne (x := Z 11 s.toNat) rfl rfl, zlaS_47, zs_zrow_c rfl]
theorem kX8_renew {g : Int} (W : WfM h) (B : BI Z) (kE : 0 < zcRet Z g → Q (mput h (zs Z 48 0 (zcRet Z g))) (.inl (some (vi 0))))
    (kO : zcRet Z g = 0 → ∀ t u, flg t → flg u → Q (mput h (z67 (zla (zRnw0 Z g) (Z 14 g.toNat)) t u)) (.inl (some (vi (zheA (zla (zRnw0 Z g) (Z 14 g.toNat)) g 48))))) : AC mX8_renew fX8_renew loX8_renew 0 0 (mput h Z) [vr mO, vi g] Q := by
  have G0 := B.2.2.2.1.1
  have B1 : BI (zs Z 48 0 0) := BI_zs rfl B
  have rT : reT (zs Z 48 0 0) Z := reT_zs rfl reT_r
  refine AC.mk (by decide) (Nat.le_of_ble_eq_true rfl) ?_
  have lp2 : ∀ t u, flg t → flg u → agr t (zTo Z g 0) → agr u (zTo Z g 1) → zcRet Z g = 0 → 0 ≤ g ∧ g < 8 → ∀ (m i : Nat) c2, i ≤ 48 → 48 ≤ i + m → AW mX8_renew fX8_renew loX8_renew 0 0 Q 0 0 77 (mput h (z67 (zrnF (zs Z 48 0 0) g (zTo Z g 0) (zTo Z g 1) i) t u)) [(3, vi (i : Int)), (2, vi c2), (0, vr mO), (1, vi g)] [] := by
    intro t u F F2 A A2 ec hg m
    have b := B.2.2.2.1.2 g.toNat (by omega)
    have bs := B.1.2 (Z 14 g.toNat).toNat (by omega)
    induction m with
    | zero =>
      intro i c2 h1 h2
      have e : i = 48 := by omega
      subst e
      have B2 : BI (zRnw0 Z g) := BI_z15 (by show 0 ≤ Z 1 _ ∧ _ ≤ Z 1 (Z 14 g.toNat).toNat; omega) (BI_zrnF B1 zTo_flg zTo_flg)
      refine AW.iload_n dX8_renew_77 rfl ?_
      refine AW.bipush dX8_renew_78 bp_48 (by decide) ?_
      refine AW.icmp_ge (tgt := 123) dX8_renew_80 rfl (fun c_80 => ?_) (fun c_80 => ?_)
      · refine AW.aload_n dX8_renew_123 rfl ?_
        refine AW.mA 15 W dX8_renew_124 lkX8_50 rfl rfl ?_
        refine AW.iload_n dX8_renew_127 rfl ?_
        refine AW.aload_n dX8_renew_128 rfl ?_
        refine AW.mA 1 W dX8_renew_129 lkX8_7 rfl rfl ?_
        refine AW.aload_n dX8_renew_132 rfl ?_
        refine AW.mA 14 W dX8_renew_133 lkX8_47 rfl rfl ?_
        refine AW.iload_n dX8_renew_136 rfl ?_
        refine AW.mldE (j := 14) W dX8_renew_137 rfl rfl (by simp only [mlen]; omega) (by (repeat first | apply zs_ne rfl | apply zs_eq (by omega) | apply zs_miss (by omega) | apply z67_ne rfl rfl | apply zrnF_o rfl); exact rfl) ?_
        refine AW.mldE (j := 1) W dX8_renew_138 rfl rfl (by simp only [mlen]; omega) (by (repeat first | apply zs_ne rfl | apply zs_eq (by omega) | apply zs_miss (by omega) | apply z67_ne rfl rfl | apply zrnF_o rfl); exact rfl) ?_
        refine AW.mst (j := 15) W dX8_renew_139 rfl rfl (by simp only [mlen]; omega) ?_
        refine AW.mZ (Z' := zrow (zrow (zRnw0 Z g) 47 u) 46 t) (zs_z67 rfl rfl) ?_
        refine AW.aload_n dX8_renew_140 rfl ?_
        refine AW.aload_n dX8_renew_141 rfl ?_
        refine AW.mA 14 W dX8_renew_142 lkX8_47 rfl rfl ?_
        refine AW.iload_n dX8_renew_145 rfl ?_
        refine AW.mldE (j := 14) W dX8_renew_146 rfl rfl (by simp only [mlen]; omega) (by rfl) ?_
        refine AW.callV (as := [vi _]) dX8_renew_147 rfl rfl rfl okX8_looksAtDrops lkX8_251 W.1 rfl rfl rfl rfl rfl rfl rfl (kX8_looksAtDrops W (BI_zrow47 B2 F2) F (show 0 ≤ Z 14 g.toNat ∧ Z 14 g.toNat < 4 by omega) (fun t3 F3 => (AW.k1 ?_)))
        refine AW.pop dX8_renew_150 rfl ?_
        refine AW.mZ (Z' := z67 (zla (zRnw0 Z g) (Z 14 g.toNat)) t3 u) (by rw [zla_47]; rfl) ?_
        refine AW.aload_n dX8_renew_151 rfl ?_
        refine AW.iload_n dX8_renew_152 rfl ?_
        refine AW.callV (as := [vi _]) dX8_renew_153 rfl rfl rfl okX8_held lkX8_245 W.1 rfl rfl rfl rfl rfl rfl rfl (kX8_held W (by omega) (AW.k1 ?_))
        refine AW.iret dX8_renew_156 rfl ?_
        refine finZ (kO ec t3 u F3 F2) rfl (zheA_c ?_ 48)
        rfl
      · exact absurd c_80 (by omega)
    | succ m ih =>
      intro i c2 h1 h2
      by_cases e : i = 48
      · exact ih i c2 h1 (by omega)
      refine AW.iload_n dX8_renew_77 rfl ?_
      refine AW.bipush dX8_renew_78 bp_48 (by decide) ?_
      refine AW.icmp_ge (tgt := 123) dX8_renew_80 rfl (fun c_80 => ?_) (fun c_80 => ?_)
      · exact absurd c_80 (by omega)
      · refine AW.aload_n dX8_renew_83 rfl ?_
        refine AW.mA 17 W dX8_renew_84 lkX8_56 rfl rfl ?_
        refine AW.bipush dX8_renew_87 bp_48 (by decide) ?_
        refine AW.iload_n dX8_renew_89 rfl ?_
        refine AW.imulB dX8_renew_90 (by omega) ?_
        refine AW.iload_n dX8_renew_91 rfl ?_
        refine AW.iaddB dX8_renew_92 (by omega) ?_
        refine AW.aload_n dX8_renew_93 rfl ?_
        refine AW.mA 46 W dX8_renew_94 lkX8_131 rfl rfl ?_
        refine AW.iload_n dX8_renew_97 rfl ?_
        refine AW.mldZE (j := 46) W dX8_renew_98 rfl rfl (by simp only [mlen]; omega) (by exact zrow_e rfl) ?_
        refine AW.mstZ (j := 17) W dX8_renew_99 rfl rfl (by simp only [mlen]; omega) (by exact F _) ?_
        refine AW.aload_n dX8_renew_100 rfl ?_
        refine AW.mA 18 W dX8_renew_101 lkX8_59 rfl rfl ?_
        refine AW.bipush dX8_renew_104 bp_48 (by decide) ?_
        refine AW.iload_n dX8_renew_106 rfl ?_
        refine AW.imulB dX8_renew_107 (by omega) ?_
        refine AW.iload_n dX8_renew_108 rfl ?_
        refine AW.iaddB dX8_renew_109 (by omega) ?_
        refine AW.aload_n dX8_renew_110 rfl ?_
        refine AW.mA 47 W dX8_renew_111 lkX8_134 rfl rfl ?_
        refine AW.iload_n dX8_renew_114 rfl ?_
        refine AW.mldZE (j := 47) W dX8_renew_115 rfl rfl (by simp only [mlen]; omega) (by apply zs_ne rfl; exact rfl) ?_
        refine AW.pcs (pc2 := 116) rfl ?_
        refine AW.mstZ (j := 18) W dX8_renew_116 rfl rfl (by simp only [mlen]; omega) (by exact F2 _) ?_
        refine AW.iincB dX8_renew_117 rfl rfl (by omega) ?_
        refine AW.goto (tgt := 77) dX8_renew_120 rfl ?_
        refine AW.locs [(3, vi ((i + 1 : Nat) : Int)), (2, vi c2), (0, vr mO), (1, vi g)] ⟨rfl, rfl, rfl, rfl, trivial⟩ (AW.mZ ?_ (ih (i + 1) c2 (by omega) (by omega)))
        rw [zs_z67 rfl rfl, zs_z67 rfl rfl]
        congr 1
        exact zrnF_step hg.1 rfl rfl (A i (by omega)) (A2 i (by omega))
  have lp1 : ∀ t u0, flg t → flg u0 → agr t (zTo Z g 1) → zcRet Z g = 0 → 0 ≤ g ∧ g < 8 → ∀ (m i : Nat) c2, i ≤ 48 → 48 ≤ i + m → AW mX8_renew fX8_renew loX8_renew 0 0 Q 0 0 45 (mput h (z67 (zs Z 48 0 0) t (zup u0 t i))) [(3, vi (i : Int)), (2, vi c2), (0, vr mO), (1, vi g)] [] := by
    intro t u0 F F0 A ec hg m
    induction m with
    | zero =>
      intro i c2 h1 h2
      have e : i = 48 := by omega
      subst e
      have F2 : flg (zup u0 t 48) := zup_flg F0 F
      have rT2 : reT (zrow (zs Z 48 0 0) 47 (zup u0 t 48)) Z := reT_zrow rfl rT
      have B2 : BI (zrow (zs Z 48 0 0) 47 (zup u0 t 48)) := BI_zrow47 B1 F2
      refine AW.iload_n dX8_renew_45 rfl ?_
      refine AW.bipush dX8_renew_46 bp_48 (by decide) ?_
      refine AW.icmp_ge (tgt := 69) dX8_renew_48 rfl (fun c_48 => ?_) (fun c_48 => ?_)
      · refine AW.aload_n dX8_renew_69 rfl ?_
        refine AW.iload_n dX8_renew_70 rfl ?_
        refine AW.iconst dX8_renew_71 (by decide) ?_
        refine AW.callV (as := [vi _, vi _]) dX8_renew_72 rfl rfl rfl okX8_tracesOf lkX8_209 W.1 rfl rfl rfl rfl rfl rfl rfl (kX8_tracesOf (t := t) W B2.2.2.1 B2.1 B2.2.2.2.1 F hg (fun t3 F3 A3 => (AW.k0 ?_)))
        refine AW.iconst dX8_renew_75 (by decide) ?_
        refine AW.istore_n dX8_renew_76 rfl ?_
        refine AW.locs [(3, vi ((0 : Nat) : Int)), (2, vi c2), (0, vr mO), (1, vi g)] ⟨rfl, rfl, rfl, rfl, trivial⟩ (AW.mZ ?_ (lp2 t3 (zup u0 t 48) F3 F2 (by rw [zTo_c rT2] at A3; exact A3) (fun q hq => (zup_agr q hq).trans (A q hq)) ec hg 48 0 c2 (by omega) (by omega)))
        rw [zrnF_0]
        rfl
      · exact absurd c_48 (by omega)
    | succ m ih =>
      intro i c2 h1 h2
      by_cases e : i = 48
      · exact ih i c2 h1 (by omega)
      refine AW.iload_n dX8_renew_45 rfl ?_
      refine AW.bipush dX8_renew_46 bp_48 (by decide) ?_
      refine AW.icmp_ge (tgt := 69) dX8_renew_48 rfl (fun c_48 => ?_) (fun c_48 => ?_)
      · exact absurd c_48 (by omega)
      · refine AW.aload_n dX8_renew_51 rfl ?_
        refine AW.mA 47 W dX8_renew_52 lkX8_134 rfl rfl ?_
        refine AW.iload_n dX8_renew_55 rfl ?_
        refine AW.aload_n dX8_renew_56 rfl ?_
        refine AW.mA 46 W dX8_renew_57 lkX8_131 rfl rfl ?_
        refine AW.iload_n dX8_renew_60 rfl ?_
        refine AW.mldZE (j := 46) W dX8_renew_61 rfl rfl (by simp only [mlen]; omega) (by exact zrow_e rfl) ?_
        refine AW.mstZ (j := 47) W dX8_renew_62 rfl rfl (by simp only [mlen]; omega) (by exact F _) ?_
        refine AW.iincB dX8_renew_63 rfl rfl (by omega) ?_
        refine AW.goto (tgt := 45) dX8_renew_66 rfl ?_
        refine AW.locs [(3, vi ((i + 1 : Nat) : Int)), (2, vi c2), (0, vr mO), (1, vi g)] ⟨rfl, rfl, rfl, rfl, trivial⟩ (AW.mZ ?_ (ih (i + 1) c2 (by omega) (by omega)))
        unfold z67
        rw [zs_zrow_c rfl]
        exact congrArg (fun W => zrow W 46 t) (zup_step rfl rfl)
  refine AW.aload_n dX8_renew_0 rfl ?_
  refine AW.iload_n dX8_renew_1 rfl ?_
  refine AW.callV (as := [vi _]) dX8_renew_2 rfl rfl rfl okX8_isForm lkX8_232 W.1 rfl rfl rfl rfl rfl rfl rfl (kX8_isForm W (by assumption) (AW.k1 ?_))
  refine AW.istore_n dX8_renew_5 rfl ?_
  refine AW.aload_n dX8_renew_6 rfl ?_
  refine AW.iload_n dX8_renew_7 rfl ?_
  refine' AW.if_neJ 29 (tgt := 15) dX8_renew_8 rfl _ _ _
  rotate_left 2
  · intro c_8 k_8
    have c := bz_n0.mp c_8
    refine AW.aload_n dX8_renew_15 rfl ?_
    refine AW.mA 16 W dX8_renew_16 lkX8_53 rfl rfl ?_
    refine AW.iload_n dX8_renew_19 rfl ?_
    refine AW.mldZE (j := 16) W dX8_renew_20 rfl rfl (by simp only [mlen]; omega) rfl ?_
    refine' AW.if_eqJ 29 (tgt := 28) dX8_renew_21 rfl _ _ _
    rotate_left 2
    · intro c_21 k_21
      refine AW.iconst dX8_renew_28 (by decide) ?_
      exact k_21
    · intro c_21 k_21
      refine AW.iconst dX8_renew_24 (by decide) ?_
      refine AW.goto (tgt := 29) dX8_renew_25 rfl ?_
      exact k_21
    exact k_8
  · intro c_8 k_8
    refine AW.iconst dX8_renew_11 (by decide) ?_
    refine AW.goto (tgt := 29) dX8_renew_12 rfl ?_
    exact k_8
  refine AW.top (y := zcRet Z g) (by unfold zcRet cd2; simp only [bz_0, bz_n0]; (repeat' split) <;> simp_all) ?_
  refine AW.callV (as := [vi _]) dX8_renew_29 rfl rfl rfl okX8_fails lkX8_162 W.1 rfl rfl rfl rfl rfl rfl rfl (kX8_fails W (AW.k1 ?_))
  refine AW.if_eq (tgt := 37) dX8_renew_32 rfl (fun c_32 => ?_) (fun c_32 => ?_)
  · have c := bz_0.mp c_32
    have e : zcRet Z g = 0 := by unfold zcRet cd2 at *; (repeat' split at c) <;> omega
    obtain ⟨c1, c2⟩ := cd2_0.mp c
    rw [Classical.not_not] at c1
    rw [e]
    refine AW.mZ (Z' := zrow (zs Z 48 0 0) 46 (zs Z 48 0 0 46)) zrow_self.symm ?_
    refine AW.aload_n dX8_renew_37 rfl ?_
    refine AW.iload_n dX8_renew_38 rfl ?_
    refine AW.iconst dX8_renew_39 (by decide) ?_
    refine AW.callV (as := [vi _, vi _]) dX8_renew_40 rfl rfl rfl okX8_tracesOf lkX8_209 W.1 rfl rfl rfl rfl rfl rfl rfl (kX8_tracesOf (t := zs Z 48 0 0 46) W B1.2.2.1 B1.1 B1.2.2.2.1 (B1.2.1 46 rfl) (by omega) (fun t3 F3 A3 => (AW.k0 ?_)))
    refine AW.iconst dX8_renew_43 (by decide) ?_
    refine AW.istore_n dX8_renew_44 rfl ?_
    refine AW.locs [(3, vi ((0 : Nat) : Int)), (2, vi (bz (0 ≤ g ∧ g ≤ Z 13 0 - 1))), (0, vr mO), (1, vi g)] ⟨rfl, rfl, rfl, rfl, trivial⟩ (AW.mZ ?_ (lp1 t3 (Z 47) F3 (B.2.1 47 rfl) (by rw [zTo_c rT] at A3; exact A3) e (by omega) 48 0 _ (by omega) (by omega)))
    rw [zup_0]
    unfold z67
    congr 1
    exact (zrow_self (Z := zs Z 48 0 0) (j := 47)).symm
  · refine AW.iconst dX8_renew_35 (by decide) ?_
    refine AW.iret dX8_renew_36 rfl ?_
    have c := bz_n0.mp c_32
    exact kE c
end M12
