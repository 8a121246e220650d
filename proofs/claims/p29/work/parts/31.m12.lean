/-! ===== the model: renew ===== -/
section M12
variable {Q : AH → AO → Prop} {h : AH} {Z : ZT}
/-- what the traces are read from -/
def reT (Z' Z : ZT) : Prop := ∀ j, (j == 1 || j == 7 || j == 8 || j == 9 || j == 13 || j == 14 || j == 15 || j == 16 || j == 17 || j == 18) = true → Z' j = Z j
theorem zfs_c {Z' : ZT} (e : reT Z' Z) {p : Int} {t : Nat → Int} : zfs Z' p t = zfs Z p t := by
  unfold zfs; rw [e 7 rfl, e 8 rfl, e 9 rfl]
theorem zfo_c {Z' : ZT} (e : reT Z' Z) {s a : Int} {t : Nat → Int} : ∀ n, zfo Z' s a t n = zfo Z s a t n
  | 0 => rfl
  | n + 1 => by unfold zfo; rw [zfo_c e n, zfs_c e]
theorem zTo_c {Z' : ZT} (e : reT Z' Z) {g w : Int} : zTo Z' g w = zTo Z g w := by
  unfold zTo zTo0; rw [zfo_c e, e 14 rfl, e 15 rfl, e 1 rfl, e 17 rfl, e 18 rfl]
theorem zTr_c {Z' : ZT} (e : reT Z' Z) {s a f : Int} : zTr Z' s a f = zTr Z s a f := by
  unfold zTr; rw [zfo_c e, e 1 rfl]
theorem zhuA_c {Z' : ZT} (e : reT Z' Z) {s f : Int} : ∀ g, zhuA Z' s f g = zhuA Z s f g
  | 0 => rfl
  | g + 1 => by unfold zhuA; rw [zhuA_c e g, e 14 rfl, e 16 rfl, zTo_c e]
theorem zhu_c {Z' : ZT} (e : reT Z' Z) {s f : Int} : zhu Z' s f = zhu Z s f := by
  unfold zhu; rw [zhuA_c e, e 13 rfl]
theorem reT_zs {Z' : ZT} {j i : Nat} {v : Int} (hj : (j == 1 || j == 7 || j == 8 || j == 9 || j == 13 || j == 14 || j == 15 || j == 16 || j == 17 || j == 18) = false) (e : reT Z' Z) : reT (zs Z' j i v) Z := by
  intro j' hj'
  rw [← e j' hj']
  funext q
  unfold zs
  rw [if_neg]
  rintro ⟨rfl, -⟩
  rw [hj'] at hj
  exact absurd hj (by decide)
theorem reT_zrow {Z' : ZT} {j : Nat} {t : Nat → Int} (hj : (j == 1 || j == 7 || j == 8 || j == 9 || j == 13 || j == 14 || j == 15 || j == 16 || j == 17 || j == 18) = false) (e : reT Z' Z) : reT (zrow Z' j t) Z := by
  intro j' hj'
  rw [← e j' hj']
  funext q
  unfold zrow
  rw [if_neg]
  rintro rfl
  rw [hj'] at hj
  exact absurd hj (by decide)
theorem reT_r : reT Z Z := fun _ _ => rfl
theorem zTo_flg {g w : Int} : flg (zTo Z g w) := by unfold zTo; exact zfo_flg (fun q => bz01 _) _
theorem BI_zrow47 {t : Nat → Int} (B : BI Z) (F : flg t) : BI (zrow Z 47 t) := by
  obtain ⟨b1, b2, b3, b4, b5, b6⟩ := B
  refine ⟨b1, fun j hm q => ?_, b3, b4, b5, b6⟩
  unfold zrow; split
  · exact F q
  · exact b2 j hm q
theorem zrow_comm {j j' : Nat} {t t' : Nat → Int} (hj : Nat.beq j j' = false) : zrow (zrow Z j t) j' t' = zrow (zrow Z j' t') j t := by
  have hj' : ¬ j = j' := fun e => by subst e; simp at hj
  funext a b
  unfold zrow
  by_cases e : a = j'
  · rw [if_pos e, if_neg (fun z => hj' (z.symm.trans e)), if_pos e]
  · rw [if_neg e]
    by_cases e2 : a = j
    · rw [if_pos e2, if_pos e2]
    · rw [if_neg e2, if_neg e2, if_neg e]
/-- the fields of a form taken anew -/
def zrnF (Z : ZT) (g : Int) (th tw : Nat → Int) (i : Nat) : ZT := fun j q => if (j = 17 ∨ j = 18) ∧ 48 * g ≤ (q : Int) ∧ (q : Int) < 48 * g + i then (if j = 17 then th (q - (48 * g).toNat) else tw (q - (48 * g).toNat)) else Z j q
theorem zrnF_0 {g : Int} {th tw : Nat → Int} : zrnF Z g th tw 0 = Z := by
  funext j q; unfold zrnF; rw [if_neg]; rintro ⟨-, e1, e2⟩; omega
theorem zrnF_step {g : Int} {th tw : Nat → Int} (hg : 0 ≤ g) {i q q' : Nat} {v v' : Int} (hq : q = (48 * g + (i : Int)).toNat) (hq' : q' = (48 * g + (i : Int)).toNat) (hv : v = th i) (hv' : v' = tw i) : zs (zs (zrnF Z g th tw i) 17 q v) 18 q' v' = zrnF Z g th tw (i + 1) := by
  subst hq; subst hq'; subst hv; subst hv'
  funext a b
  unfold zs zrnF
  have e0 : (48 * g + (i : Int)).toNat - (48 * g).toNat = i := by omega
  by_cases e : a = 18 ∧ b = (48 * g + (i : Int)).toNat
  · rw [if_pos e, if_pos ⟨Or.inr e.1, by omega, by omega⟩, if_neg (by omega), e.2, e0]
  · rw [if_neg e]
    by_cases e1 : a = 17 ∧ b = (48 * g + (i : Int)).toNat
    · rw [if_pos e1, if_pos ⟨Or.inl e1.1, by omega, by omega⟩, if_pos e1.1, e1.2, e0]
    · rw [if_neg e1]
      by_cases e2 : (a = 17 ∨ a = 18) ∧ 48 * g ≤ (b : Int) ∧ (b : Int) < 48 * g + (i : Nat)
      · have e3 : (a = 17 ∨ a = 18) ∧ 48 * g ≤ (b : Int) ∧ (b : Int) < 48 * g + ((i + 1 : Nat) : Int) := ⟨e2.1, by omega, by omega⟩
        rw [if_pos e2, if_pos e3]
      · rw [if_neg e2, if_neg]
        rintro ⟨z1, z2, z3⟩
        refine e2 ⟨z1, z2, ?_⟩
        rcases z1 with z1 | z1
        · have := fun z => e1 ⟨z1, z⟩
          omega
        · have := fun z => e ⟨z1, z⟩
          omega
theorem BI_zrnF {g : Int} {th tw : Nat → Int} {i : Nat} (B : BI Z) (F : flg th) (F2 : flg tw) : BI (zrnF Z g th tw i) := by
  have e : ∀ j', (j' != 17 && j' != 18) = true → zrnF Z g th tw i j' = Z j' := by
    intro j' hj'
    funext q
    unfold zrnF
    rw [if_neg]
    rintro ⟨rfl | rfl, -⟩ <;> simp at hj'
  obtain ⟨b1, b2, b3, b4, b5, b6⟩ := B
  refine ⟨?_, ?_, ?_, ?_, ?_, ?_⟩
  · unfold BS; rw [e 0 rfl, e 1 rfl, e 2 rfl, e 11 rfl]; exact b1
  · intro j' hm q
    unfold zrnF; split
    · split
      · exact F _
      · exact F2 _
    · exact b2 j' hm q
  · unfold BB; rw [e 8 rfl, e 9 rfl]; exact b3
  · unfold BG; rw [e 13 rfl, e 14 rfl, e 15 rfl, e 1 rfl]; exact b4
  · unfold BW; rw [e 12 rfl]; exact b5
  · rw [e 1 rfl, e 2 rfl]; exact b6
theorem zrnF_o {g : Int} {th tw : Nat → Int} {i j q : Nat} {x : Int} (hj : (j != 17 && j != 18) = true) (k : Z j q = x) : zrnF Z g th tw i j q = x := by
  unfold zrnF
  rw [if_neg, k]
  rintro ⟨rfl | rfl, -⟩ <;> simp at hj
theorem BI_z15 {g : Nat} {v : Int} (hv : 0 ≤ v ∧ v ≤ Z 1 (Z 14 g).toNat) (B : BI Z) : BI (zs Z 15 g v) := by
  obtain ⟨b1, b2, b3, b4, b5, b6⟩ := B
  refine ⟨b1, fun j hm q => ?_, b3, ⟨b4.1, fun q hq => ?_⟩, b5, b6⟩
  · unfold zs; rw [if_neg]
    · exact b2 j hm q
    · rintro ⟨rfl, -⟩; exact absurd hm (by decide)
  · have b := b4.2 q hq
    refine ⟨b.1, b.2.1, ?_⟩
    show 0 ≤ zs Z 15 g v 15 q ∧ zs Z 15 g v 15 q ≤ Z 1 (Z 14 q).toNat
    unfold zs; split
    · next e => rw [e.2]; exact hv
    · exact b.2.2
def zRnw0 (Z : ZT) (g : Int) : ZT := zs (zrnF (zs Z 48 0 0) g (zTo Z g 0) (zTo Z g 1) 48) 15 g.toNat (Z 1 (Z 14 g.toNat).toNat)
/-- a state but for the rows 46 and 47 -/
def z67 (Z : ZT) (t u : Nat → Int) : ZT := zrow (zrow Z 47 u) 46 t
theorem zs_z67 {t u : Nat → Int} {j i : Nat} {v : Int} (hj : Nat.beq j 46 = false) (hj' : Nat.beq j 47 = false) : zs (z67 Z t u) j i v = z67 (zs Z j i v) t u := by
  unfold z67; rw [zs_zrow_c hj, zs_zrow_c hj']
theorem z67_ne {t u : Nat → Int} {j i : Nat} {x : Int} (hj : Nat.beq j 46 = false) (hj' : Nat.beq j 47 = false) (k : Z j i = x) : z67 Z t u j i = x := by
  unfold z67; exact zrow_ne hj (zrow_ne hj' k)
theorem z67_self : z67 Z (Z 46) (Z 47) = Z := by unfold z67; rw [zrow_self]; exact zrow_self
theorem BI_z67 {t u : Nat → Int} (B : BI Z) (F : flg t) (F2 : flg u) : BI (z67 Z t u) := BI_zrow (BI_zrow47 B F2) F
theorem zdo_z67 {s f : Int} {t u : Nat → Int} : zdo (z67 Z t u) s f = z67 (zdo Z s f) t u := by
  have e47 : zdo (zrow Z 47 u) s f = zrow (zdo Z s f) 47 u := by
    unfold zdo zbeg
    have e : ∀ a n, zcp (zrow Z 47 u) s a n = zrow (zcp Z s a n) 47 u := by
      intro a n
      funext j i
      unfold zcp zrow
      by_cases e : j = 47
      · rw [if_neg (fun z => by have := z.1; omega), if_pos e, if_pos e]
      · rw [if_neg e, if_neg e, if_neg e]
    rw [zrow_ne (x := Z 1 s.toNat) rfl rfl, zrow_ne (x := Z 2 s.toNat) rfl rfl, e, zs_zrow_c rfl, zs_zrow_c rfl, zs_zrow_c rfl, zs_zrow_c rfl, zs_zrow_c rfl, zs_zrow_c rfl, zs_zrow_c rfl, zs_zrow_c rfl]
  unfold z67; rw [zdo_zrow, e47]
theorem zlaS_47 {s : Int} {u : Nat → Int} : ∀ i, zlaS (zrow Z 47 u) s i = (zrow (zlaS Z s i).1 47 u, (zlaS Z s i).2)
  | 0 => rfl
  | i + 1 => by
    have e47 : ∀ Z : ZT, ∀ f, zdo (zrow Z 47 u) s f = zrow (zdo Z s f) 47 u := by
      intro Z f
      have := zdo_z67 (Z := Z) (s := s) (f := f) (t := Z 46) (u := u)
      have e1 : z67 Z (Z 46) u = zrow Z 47 u := zrow_self (Z := zrow Z 47 u) (j := 46)
      have e2 : z67 (zdo Z s f) (Z 46) u = zrow (zdo Z s f) 47 u := by
        have z : zdo Z s f 46 = Z 46 := by
          have := zdo_zrow (Z := Z) (s := s) (f := f) (t := Z 46)
          rw [zrow_self] at this
          rw [this]; rfl
        rw [← z]; exact zrow_self (Z := zrow (zdo Z s f) 47 u) (j := 46)
      rw [e1, e2] at this; exact this
    by_cases c : ¬ (zlaS Z s i).1 1 s.toNat = 23 ∧ zhu (zlaS Z s i).1 s ((zlaS Z s i).1 12 (48 * s + (i : Int)).toNat) = 0
    · have c' : ¬ (zlaS (zrow Z 47 u) s i).1 1 s.toNat = 23 ∧ zhu (zlaS (zrow Z 47 u) s i).1 s ((zlaS (zrow Z 47 u) s i).1 12 (48 * s + (i : Int)).toNat) = 0 := by
        rw [zlaS_47 i]; exact ⟨c.1, (zhu_c (reT_zrow rfl reT_r)).trans c.2⟩
      rw [zlaS_d c', zlaS_d c, zlaS_47 i]
      exact Prod.ext (e47 (zlaS Z s i).1 ((zlaS Z s i).1 12 (48 * s + (i : Int)).toNat)) rfl
    · have c' : ¬ (¬ (zlaS (zrow Z 47 u) s i).1 1 s.toNat = 23 ∧ zhu (zlaS (zrow Z 47 u) s i).1 s ((zlaS (zrow Z 47 u) s i).1 12 (48 * s + (i : Int)).toNat) = 0) := by
        rw [zlaS_47 i]; exact fun z => c ⟨z.1, (zhu_c (reT_zrow rfl reT_r)).symm.trans z.2⟩
      rw [zlaS_n c', zlaS_n c, zlaS_47 i]
      exact Prod.ext (zs_zrow_c rfl) rfl
theorem zla_47 {s : Int} {u : Nat → Int} : zla (zrow Z 47 u) s = zrow (zla Z s) 47 u := by
  unfold zla; rw [zrow_ne (x := Z 11 s.toNat) rfl rfl, zlaS_47, zs_zrow_c rfl]
end M12
