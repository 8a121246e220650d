/-! ===== the class: a new version ===== -/
section C4
variable {Q : AH → AO → Prop} {h : AH} {s : Nat}
theorem AW.topl {M : MI} {fr lo mc ms bc bs pc : Nat} {loc : AL} {st : List AV} {x y : Int64} (e : x = y) (k : AW M fr lo mc ms Q bc bs pc h loc (vl y :: st)) : AW M fr lo mc ms Q bc bs pc h loc (vl x :: st) := by subst e; exact k
/-- the first i numbers of a cell laid anew -/
def hfl (h : AH) (n : Nm) (f : Nat → Int) (i : Nat) : AH := (h.1, (fun n' j => if n' = n ∧ j < i then f j else h.2.1 n' j), h.2.2.1, h.2.2.2)
theorem hI_hfl {n n' : Nm} {f : Nat → Int} {i j : Nat} : hI (hfl h n f i) n' j = if n' = n ∧ j < i then f j else hI h n' j := rfl
theorem hfl_0 {n : Nm} {f : Nat → Int} : hfl h n f 0 = h := by
  unfold hfl
  refine Prod.ext rfl (Prod.ext (funext fun n' => funext fun j => ?_) rfl)
  dsimp only
  rw [if_neg (by omega)]
theorem hfl_step {n : Nm} {f : Nat → Int} {i q : Nat} {v : Int} (hq : q = i) (hv : v = f i) : sI (hfl h n f i) n q v = hfl h n f (i + 1) := by
  subst hq; subst hv
  unfold sI hfl
  refine Prod.ext rfl (Prod.ext (funext fun n' => funext fun j => ?_) rfl)
  dsimp only
  by_cases e : n' = n ∧ j = q
  · rw [if_pos e, if_pos ⟨e.1, by omega⟩, e.2]
  · rw [if_neg e]
    by_cases e2 : n' = n ∧ j < q
    · rw [if_pos e2, if_pos ⟨e2.1, by omega⟩]
    · rw [if_neg e2, if_neg]
      rintro ⟨z1, z2⟩
      by_cases e3 : j = q
      · exact e ⟨z1, e3⟩
      · exact e2 ⟨z1, by omega⟩
theorem hfl_n1 {n m : Nm} {f : Nat → Int} {i j : Nat} {x : Int} (hn : Nat.beq n.1 m.1 = false) (k : hI h n j = x) : hI (hfl h m f i) n j = x := by
  rw [hI_hfl, if_neg, k]
  rintro ⟨e, -⟩
  subst e
  simp at hn
theorem hfl_n3 {n m : Nm} {f : Nat → Int} {i j : Nat} {x : Int} (hn : Nat.beq n.2.2 m.2.2 = false) (k : hI h n j = x) : hI (hfl h m f i) n j = x := by
  rw [hI_hfl, if_neg, k]
  rintro ⟨e, -⟩
  subst e
  simp at hn
def cxf (h : AH) (s p : Nat) (j : Nat) : Int := if hI h (4, s, 100 + (hI h (4, s, 0) 0).toNat) j = hI h (6, p, 0) 0 ∨ hI h (4, s, 100 + (hI h (4, s, 0) 0).toNat) j = hI h (6, p, 0) 1 then -1 else hI h (4, s, 100 + (hI h (4, s, 0) 0).toNat) j
def cex (h : AH) (s p : Nat) : AH :=
  sI (sR (sL (hfl h (4, s, 100 + (hI h (4, s, 0) 0 + 1).toNat) (cxf h s p) 26) (4, s, 4) (hI h (4, s, 0) 0 + 1).toNat (hL h (4, s, 4) (hI h (4, s, 0) 0).toNat &&& (cff h p ^^^ (-1)))) (4, s, 5) (hI h (4, s, 0) 0 + 1).toNat (some (5, p, 0))) (4, s, 0) 0 (hI h (4, s, 0) 0 + 1)
set_option maxHeartbeats 1000000 in
theorem kX4_extend {p : Nat} (W : SchW h s) (B : SB h s) (P : StpW h p) (PB0 : PB h p) (hh : hI h (4, s, 0) 0 < 23) (k : Q (cex h s p) (.inl none)) : AC mX4_extend fX4_extend loX4_extend 0 0 h [vr (4, s, 0), vr (5, p, 0)] Q := by
  have B0 := B.1
  have e0 : ∀ v : Nat, Nat.beq 0 (100 + v) = false := fun v => beq_ne (by omega)
  have e4 : ∀ v : Nat, Nat.beq 4 (100 + v) = false := fun v => beq_ne (by omega)
  have e3 : ∀ u v : Nat, ¬ u = v → Nat.beq (100 + u) (100 + v) = false := fun u v e => beq_ne (by omega)
  refine AC.mk (by decide) (Nat.le_of_ble_eq_true rfl) ?_
  have lp : ∀ (m i : Nat), i ≤ 26 → 26 ≤ i + m → AW mX4_extend fX4_extend loX4_extend 0 0 Q 0 0 24 (hfl h (4, s, 100 + (hI h (4, s, 0) 0 + 1).toNat) (cxf h s p) i) [(3, vi (i : Int)), (2, vi (hI h (4, s, 0) 0 + 1)), (0, vr (4, s, 0)), (1, vr (5, p, 0))] [] := by
    intro m
    induction m with
    | zero =>
      intro i h1 h2
      have e : i = 26 := by omega
      subst e
      refine AW.iload_n dX4_extend_24 rfl ?_
      refine AW.bipush dX4_extend_25 bp_26 (by decide) ?_
      refine AW.icmp_ge (tgt := 72) dX4_extend_27 rfl (fun c_27 => ?_) (fun c_27 => ?_)
      · refine AW.aload_n dX4_extend_72 rfl ?_
        refine AW.getRE (j := 6) W.o dX4_extend_73 lkX4_23 rfl rfl inC5 rfl W.r6 ?_
        refine AW.iload_n dX4_extend_76 rfl ?_
        refine AW.aload_n dX4_extend_77 rfl ?_
        refine AW.getRE (j := 6) W.o dX4_extend_78 lkX4_23 rfl rfl inC5 rfl W.r6 ?_
        refine AW.aload_n dX4_extend_81 rfl ?_
        refine AW.getIE (j := 0) W.o dX4_extend_82 lkX4_48 rfl rfl inC5 rfl (by exact hfl_n3 (e0 _) rfl) ?_
        refine AW.aldLE dX4_extend_85 W.t6 (by omega) (by omega) (by exact rfl) ?_
        refine AW.aload_n dX4_extend_86 rfl ?_
        refine AW.callV (as := []) dX4_extend_87 rfl rfl rfl okX6_frontFields lkX4_87 P.o rfl rfl rfl rfl rfl rfl rfl (kX6_frontFields (h := hfl h (4, s, 100 + (hI h (4, s, 0) 0 + 1).toNat) (cxf h s p) 26) P PB0 (AW.k1 ?_))
        refine AW.topl (y := cff h p) rfl ?_
        refine AW.ldc2 dX4_extend_90 lkX4_91 ?_
        refine AW.lxor dX4_extend_93 ?_
        refine AW.land dX4_extend_94 ?_
        refine AW.astL dX4_extend_95 W.t6 (by omega) (by omega) ?_
        refine AW.aload_n dX4_extend_96 rfl ?_
        refine AW.getRE (j := 7) W.o dX4_extend_97 lkX4_29 rfl rfl inC5 rfl W.r7 ?_
        refine AW.iload_n dX4_extend_100 rfl ?_
        refine AW.aload_n dX4_extend_101 rfl ?_
        refine AW.astR (t := 8) dX4_extend_102 W.t7 (by decide) (by decide) rfl P.o (by omega) (by omega) ?_
        refine AW.aload_n dX4_extend_103 rfl ?_
        refine AW.iload_n dX4_extend_104 rfl ?_
        refine AW.putI (j := 0) dX4_extend_105 W.o rfl rfl inC5 lkX4_48 rfl (Or.inl rfl) (Or.inl rfl) ?_
        refine AW.vret dX4_extend_108 rfl ?_
        exact k
      · exact absurd c_27 (by omega)
    | succ m ih =>
      intro i h1 h2
      by_cases e : i = 26
      · exact ih i h1 (by omega)
      refine AW.iload_n dX4_extend_24 rfl ?_
      refine AW.bipush dX4_extend_25 bp_26 (by decide) ?_
      refine AW.icmp_ge (tgt := 72) dX4_extend_27 rfl (fun c_27 => ?_) (fun c_27 => ?_)
      · exact absurd c_27 (by omega)
      · refine AW.aload_n dX4_extend_30 rfl ?_
        refine AW.getRE (j := 5) W.o dX4_extend_31 lkX4_20 rfl rfl inC5 rfl W.r5 ?_
        refine AW.aload_n dX4_extend_34 rfl ?_
        refine AW.getIE (j := 0) W.o dX4_extend_35 lkX4_48 rfl rfl inC5 rfl (by exact hfl_n3 (e0 _) rfl) ?_
        refine AW.aldR (t := 9) dX4_extend_38 W.t5 (by decide) rfl (by omega) (by omega) (W.v (v := (hI h (4, s, 0) 0).toNat) (by omega)) ?_
        refine AW.iload_n dX4_extend_39 rfl ?_
        refine AW.aldIE dX4_extend_40 (W.tv (v := (hI h (4, s, 0) 0).toNat) (by omega)) (by omega) (by omega) (by exact hfl_n3 (e3 _ _ (by omega)) rfl) ?_
        refine AW.istore dX4_extend_41 rfl ?_
        refine AW.aload_n dX4_extend_43 rfl ?_
        refine AW.getRE (j := 5) W.o dX4_extend_44 lkX4_20 rfl rfl inC5 rfl W.r5 ?_
        refine AW.iload_n dX4_extend_47 rfl ?_
        refine AW.aldR (t := 9) dX4_extend_48 W.t5 (by decide) rfl (by omega) (by omega) (W.v (v := (hI h (4, s, 0) 0 + 1).toNat) (by omega)) ?_
        refine AW.iload_n dX4_extend_49 rfl ?_
        refine AW.aload_n dX4_extend_50 rfl ?_
        refine AW.iload dX4_extend_51 rfl ?_
        refine AW.callV (as := [vi _]) dX4_extend_53 rfl rfl rfl okX6_isInFront lkX4_84 P.o rfl rfl rfl rfl rfl rfl rfl (kX6_isInFront (h := hfl h (4, s, 100 + (hI h (4, s, 0) 0 + 1).toNat) (cxf h s p) i) P (AW.k1 ?_))
        refine' AW.if_eqJ 65 (tgt := 63) dX4_extend_56 rfl _ _ _
        rotate_left 2
        · intro c_56 k_56
          refine AW.iload dX4_extend_63 rfl ?_
          exact k_56
        · intro c_56 k_56
          refine AW.iconst dX4_extend_59 (by decide) ?_
          refine AW.goto (tgt := 65) dX4_extend_60 rfl ?_
          exact k_56
        refine AW.top (y := cxf h s p i) (by unfold cxf; simp only [bz_0]; rw [hfl_n1 (n := (6, p, 0)) (j := 0) rfl rfl, hfl_n1 (n := (6, p, 0)) (j := 1) rfl rfl, Int.toNat_natCast]; (repeat' split) <;> first | rfl | (simp_all; done)) ?_
        refine AW.astI dX4_extend_65 (W.tv (v := (hI h (4, s, 0) 0 + 1).toNat) (by omega)) (by omega) (by omega) ?_
        refine AW.iincB dX4_extend_66 rfl rfl (by omega) ?_
        refine AW.goto (tgt := 24) dX4_extend_69 rfl ?_
        exact AW.locs [(3, vi ((i + 1 : Nat) : Int)), (2, vi (hI h (4, s, 0) 0 + 1)), (0, vr (4, s, 0)), (1, vr (5, p, 0))] ⟨rfl, rfl, rfl, rfl, trivial⟩ (AW.heq (hfl_step rfl rfl) (ih (i + 1) (by omega) (by omega)))
  refine AW.aload_n dX4_extend_0 rfl ?_
  refine AW.callV (as := []) dX4_extend_1 rfl rfl rfl okX4_isFull lkX4_80 W.o rfl rfl rfl rfl rfl rfl rfl (kX4_isFull W B (AW.k1 ?_))
  refine AW.if_ne (tgt := 14) dX4_extend_4 rfl (fun c_4 => ?_) (fun c_4 => ?_)
  · exact absurd (bz_n0.mp c_4) (by omega)
  · refine AW.aload_n dX4_extend_7 rfl ?_
    refine AW.getIE (j := 0) W.o dX4_extend_8 lkX4_48 rfl rfl inC5 rfl rfl ?_
    refine AW.if_ge (tgt := 15) dX4_extend_11 rfl (fun c_11 => ?_) (fun c_11 => ?_)
    · refine AW.aload_n dX4_extend_15 rfl ?_
      refine AW.getIE (j := 0) W.o dX4_extend_16 lkX4_48 rfl rfl inC5 rfl rfl ?_
      refine AW.iconst dX4_extend_19 (by decide) ?_
      refine AW.iaddB dX4_extend_20 (by omega) ?_
      refine AW.istore_n dX4_extend_21 rfl ?_
      refine AW.iconst dX4_extend_22 (by decide) ?_
      refine AW.istore_n dX4_extend_23 rfl ?_
      exact AW.heq hfl_0.symm (lp 26 0 (by omega) (by omega))
    · exact absurd c_11 (by omega)
end C4
