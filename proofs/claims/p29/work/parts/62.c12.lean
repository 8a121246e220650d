/-! ===== the class: a row carried, from its start ===== -/
section C12
variable {Q : AH → AO → Prop} {h : AH} {s : Nat} {p a b : Nat} {v : Int}
theorem cfin_m {H : AH} {u l0 l1 t0 t1 r0 r1 : Int} (sc : Scr s H h) (k : cfin Q s p a b u v l0 l1 t0 t1 H r0 r1) : cfin Q s p a b u v l0 l1 t0 t1 h r0 r1 := by
  intro g sg
  rw [sc.hctl0, sc.hctl1]
  exact k g (sc.trans sg)
def cvl (h : AH) (a b : Nat) (f : Int) : Int := if 0 ≤ f ∧ f < 46 then hI h (a, b, 1) f.toNat else -1
/-- what carrying ends in: H is the heap with the row's new version -/
def ccar (Q : AH → AO → Prop) (s p a b : Nat) (u v l0 l1 t0 t1 : Int) (H : AH) : Prop :=
  (hI H (a, b, 2) (2 * v + u).toNat = 0 → cfin Q s p a b u v l0 l1 t0 t1 H (ctl0 H s p v u l0 l1) (ctl1 H s p v u l0)) ∧
  (¬ hI H (a, b, 2) (2 * v + u).toNat = 0 → (ctl0 (sI H (a, b, 2) (2 * v + u).toNat 0) s p v (nu u) (hI H (a, b, 3) (2 * (2 * v + u)).toNat) (hI H (a, b, 3) (2 * (2 * v + u) + 1).toNat) = l0 ∧ ctl1 (sI H (a, b, 2) (2 * v + u).toNat 0) s p v (nu u) (hI H (a, b, 3) (2 * (2 * v + u)).toNat) = l1) → cfin Q s p a b u v l0 l1 t0 t1 (sI H (a, b, 2) (2 * v + u).toNat 0) (hI H (a, b, 3) (2 * (2 * v + u)).toNat) (hI H (a, b, 3) (2 * (2 * v + u) + 1).toNat)) ∧
  (¬ hI H (a, b, 2) (2 * v + u).toNat = 0 → ¬ (ctl0 (sI H (a, b, 2) (2 * v + u).toNat 0) s p v (nu u) (hI H (a, b, 3) (2 * (2 * v + u)).toNat) (hI H (a, b, 3) (2 * (2 * v + u) + 1).toNat) = l0 ∧ ctl1 (sI H (a, b, 2) (2 * v + u).toNat 0) s p v (nu u) (hI H (a, b, 3) (2 * (2 * v + u)).toNat) = l1) → cfin Q s p a b u v l0 l1 t0 t1 (sI (sI H (a, b, 2) (2 * v + u).toNat 0) (a, b, 0) 1 (wr (hI H (a, b, 0) 1 + 1))) (ctl0 H s p v u l0 l1) (ctl1 H s p v u l0))
theorem X4_carry_l0 {mc ms bc bs : Nat} {N N2 : Nm} {u f x : Int} (W : SchW h s) (S : StaW h a b) (tN2 : hT h N2 = some (20, 2)) (ef : hI h N2 0 = f) (ex : cvl h a b f = x) (k : AW mX4_carry fX4_carry loX4_carry mc ms Q bc bs 97 (sI h (4, s, 7) 0 x) [(7, vi 1), (6, vr N), (5, vr N2), (4, vr (5, p, 0)), (3, vi v), (0, vr (4, s, 0)), (1, vr (a, b, 0)), (2, vi u)] []) : AW mX4_carry fX4_carry loX4_carry mc ms Q bc bs 97 h [(7, vi 0), (6, vr N), (5, vr N2), (4, vr (5, p, 0)), (3, vi v), (0, vr (4, s, 0)), (1, vr (a, b, 0)), (2, vi u)] [] := by
  refine AW.iload dX4_carry_97 rfl ?_
  refine AW.iconst dX4_carry_99 (by decide) ?_
  refine AW.icmp_ge (tgt := 125) dX4_carry_100 rfl (fun c_100 => ?_) (fun c_100 => ?_)
  · exact absurd c_100 (by decide)
  · refine AW.aload_n dX4_carry_103 rfl ?_
    refine AW.getRE (j := 9) W.o dX4_carry_104 lkX4_36 rfl rfl inC5 rfl W.r9 ?_
    refine AW.iload dX4_carry_107 rfl ?_
    refine AW.aload_n dX4_carry_109 rfl ?_
    refine AW.aload dX4_carry_110 rfl ?_
    refine AW.iload dX4_carry_112 rfl ?_
    refine AW.aldIE dX4_carry_114 tN2 (by decide) (by decide) (by exact ef) ?_
    refine AW.callV (as := [vi _]) dX4_carry_115 rfl rfl rfl okX5_valueOf lkX4_142 S.o rfl rfl rfl rfl rfl rfl rfl (kX5_valueOf S (AW.k1 ?_))
    refine AW.top (y := x) ex ?_
    refine AW.astI dX4_carry_118 W.t9 (by decide) (by decide) ?_
    refine AW.iincB dX4_carry_119 rfl rfl (by omega) ?_
    refine AW.goto (tgt := 97) dX4_carry_122 rfl ?_
    exact AW.locs [(7, vi 1), (6, vr N), (5, vr N2), (4, vr (5, p, 0)), (3, vi v), (0, vr (4, s, 0)), (1, vr (a, b, 0)), (2, vi u)] ⟨rfl, rfl, rfl, rfl, rfl, rfl, rfl, rfl, trivial⟩ k
theorem X4_carry_l1 {mc ms bc bs : Nat} {N N2 : Nm} {u f x : Int} (W : SchW h s) (S : StaW h a b) (tN2 : hT h N2 = some (20, 2)) (ef : hI h N2 1 = f) (ex : cvl h a b f = x) (k : AW mX4_carry fX4_carry loX4_carry mc ms Q bc bs 97 (sI h (4, s, 7) 1 x) [(7, vi 2), (6, vr N), (5, vr N2), (4, vr (5, p, 0)), (3, vi v), (0, vr (4, s, 0)), (1, vr (a, b, 0)), (2, vi u)] []) : AW mX4_carry fX4_carry loX4_carry mc ms Q bc bs 97 h [(7, vi 1), (6, vr N), (5, vr N2), (4, vr (5, p, 0)), (3, vi v), (0, vr (4, s, 0)), (1, vr (a, b, 0)), (2, vi u)] [] := by
  refine AW.iload dX4_carry_97 rfl ?_
  refine AW.iconst dX4_carry_99 (by decide) ?_
  refine AW.icmp_ge (tgt := 125) dX4_carry_100 rfl (fun c_100 => ?_) (fun c_100 => ?_)
  · exact absurd c_100 (by decide)
  · refine AW.aload_n dX4_carry_103 rfl ?_
    refine AW.getRE (j := 9) W.o dX4_carry_104 lkX4_36 rfl rfl inC5 rfl W.r9 ?_
    refine AW.iload dX4_carry_107 rfl ?_
    refine AW.aload_n dX4_carry_109 rfl ?_
    refine AW.aload dX4_carry_110 rfl ?_
    refine AW.iload dX4_carry_112 rfl ?_
    refine AW.aldIE dX4_carry_114 tN2 (by decide) (by decide) (by exact ef) ?_
    refine AW.callV (as := [vi _]) dX4_carry_115 rfl rfl rfl okX5_valueOf lkX4_142 S.o rfl rfl rfl rfl rfl rfl rfl (kX5_valueOf S (AW.k1 ?_))
    refine AW.top (y := x) ex ?_
    refine AW.astI dX4_carry_118 W.t9 (by decide) (by decide) ?_
    refine AW.iincB dX4_carry_119 rfl rfl (by omega) ?_
    refine AW.goto (tgt := 97) dX4_carry_122 rfl ?_
    exact AW.locs [(7, vi 2), (6, vr N), (5, vr N2), (4, vr (5, p, 0)), (3, vi v), (0, vr (4, s, 0)), (1, vr (a, b, 0)), (2, vi u)] ⟨rfl, rfl, rfl, rfl, rfl, rfl, rfl, rfl, trivial⟩ k
set_option maxHeartbeats 1000000 in
theorem kX4_carry0 (W : SchW h s) (B : SB h s) (P : StpW h p) (S : StaW h a b) (hv : 1 ≤ v ∧ v ≤ hI h (4, s, 0) 0) (hp : hR h (4, s, 5) v.toNat = some (5, p, 0)) (ev : hI h (a, b, 0) 0 = v) (h4 : Nat.beq 4 a = false) (ha4 : Nat.beq a 4 = false) (h5 : Nat.beq 5 a = false) (h6 : Nat.beq 6 a = false) (h7 : Nat.beq 7 a = false)
    (kR : hI h (5, p, 0) 0 = 1 → Q (sI h (a, b, 0) 0 (v - 1)) (.inl none))
    (kN : ¬ hI h (5, p, 0) 0 = 1 → ccar Q s p a b 0 v (cvl h a b (hI h (7, p, 0) 0)) (cvl h a b (hI h (7, p, 0) 1)) (hI h (6, p, 0) 0) (hI h (6, p, 0) 1) (sI h (a, b, 0) 0 (v - 1))) :
    AC mX4_carry fX4_carry loX4_carry 0 0 h [vr (4, s, 0), vr (a, b, 0), vi 0] Q := by
  have B0 := B.1
  have e5 : (if 0 ≤ v ∧ v ≤ hI h (4, s, 0) 0 then hR h (4, s, 5) v.toNat else none) = some (5, p, 0) := by rw [if_pos (by omega)]; exact hp
  have BH : SB (sI h (a, b, 0) 0 (v - 1)) s := SB_n1 h4 B
  refine AC.mk (by decide) (Nat.le_of_ble_eq_true rfl) ?_
  have fin : ¬ hI h (5, p, 0) 0 = 1 → ∀ l0 l1, l0 = cvl h a b (hI h (7, p, 0) 0) → l1 = cvl h a b (hI h (7, p, 0) 1) → AW mX4_carry fX4_carry loX4_carry 0 0 Q 0 0 97 (w2 (sI h (a, b, 0) 0 (v - 1)) (4, s, 7) l0 l1) [(7, vi 2), (6, vr (6, p, 0)), (5, vr (7, p, 0)), (4, vr (5, p, 0)), (3, vi v), (0, vr (4, s, 0)), (1, vr (a, b, 0)), (2, vi 0)] [] := by
    intro nk l0 l1 el0 el1
    have kN := kN nk
    rw [← el0, ← el1] at kN
    clear el0 el1
    have s7 : Scr s (sI h (a, b, 0) 0 (v - 1)) (w2 (sI h (a, b, 0) 0 (v - 1)) (4, s, 7) l0 l1) := (Scr.rfl'.w (scn_y rfl rfl)).w (scn_y rfl rfl)
    have s8 : ∀ x y, Scr s (sI h (a, b, 0) 0 (v - 1)) (w2 (w2 (sI h (a, b, 0) 0 (v - 1)) (4, s, 7) l0 l1) (4, s, 8) x y) := fun x y => (s7.w (scn_y rfl rfl)).w (scn_y rfl rfl)
    have hvH : v ≤ hI (sI h (a, b, 0) 0 (v - 1)) (4, s, 0) 0 := by rw [hI_n1 (n := (4, s, 0)) h4 rfl]; exact hv.2
    have B7 := s7.hSB BH
    have v7 : v ≤ hI (w2 (sI h (a, b, 0) 0 (v - 1)) (4, s, 7) l0 l1) (4, s, 0) 0 := by rw [s7.2.2.2 (4, s, 0) 0 (scn_0 rfl)]; exact hvH
    have q0 : hI (w2 (sI h (a, b, 0) 0 (v - 1)) (4, s, 7) l0 l1) (4, s, 7) 0 = l0 := hI_m (by omega) (hI_e rfl rfl)
    have q1 : hI (w2 (sI h (a, b, 0) 0 (v - 1)) (4, s, 7) l0 l1) (4, s, 7) 1 = l1 := hI_e rfl rfl
    refine AW.iload dX4_carry_97 rfl ?_
    refine AW.iconst dX4_carry_99 (by decide) ?_
    refine AW.icmp_ge (tgt := 125) dX4_carry_100 rfl (fun c_100 => ?_) (fun c_100 => ?_)
    · refine AW.aload_n dX4_carry_125 rfl ?_
      refine AW.iload_n dX4_carry_126 rfl ?_
      refine AW.iload_n dX4_carry_127 rfl ?_
      refine AW.aload_n dX4_carry_128 rfl ?_
      refine AW.getRE (j := 9) W.o dX4_carry_129 lkX4_36 rfl rfl inC5 rfl W.r9 ?_
      refine AW.aload_n dX4_carry_132 rfl ?_
      refine AW.getRE (j := 10) W.o dX4_carry_133 lkX4_39 rfl rfl inC5 rfl W.r10 ?_
      refine AW.callV (as := [vi _, vi _, vq _, vq _]) dX4_carry_136 rfl rfl rfl okX4_tell lkX4_145 W.o rfl rfl rfl rfl rfl rfl rfl (kX4_tell (h := w2 (sI h (a, b, 0) 0 (v - 1)) (4, s, 7) l0 l1) W B7 P ⟨by omega, v7⟩ hp (i := 7) (j := 8) (by omega) (by omega) (by omega) (by omega) W.t9 W.t10 q0 q1 (AW.k0 ?_))
      rw [s7.hctl0, s7.hctl1]
      have sc := s8 (ctl0 (sI h (a, b, 0) 0 (v - 1)) s p v 0 l0 l1) (ctl1 (sI h (a, b, 0) 0 (v - 1)) s p v 0 l0)
      have i2 := sc.2.2.2 (a, b, 2) (2 * v + 0).toNat (scn_1 ha4)
      have i3 := fun q => sc.2.2.2 (a, b, 3) q (scn_1 ha4)
      have i0 := sc.2.2.2 (a, b, 0) 1 (scn_1 ha4)
      have iN : ∀ q, hI _ (6, p, 0) q = hI h (6, p, 0) q := fun q => sc.I (scn_1 rfl) (hI_n1 h6 rfl)
      refine AW.locs [(6, vr (6, p, 0)), (5, vr (7, p, 0)), (4, vr (5, p, 0)), (3, vi v), (0, vr (4, s, 0)), (1, vr (a, b, 0)), (2, vi 0)] ⟨rfl, rfl, rfl, rfl, rfl, rfl, rfl, trivial⟩ (X4_carry_c W (sc.hSB BH) P S ⟨by omega, by rw [sc.2.2.2 (4, s, 0) 0 (scn_0 rfl)]; exact hvH⟩ hp (by omega) P.t1 h6 rfl h4 ha4 (hI_m (by omega) (hI_e rfl rfl)) (hI_e rfl rfl) (hI_n3 rfl (hI_n3 rfl q0)) (hI_n3 rfl (hI_n3 rfl q1)) (iN 0) (iN 1) ?_ ?_ ?_)
      · intro z; exact cfin_m sc (kN.1 (i2.symm.trans z))
      · intro z c; rw [i3, i3] at c ⊢; rw [(sc.sw).hctl0, (sc.sw).hctl1] at c; exact cfin_m sc.sw (kN.2.1 (fun w => z (i2.trans w)) c)
      · intro z c; rw [i3, i3] at c; rw [(sc.sw).hctl0, (sc.sw).hctl1] at c; rw [i0]; exact cfin_m sc.sw.sw (kN.2.2 (fun w => z (i2.trans w)) c)
    · exact absurd c_100 (by decide)
  have v0 : hI (sI h (a, b, 0) 0 (v - 1)) (7, p, 0) 0 = hI h (7, p, 0) 0 := hI_n1 h7 rfl
  have v1 : hI (sI (sI h (a, b, 0) 0 (v - 1)) (4, s, 7) 0 (cvl h a b (hI h (7, p, 0) 0))) (7, p, 0) 1 = hI h (7, p, 0) 1 := hI_n1 rfl (hI_n1 h7 rfl)
  have x0 : ∀ f, cvl (sI h (a, b, 0) 0 (v - 1)) a b f = cvl h a b f := fun f => by
    unfold cvl; rw [hI_n3 (n := (a, b, 1)) (m := (a, b, 0)) rfl rfl]
  have x1 : ∀ f, cvl (sI (sI h (a, b, 0) 0 (v - 1)) (4, s, 7) 0 (cvl h a b (hI h (7, p, 0) 0))) a b f = cvl h a b f := fun f => by
    unfold cvl; rw [hI_n1 (n := (a, b, 1)) ha4 (hI_n3 (n := (a, b, 1)) (m := (a, b, 0)) rfl rfl)]
  refine AW.iload_n dX4_carry_0 rfl ?_
  refine AW.if_eq (tgt := 13) dX4_carry_1 rfl (fun c_1 => ?_) (fun c_1 => ?_)
  · refine AW.aload_n dX4_carry_13 rfl ?_
    refine AW.getIE (j := 0) S.o dX4_carry_14 lkX4_124 rfl rfl inC6 rfl (by exact ev) ?_
    refine AW.top (y := v) (by omega) ?_
    refine AW.istore_n dX4_carry_17 rfl ?_
    refine AW.aload_n dX4_carry_18 rfl ?_
    refine AW.iload_n dX4_carry_19 rfl ?_
    refine AW.callV (as := [vi _]) dX4_carry_20 rfl rfl rfl okX4_stepTo lkX4_117 W.o rfl rfl rfl rfl rfl rfl rfl (kX4_stepTo W B (AW.k1 ?_))
    rw [e5]
    refine AW.astore dX4_carry_23 rfl ?_
    refine AW.aload dX4_carry_25 rfl ?_
    refine AW.ifnonnull (tgt := 31) dX4_carry_27 rfl (fun n_27 c_27 => ?_) (fun c_27 => ?_)
    · refine AW.aload_n dX4_carry_31 rfl ?_
      refine AW.iload_n dX4_carry_32 rfl ?_
      refine AW.if_eq (tgt := 40) dX4_carry_33 rfl (fun c_33 => ?_) (fun c_33 => ?_)
      · refine AW.iload_n dX4_carry_40 rfl ?_
        refine AW.iconst dX4_carry_41 (by decide) ?_
        refine AW.isubB dX4_carry_42 (by omega) ?_
        refine AW.putI (j := 0) dX4_carry_43 S.o rfl rfl inC6 lkX4_124 rfl (Or.inl rfl) (Or.inl rfl) ?_
        refine AW.aload dX4_carry_46 rfl ?_
        refine AW.getIE (j := 0) P.o dX4_carry_48 lkX4_133 rfl rfl inC7 rfl (by exact hI_n1 h5 rfl) ?_
        refine AW.iconst dX4_carry_51 (by decide) ?_
        refine AW.icmp_ne (tgt := 56) dX4_carry_52 rfl (fun c_52 => ?_) (fun c_52 => ?_)
        · refine AW.iload_n dX4_carry_56 rfl ?_
          refine AW.if_eq (tgt := 68) dX4_carry_57 rfl (fun c_57 => ?_) (fun c_57 => ?_)
          · refine AW.aload dX4_carry_68 rfl ?_
            refine AW.getRE (j := 2) P.o dX4_carry_70 lkX4_139 rfl rfl inC7 rfl P.r2 ?_
            refine AW.astore dX4_carry_73 rfl ?_
            refine AW.iload_n dX4_carry_75 rfl ?_
            refine AW.if_eq (tgt := 87) dX4_carry_76 rfl (fun c_76 => ?_) (fun c_76 => ?_)
            · refine AW.aload dX4_carry_87 rfl ?_
              refine AW.getRE (j := 1) P.o dX4_carry_89 lkX4_136 rfl rfl inC7 rfl P.r1 ?_
              refine AW.astore dX4_carry_92 rfl ?_
              refine AW.iconst dX4_carry_94 (by decide) ?_
              refine AW.istore dX4_carry_95 rfl ?_
              refine AW.locs [(7, vi 0), (6, vr (6, p, 0)), (5, vr (7, p, 0)), (4, vr (5, p, 0)), (3, vi v), (0, vr (4, s, 0)), (1, vr (a, b, 0)), (2, vi 0)] ⟨rfl, rfl, rfl, rfl, rfl, rfl, rfl, rfl, trivial⟩ (X4_carry_l0 W S P.t2 v0 (x0 _) (X4_carry_l1 W S P.t2 v1 (x1 _) (AW.locs [(7, vi 2), (6, vr (6, p, 0)), (5, vr (7, p, 0)), (4, vr (5, p, 0)), (3, vi v), (0, vr (4, s, 0)), (1, vr (a, b, 0)), (2, vi 0)] ⟨rfl, rfl, rfl, rfl, rfl, rfl, rfl, rfl, trivial⟩ (fin c_52 _ _ rfl rfl))))
            · exact absurd rfl c_76
          · exact absurd rfl c_57
        · refine AW.vret dX4_carry_55 rfl ?_
          exact kR c_52
      · exact absurd rfl c_33
    · exact absurd c_27 (by simp)
  · exact absurd rfl c_1
set_option maxHeartbeats 1000000 in
theorem kX4_carry1 (W : SchW h s) (B : SB h s) (P : StpW h p) (S : StaW h a b) (hv : 1 ≤ v ∧ v ≤ hI h (4, s, 0) 0) (hp : hR h (4, s, 5) v.toNat = some (5, p, 0)) (ev : hI h (a, b, 0) 0 = v - 1) (h4 : Nat.beq 4 a = false) (ha4 : Nat.beq a 4 = false) (h5 : Nat.beq 5 a = false) (h6 : Nat.beq 6 a = false) (h7 : Nat.beq 7 a = false)
    (kR : hI h (5, p, 0) 0 = 1 → Q (sI h (a, b, 0) 0 (v)) (.inl none))
    (kN : ¬ hI h (5, p, 0) 0 = 1 → ccar Q s p a b 1 v (cvl h a b (hI h (6, p, 0) 0)) (cvl h a b (hI h (6, p, 0) 1)) (hI h (7, p, 0) 0) (hI h (7, p, 0) 1) (sI h (a, b, 0) 0 (v))) :
    AC mX4_carry fX4_carry loX4_carry 0 0 h [vr (4, s, 0), vr (a, b, 0), vi 1] Q := by
  have B0 := B.1
  have e5 : (if 0 ≤ v ∧ v ≤ hI h (4, s, 0) 0 then hR h (4, s, 5) v.toNat else none) = some (5, p, 0) := by rw [if_pos (by omega)]; exact hp
  have BH : SB (sI h (a, b, 0) 0 (v)) s := SB_n1 h4 B
  refine AC.mk (by decide) (Nat.le_of_ble_eq_true rfl) ?_
  have fin : ¬ hI h (5, p, 0) 0 = 1 → ∀ l0 l1, l0 = cvl h a b (hI h (6, p, 0) 0) → l1 = cvl h a b (hI h (6, p, 0) 1) → AW mX4_carry fX4_carry loX4_carry 0 0 Q 0 0 97 (w2 (sI h (a, b, 0) 0 (v)) (4, s, 7) l0 l1) [(7, vi 2), (6, vr (7, p, 0)), (5, vr (6, p, 0)), (4, vr (5, p, 0)), (3, vi v), (0, vr (4, s, 0)), (1, vr (a, b, 0)), (2, vi 1)] [] := by
    intro nk l0 l1 el0 el1
    have kN := kN nk
    rw [← el0, ← el1] at kN
    clear el0 el1
    have s7 : Scr s (sI h (a, b, 0) 0 (v)) (w2 (sI h (a, b, 0) 0 (v)) (4, s, 7) l0 l1) := (Scr.rfl'.w (scn_y rfl rfl)).w (scn_y rfl rfl)
    have s8 : ∀ x y, Scr s (sI h (a, b, 0) 0 (v)) (w2 (w2 (sI h (a, b, 0) 0 (v)) (4, s, 7) l0 l1) (4, s, 8) x y) := fun x y => (s7.w (scn_y rfl rfl)).w (scn_y rfl rfl)
    have hvH : v ≤ hI (sI h (a, b, 0) 0 (v)) (4, s, 0) 0 := by rw [hI_n1 (n := (4, s, 0)) h4 rfl]; exact hv.2
    have B7 := s7.hSB BH
    have v7 : v ≤ hI (w2 (sI h (a, b, 0) 0 (v)) (4, s, 7) l0 l1) (4, s, 0) 0 := by rw [s7.2.2.2 (4, s, 0) 0 (scn_0 rfl)]; exact hvH
    have q0 : hI (w2 (sI h (a, b, 0) 0 (v)) (4, s, 7) l0 l1) (4, s, 7) 0 = l0 := hI_m (by omega) (hI_e rfl rfl)
    have q1 : hI (w2 (sI h (a, b, 0) 0 (v)) (4, s, 7) l0 l1) (4, s, 7) 1 = l1 := hI_e rfl rfl
    refine AW.iload dX4_carry_97 rfl ?_
    refine AW.iconst dX4_carry_99 (by decide) ?_
    refine AW.icmp_ge (tgt := 125) dX4_carry_100 rfl (fun c_100 => ?_) (fun c_100 => ?_)
    · refine AW.aload_n dX4_carry_125 rfl ?_
      refine AW.iload_n dX4_carry_126 rfl ?_
      refine AW.iload_n dX4_carry_127 rfl ?_
      refine AW.aload_n dX4_carry_128 rfl ?_
      refine AW.getRE (j := 9) W.o dX4_carry_129 lkX4_36 rfl rfl inC5 rfl W.r9 ?_
      refine AW.aload_n dX4_carry_132 rfl ?_
      refine AW.getRE (j := 10) W.o dX4_carry_133 lkX4_39 rfl rfl inC5 rfl W.r10 ?_
      refine AW.callV (as := [vi _, vi _, vq _, vq _]) dX4_carry_136 rfl rfl rfl okX4_tell lkX4_145 W.o rfl rfl rfl rfl rfl rfl rfl (kX4_tell (h := w2 (sI h (a, b, 0) 0 (v)) (4, s, 7) l0 l1) W B7 P ⟨by omega, v7⟩ hp (i := 7) (j := 8) (by omega) (by omega) (by omega) (by omega) W.t9 W.t10 q0 q1 (AW.k0 ?_))
      rw [s7.hctl0, s7.hctl1]
      have sc := s8 (ctl0 (sI h (a, b, 0) 0 (v)) s p v 1 l0 l1) (ctl1 (sI h (a, b, 0) 0 (v)) s p v 1 l0)
      have i2 := sc.2.2.2 (a, b, 2) (2 * v + 1).toNat (scn_1 ha4)
      have i3 := fun q => sc.2.2.2 (a, b, 3) q (scn_1 ha4)
      have i0 := sc.2.2.2 (a, b, 0) 1 (scn_1 ha4)
      have iN : ∀ q, hI _ (7, p, 0) q = hI h (7, p, 0) q := fun q => sc.I (scn_1 rfl) (hI_n1 h7 rfl)
      refine AW.locs [(6, vr (7, p, 0)), (5, vr (6, p, 0)), (4, vr (5, p, 0)), (3, vi v), (0, vr (4, s, 0)), (1, vr (a, b, 0)), (2, vi 1)] ⟨rfl, rfl, rfl, rfl, rfl, rfl, rfl, trivial⟩ (X4_carry_c W (sc.hSB BH) P S ⟨by omega, by rw [sc.2.2.2 (4, s, 0) 0 (scn_0 rfl)]; exact hvH⟩ hp (by omega) P.t2 h7 rfl h4 ha4 (hI_m (by omega) (hI_e rfl rfl)) (hI_e rfl rfl) (hI_n3 rfl (hI_n3 rfl q0)) (hI_n3 rfl (hI_n3 rfl q1)) (iN 0) (iN 1) ?_ ?_ ?_)
      · intro z; exact cfin_m sc (kN.1 (i2.symm.trans z))
      · intro z c; rw [i3, i3] at c ⊢; rw [(sc.sw).hctl0, (sc.sw).hctl1] at c; exact cfin_m sc.sw (kN.2.1 (fun w => z (i2.trans w)) c)
      · intro z c; rw [i3, i3] at c; rw [(sc.sw).hctl0, (sc.sw).hctl1] at c; rw [i0]; exact cfin_m sc.sw.sw (kN.2.2 (fun w => z (i2.trans w)) c)
    · exact absurd c_100 (by decide)
  have v0 : hI (sI h (a, b, 0) 0 (v)) (6, p, 0) 0 = hI h (6, p, 0) 0 := hI_n1 h6 rfl
  have v1 : hI (sI (sI h (a, b, 0) 0 (v)) (4, s, 7) 0 (cvl h a b (hI h (6, p, 0) 0))) (6, p, 0) 1 = hI h (6, p, 0) 1 := hI_n1 rfl (hI_n1 h6 rfl)
  have x0 : ∀ f, cvl (sI h (a, b, 0) 0 (v)) a b f = cvl h a b f := fun f => by
    unfold cvl; rw [hI_n3 (n := (a, b, 1)) (m := (a, b, 0)) rfl rfl]
  have x1 : ∀ f, cvl (sI (sI h (a, b, 0) 0 (v)) (4, s, 7) 0 (cvl h a b (hI h (6, p, 0) 0))) a b f = cvl h a b f := fun f => by
    unfold cvl; rw [hI_n1 (n := (a, b, 1)) ha4 (hI_n3 (n := (a, b, 1)) (m := (a, b, 0)) rfl rfl)]
  refine AW.iload_n dX4_carry_0 rfl ?_
  refine AW.if_eq (tgt := 13) dX4_carry_1 rfl (fun c_1 => ?_) (fun c_1 => ?_)
  · exact absurd c_1 (by decide)
  · refine AW.aload_n dX4_carry_4 rfl ?_
    refine AW.getIE (j := 0) S.o dX4_carry_5 lkX4_124 rfl rfl inC6 rfl (by exact ev) ?_
    refine AW.iconst dX4_carry_8 (by decide) ?_
    refine AW.iaddB dX4_carry_9 (by omega) ?_
    refine AW.goto (tgt := 17) dX4_carry_10 rfl ?_
    refine AW.top (y := v) (by omega) ?_
    refine AW.istore_n dX4_carry_17 rfl ?_
    refine AW.aload_n dX4_carry_18 rfl ?_
    refine AW.iload_n dX4_carry_19 rfl ?_
    refine AW.callV (as := [vi _]) dX4_carry_20 rfl rfl rfl okX4_stepTo lkX4_117 W.o rfl rfl rfl rfl rfl rfl rfl (kX4_stepTo W B (AW.k1 ?_))
    rw [e5]
    refine AW.astore dX4_carry_23 rfl ?_
    refine AW.aload dX4_carry_25 rfl ?_
    refine AW.ifnonnull (tgt := 31) dX4_carry_27 rfl (fun n_27 c_27 => ?_) (fun c_27 => ?_)
    · refine AW.aload_n dX4_carry_31 rfl ?_
      refine AW.iload_n dX4_carry_32 rfl ?_
      refine AW.if_eq (tgt := 40) dX4_carry_33 rfl (fun c_33 => ?_) (fun c_33 => ?_)
      · exact absurd c_33 (by decide)
      · refine AW.iload_n dX4_carry_36 rfl ?_
        refine AW.goto (tgt := 43) dX4_carry_37 rfl ?_
        refine AW.putI (j := 0) dX4_carry_43 S.o rfl rfl inC6 lkX4_124 rfl (Or.inl rfl) (Or.inl rfl) ?_
        refine AW.aload dX4_carry_46 rfl ?_
        refine AW.getIE (j := 0) P.o dX4_carry_48 lkX4_133 rfl rfl inC7 rfl (by exact hI_n1 h5 rfl) ?_
        refine AW.iconst dX4_carry_51 (by decide) ?_
        refine AW.icmp_ne (tgt := 56) dX4_carry_52 rfl (fun c_52 => ?_) (fun c_52 => ?_)
        · refine AW.iload_n dX4_carry_56 rfl ?_
          refine AW.if_eq (tgt := 68) dX4_carry_57 rfl (fun c_57 => ?_) (fun c_57 => ?_)
          · exact absurd c_57 (by decide)
          · refine AW.aload dX4_carry_60 rfl ?_
            refine AW.getRE (j := 1) P.o dX4_carry_62 lkX4_136 rfl rfl inC7 rfl P.r1 ?_
            refine AW.goto (tgt := 73) dX4_carry_65 rfl ?_
            refine AW.astore dX4_carry_73 rfl ?_
            refine AW.iload_n dX4_carry_75 rfl ?_
            refine AW.if_eq (tgt := 87) dX4_carry_76 rfl (fun c_76 => ?_) (fun c_76 => ?_)
            · exact absurd c_76 (by decide)
            · refine AW.aload dX4_carry_79 rfl ?_
              refine AW.getRE (j := 2) P.o dX4_carry_81 lkX4_139 rfl rfl inC7 rfl P.r2 ?_
              refine AW.goto (tgt := 92) dX4_carry_84 rfl ?_
              refine AW.astore dX4_carry_92 rfl ?_
              refine AW.iconst dX4_carry_94 (by decide) ?_
              refine AW.istore dX4_carry_95 rfl ?_
              refine AW.locs [(7, vi 0), (6, vr (7, p, 0)), (5, vr (6, p, 0)), (4, vr (5, p, 0)), (3, vi v), (0, vr (4, s, 0)), (1, vr (a, b, 0)), (2, vi 1)] ⟨rfl, rfl, rfl, rfl, rfl, rfl, rfl, rfl, trivial⟩ (X4_carry_l0 W S P.t1 v0 (x0 _) (X4_carry_l1 W S P.t1 v1 (x1 _) (AW.locs [(7, vi 2), (6, vr (7, p, 0)), (5, vr (6, p, 0)), (4, vr (5, p, 0)), (3, vi v), (0, vr (4, s, 0)), (1, vr (a, b, 0)), (2, vi 1)] ⟨rfl, rfl, rfl, rfl, rfl, rfl, rfl, rfl, trivial⟩ (fin c_52 _ _ rfl rfl))))
        · refine AW.vret dX4_carry_55 rfl ?_
          exact kR c_52
    · exact absurd c_27 (by simp)
end C12
