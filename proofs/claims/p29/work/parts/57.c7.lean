/-! ===== the class: what a step tells, needed fields ===== -/
section C7
variable {Q : AH → AO → Prop} {h : AH} {s : Nat}
theorem sI5 {m : Nm} {x y z : Int} : sI (w2 h m x y) m 1 z = w2 h m x z := by
  unfold w2 sI
  refine Prod.ext rfl (Prod.ext (funext fun n => funext fun i => ?_) rfl)
  dsimp only
  by_cases e1 : n = m ∧ i = 1
  · simp only [if_pos e1]
  · simp only [if_neg e1]
theorem SB_w2 {j : Nat} {x y : Int} (hj : 3 ≤ j) (B : SB h s) : SB (w2 h (4, s, j) x y) s := SB_w hj (SB_w hj B)
theorem cnd_w2 {j : Nat} {x y v f : Int} (hj : 3 ≤ j) : cnd (w2 h (4, s, j) x y) s v f = cnd h s v f := (cnd_w hj).trans (cnd_w hj)
theorem cdf_w2 {j : Nat} {x y f : Int} (hj : 3 ≤ j) : cdf (w2 h (4, s, j) x y) s f = cdf h s f := (cdf_w hj).trans (cdf_w hj)
def cne (h : AH) (s : Nat) (ver f t : Int) : Int := if t = -1 ∧ ¬ cnd h s ver f = 0 then cdf h s f else t
theorem X4_tell_0 {mc ms bc bs p i j : Nat} {N : Nm} {u v ver x y : Int} (W : SchW h s) (B : SB h s) (hj : 7 ≤ j ∧ j ≤ 10) (tj : hT h (4, s, j) = some (20, 2)) (hN : Nat.beq N.1 4 = false) (tN : hT h N = some (20, 2)) (k : AW mX4_tell fX4_tell loX4_tell mc ms Q bc bs 58 (w2 h (4, s, j) (cne h s ver (hI h N 0) x) y) [(8, vi 1), (7, vi ver), (6, vr N), (5, vr (5, p, 0)), (0, vr (4, s, 0)), (1, vi v), (2, vi u), (3, vr (4, s, i)), (4, vr (4, s, j))] []) :
    AW mX4_tell fX4_tell loX4_tell mc ms Q bc bs 58 (w2 h (4, s, j) x y) [(8, vi 0), (7, vi ver), (6, vr N), (5, vr (5, p, 0)), (0, vr (4, s, 0)), (1, vi v), (2, vi u), (3, vr (4, s, i)), (4, vr (4, s, j))] [] := by
  have B2 : SB (w2 h (4, s, j) x y) s := SB_w2 (by omega) B
  refine AW.iload dX4_tell_58 rfl ?_
  refine AW.iconst dX4_tell_60 (by decide) ?_
  refine AW.icmp_ge (tgt := 107) dX4_tell_61 rfl (fun c_61 => ?_) (fun c_61 => ?_)
  · exact absurd c_61 (by decide)
  · refine AW.aload dX4_tell_64 rfl ?_
    refine AW.iload dX4_tell_66 rfl ?_
    refine AW.aldIE dX4_tell_68 tj (by decide) (by decide) (by exact hI_m (by omega) (hI_e rfl rfl)) ?_
    refine AW.iconst dX4_tell_69 (by decide) ?_
    refine AW.icmp_ne (tgt := 101) dX4_tell_70 rfl (fun c_70 => ?_) (fun c_70 => ?_)
    · refine AW.iincB dX4_tell_101 rfl rfl (by omega) ?_
      refine AW.goto (tgt := 58) dX4_tell_104 rfl ?_
      refine AW.locs [(8, vi 1), (7, vi ver), (6, vr N), (5, vr (5, p, 0)), (0, vr (4, s, 0)), (1, vi v), (2, vi u), (3, vr (4, s, i)), (4, vr (4, s, j))] ⟨rfl, rfl, rfl, rfl, rfl, rfl, rfl, rfl, rfl, trivial⟩ (AW.heq ?_ k)
      unfold cne
      first | (rw [if_neg (fun z => c_70 z.1)]; done) | (rw [if_neg (fun z => z.2 c_84)]; done) | (rw [if_pos ⟨c_70, c_84⟩]; exact sI3)
    · refine AW.aload_n dX4_tell_73 rfl ?_
      refine AW.iload dX4_tell_74 rfl ?_
      refine AW.aload dX4_tell_76 rfl ?_
      refine AW.iload dX4_tell_78 rfl ?_
      refine AW.aldIE dX4_tell_80 tN (by decide) (by decide) (by exact hI_n1 hN (hI_n1 hN rfl)) ?_
      refine AW.callV (as := [vi _, vi _]) dX4_tell_81 rfl rfl rfl okX4_isNeeded lkX4_172 W.o rfl rfl rfl rfl rfl rfl rfl (kX4_isNeeded W B2 (AW.k1 ?_))
      refine AW.top (y := cnd h s ver (hI h N 0)) (cnd_w2 (by omega)) ?_
      refine AW.if_eq (tgt := 101) dX4_tell_84 rfl (fun c_84 => ?_) (fun c_84 => ?_)
      · refine AW.iincB dX4_tell_101 rfl rfl (by omega) ?_
        refine AW.goto (tgt := 58) dX4_tell_104 rfl ?_
        refine AW.locs [(8, vi 1), (7, vi ver), (6, vr N), (5, vr (5, p, 0)), (0, vr (4, s, 0)), (1, vi v), (2, vi u), (3, vr (4, s, i)), (4, vr (4, s, j))] ⟨rfl, rfl, rfl, rfl, rfl, rfl, rfl, rfl, rfl, trivial⟩ (AW.heq ?_ k)
        unfold cne
        first | (rw [if_neg (fun z => c_70 z.1)]; done) | (rw [if_neg (fun z => z.2 c_84)]; done) | (rw [if_pos ⟨c_70, c_84⟩]; exact sI3)
      · refine AW.aload dX4_tell_87 rfl ?_
        refine AW.iload dX4_tell_89 rfl ?_
        refine AW.aload_n dX4_tell_91 rfl ?_
        refine AW.aload dX4_tell_92 rfl ?_
        refine AW.iload dX4_tell_94 rfl ?_
        refine AW.aldIE dX4_tell_96 tN (by decide) (by decide) (by exact hI_n1 hN (hI_n1 hN rfl)) ?_
        refine AW.callV (as := [vi _]) dX4_tell_97 rfl rfl rfl okX4_defaultOf lkX4_176 W.o rfl rfl rfl rfl rfl rfl rfl (kX4_defaultOf W B2 (AW.k1 ?_))
        refine AW.top (y := cdf h s (hI h N 0)) (cdf_w2 (by omega)) ?_
        refine AW.astI dX4_tell_100 tj (by decide) (by decide) ?_
        refine AW.iincB dX4_tell_101 rfl rfl (by omega) ?_
        refine AW.goto (tgt := 58) dX4_tell_104 rfl ?_
        refine AW.locs [(8, vi 1), (7, vi ver), (6, vr N), (5, vr (5, p, 0)), (0, vr (4, s, 0)), (1, vi v), (2, vi u), (3, vr (4, s, i)), (4, vr (4, s, j))] ⟨rfl, rfl, rfl, rfl, rfl, rfl, rfl, rfl, rfl, trivial⟩ (AW.heq ?_ k)
        unfold cne
        first | (rw [if_neg (fun z => c_70 z.1)]; done) | (rw [if_neg (fun z => z.2 c_84)]; done) | (rw [if_pos ⟨c_70, c_84⟩]; exact sI3)
theorem X4_tell_1 {mc ms bc bs p i j : Nat} {N : Nm} {u v ver x y : Int} (W : SchW h s) (B : SB h s) (hj : 7 ≤ j ∧ j ≤ 10) (tj : hT h (4, s, j) = some (20, 2)) (hN : Nat.beq N.1 4 = false) (tN : hT h N = some (20, 2)) (k : AW mX4_tell fX4_tell loX4_tell mc ms Q bc bs 58 (w2 h (4, s, j) x (cne h s ver (hI h N 1) y)) [(8, vi 2), (7, vi ver), (6, vr N), (5, vr (5, p, 0)), (0, vr (4, s, 0)), (1, vi v), (2, vi u), (3, vr (4, s, i)), (4, vr (4, s, j))] []) :
    AW mX4_tell fX4_tell loX4_tell mc ms Q bc bs 58 (w2 h (4, s, j) x y) [(8, vi 1), (7, vi ver), (6, vr N), (5, vr (5, p, 0)), (0, vr (4, s, 0)), (1, vi v), (2, vi u), (3, vr (4, s, i)), (4, vr (4, s, j))] [] := by
  have B2 : SB (w2 h (4, s, j) x y) s := SB_w2 (by omega) B
  refine AW.iload dX4_tell_58 rfl ?_
  refine AW.iconst dX4_tell_60 (by decide) ?_
  refine AW.icmp_ge (tgt := 107) dX4_tell_61 rfl (fun c_61 => ?_) (fun c_61 => ?_)
  · exact absurd c_61 (by decide)
  · refine AW.aload dX4_tell_64 rfl ?_
    refine AW.iload dX4_tell_66 rfl ?_
    refine AW.aldIE dX4_tell_68 tj (by decide) (by decide) (by exact hI_e rfl rfl) ?_
    refine AW.iconst dX4_tell_69 (by decide) ?_
    refine AW.icmp_ne (tgt := 101) dX4_tell_70 rfl (fun c_70 => ?_) (fun c_70 => ?_)
    · refine AW.iincB dX4_tell_101 rfl rfl (by omega) ?_
      refine AW.goto (tgt := 58) dX4_tell_104 rfl ?_
      refine AW.locs [(8, vi 2), (7, vi ver), (6, vr N), (5, vr (5, p, 0)), (0, vr (4, s, 0)), (1, vi v), (2, vi u), (3, vr (4, s, i)), (4, vr (4, s, j))] ⟨rfl, rfl, rfl, rfl, rfl, rfl, rfl, rfl, rfl, trivial⟩ (AW.heq ?_ k)
      unfold cne
      first | (rw [if_neg (fun z => c_70 z.1)]; done) | (rw [if_neg (fun z => z.2 c_84)]; done) | (rw [if_pos ⟨c_70, c_84⟩]; exact sI5)
    · refine AW.aload_n dX4_tell_73 rfl ?_
      refine AW.iload dX4_tell_74 rfl ?_
      refine AW.aload dX4_tell_76 rfl ?_
      refine AW.iload dX4_tell_78 rfl ?_
      refine AW.aldIE dX4_tell_80 tN (by decide) (by decide) (by exact hI_n1 hN (hI_n1 hN rfl)) ?_
      refine AW.callV (as := [vi _, vi _]) dX4_tell_81 rfl rfl rfl okX4_isNeeded lkX4_172 W.o rfl rfl rfl rfl rfl rfl rfl (kX4_isNeeded W B2 (AW.k1 ?_))
      refine AW.top (y := cnd h s ver (hI h N 1)) (cnd_w2 (by omega)) ?_
      refine AW.if_eq (tgt := 101) dX4_tell_84 rfl (fun c_84 => ?_) (fun c_84 => ?_)
      · refine AW.iincB dX4_tell_101 rfl rfl (by omega) ?_
        refine AW.goto (tgt := 58) dX4_tell_104 rfl ?_
        refine AW.locs [(8, vi 2), (7, vi ver), (6, vr N), (5, vr (5, p, 0)), (0, vr (4, s, 0)), (1, vi v), (2, vi u), (3, vr (4, s, i)), (4, vr (4, s, j))] ⟨rfl, rfl, rfl, rfl, rfl, rfl, rfl, rfl, rfl, trivial⟩ (AW.heq ?_ k)
        unfold cne
        first | (rw [if_neg (fun z => c_70 z.1)]; done) | (rw [if_neg (fun z => z.2 c_84)]; done) | (rw [if_pos ⟨c_70, c_84⟩]; exact sI5)
      · refine AW.aload dX4_tell_87 rfl ?_
        refine AW.iload dX4_tell_89 rfl ?_
        refine AW.aload_n dX4_tell_91 rfl ?_
        refine AW.aload dX4_tell_92 rfl ?_
        refine AW.iload dX4_tell_94 rfl ?_
        refine AW.aldIE dX4_tell_96 tN (by decide) (by decide) (by exact hI_n1 hN (hI_n1 hN rfl)) ?_
        refine AW.callV (as := [vi _]) dX4_tell_97 rfl rfl rfl okX4_defaultOf lkX4_176 W.o rfl rfl rfl rfl rfl rfl rfl (kX4_defaultOf W B2 (AW.k1 ?_))
        refine AW.top (y := cdf h s (hI h N 1)) (cdf_w2 (by omega)) ?_
        refine AW.astI dX4_tell_100 tj (by decide) (by decide) ?_
        refine AW.iincB dX4_tell_101 rfl rfl (by omega) ?_
        refine AW.goto (tgt := 58) dX4_tell_104 rfl ?_
        refine AW.locs [(8, vi 2), (7, vi ver), (6, vr N), (5, vr (5, p, 0)), (0, vr (4, s, 0)), (1, vi v), (2, vi u), (3, vr (4, s, i)), (4, vr (4, s, j))] ⟨rfl, rfl, rfl, rfl, rfl, rfl, rfl, rfl, rfl, trivial⟩ (AW.heq ?_ k)
        unfold cne
        first | (rw [if_neg (fun z => c_70 z.1)]; done) | (rw [if_neg (fun z => z.2 c_84)]; done) | (rw [if_pos ⟨c_70, c_84⟩]; exact sI5)
def ctl0 (h : AH) (s p : Nat) (v u g0 g1 : Int) : Int := cne h s (if u = 0 then v - 1 else v) (if u = 0 then hI h (6, p, 0) 0 else hI h (7, p, 0) 0) (ctA0 h s p u g0 g1)
def ctl1 (h : AH) (s p : Nat) (v u g0 : Int) : Int := cne h s (if u = 0 then v - 1 else v) (if u = 0 then hI h (6, p, 0) 1 else hI h (7, p, 0) 1) (ctA1 h p u g0)
theorem kX4_tell {p i j : Nat} {v u g0 g1 : Int} (W : SchW h s) (B : SB h s) (P : StpW h p) (hv : 0 ≤ v ∧ v ≤ hI h (4, s, 0) 0) (hp : hR h (4, s, 5) v.toNat = some (5, p, 0)) (hi : 7 ≤ i ∧ i ≤ 10) (hj : 7 ≤ j ∧ j ≤ 10) (hij : ¬ i = j) (hu : u = 0 ∨ u = 1) (ti : hT h (4, s, i) = some (20, 2)) (tj : hT h (4, s, j) = some (20, 2)) (eg0 : hI h (4, s, i) 0 = g0) (eg1 : hI h (4, s, i) 1 = g1)
    (k : Q (w2 h (4, s, j) (ctl0 h s p v u g0 g1) (ctl1 h s p v u g0)) (.inl none)) : AC mX4_tell fX4_tell loX4_tell 0 0 h [vr (4, s, 0), vi v, vi u, vr (4, s, i), vr (4, s, j)] Q := by
  have e5 : (if 0 ≤ v ∧ v ≤ hI h (4, s, 0) 0 then hR h (4, s, 5) v.toNat else none) = some (5, p, 0) := by rw [if_pos hv]; exact hp
  have B0 := B.1
  refine AC.mk (by decide) (Nat.le_of_ble_eq_true rfl) ?_
  rcases hu with hu | hu
  · subst hu
    have fin : ∀ x y, x = ctl0 h s p v 0 g0 g1 → y = ctl1 h s p v 0 g0 → AW mX4_tell fX4_tell loX4_tell 0 0 Q 0 0 58 (w2 h (4, s, j) x y) [(8, vi 2), (7, vi (v - 1)), (6, vr (6, p, 0)), (5, vr (5, p, 0)), (0, vr (4, s, 0)), (1, vi v), (2, vi 0), (3, vr (4, s, i)), (4, vr (4, s, j))] [] := by
      intro x y ex ey
      subst ex; subst ey
      refine AW.iload dX4_tell_58 rfl ?_
      refine AW.iconst dX4_tell_60 (by decide) ?_
      refine AW.icmp_ge (tgt := 107) dX4_tell_61 rfl (fun c_61 => ?_) (fun c_61 => ?_)
      · refine AW.vret dX4_tell_107 rfl ?_
        exact k
      · exact absurd c_61 (by decide)
    refine AW.aload_n dX4_tell_0 rfl ?_
    refine AW.iload_n dX4_tell_1 rfl ?_
    refine AW.callV (as := [vi _]) dX4_tell_2 rfl rfl rfl okX4_stepTo lkX4_117 W.o rfl rfl rfl rfl rfl rfl rfl (kX4_stepTo W B (AW.k1 ?_))
    rw [e5]
    refine AW.astore dX4_tell_5 rfl ?_
    refine AW.aload dX4_tell_7 rfl ?_
    refine AW.ifnonnull (tgt := 13) dX4_tell_9 rfl (fun n_9 c_9 => ?_) (fun c_9 => ?_)
    · refine AW.aload_n dX4_tell_13 rfl ?_
      refine AW.aload dX4_tell_14 rfl ?_
      refine AW.iload_n dX4_tell_16 rfl ?_
      refine AW.aload_n dX4_tell_17 rfl ?_
      refine AW.aload dX4_tell_18 rfl ?_
      refine AW.callV (as := [vq _, vi _, vq _, vq _]) dX4_tell_20 rfl rfl rfl okX4_tellAlone lkX4_168 W.o rfl rfl rfl rfl rfl rfl rfl (kX4_tellAlone W B P hi hj hij (by omega) ti tj eg0 eg1 (AW.k0 ?_))
      refine AW.iload_n dX4_tell_23 rfl ?_
      refine AW.if_eq (tgt := 35) dX4_tell_24 rfl (fun c_24 => ?_) (fun c_24 => ?_)
      · refine AW.aload dX4_tell_35 rfl ?_
        refine AW.getRE (j := 1) P.o dX4_tell_37 lkX4_136 rfl rfl inC7 rfl P.r1 ?_
        refine AW.astore dX4_tell_40 rfl ?_
        refine AW.iload_n dX4_tell_42 rfl ?_
        refine' AW.if_eqJ 53 (tgt := 50) dX4_tell_43 rfl _ _ _
        rotate_left 2
        · intro c_43 k_43
          refine AW.iload_n dX4_tell_50 rfl ?_
          refine AW.iconst dX4_tell_51 (by decide) ?_
          refine AW.isubB dX4_tell_52 (by omega) ?_
          exact k_43
        · intro c_43 k_43
          refine AW.iload_n dX4_tell_46 rfl ?_
          refine AW.goto (tgt := 53) dX4_tell_47 rfl ?_
          exact k_43
        refine AW.istore dX4_tell_53 rfl ?_
        refine AW.iconst dX4_tell_55 (by decide) ?_
        refine AW.istore dX4_tell_56 rfl ?_
        refine AW.locs [(8, vi 0), (7, vi (v - 1)), (6, vr (6, p, 0)), (5, vr (5, p, 0)), (0, vr (4, s, 0)), (1, vi v), (2, vi 0), (3, vr (4, s, i)), (4, vr (4, s, j))] ⟨rfl, rfl, rfl, rfl, rfl, rfl, rfl, rfl, rfl, trivial⟩ (X4_tell_0 W B hj tj rfl P.t1 (X4_tell_1 W B hj tj rfl P.t1 (fin _ _ rfl rfl)))
      · exact absurd c_24 (by decide)
    · exact absurd c_9 (by simp)
  · subst hu
    have fin : ∀ x y, x = ctl0 h s p v 1 g0 g1 → y = ctl1 h s p v 1 g0 → AW mX4_tell fX4_tell loX4_tell 0 0 Q 0 0 58 (w2 h (4, s, j) x y) [(8, vi 2), (7, vi v), (6, vr (7, p, 0)), (5, vr (5, p, 0)), (0, vr (4, s, 0)), (1, vi v), (2, vi 1), (3, vr (4, s, i)), (4, vr (4, s, j))] [] := by
      intro x y ex ey
      subst ex; subst ey
      refine AW.iload dX4_tell_58 rfl ?_
      refine AW.iconst dX4_tell_60 (by decide) ?_
      refine AW.icmp_ge (tgt := 107) dX4_tell_61 rfl (fun c_61 => ?_) (fun c_61 => ?_)
      · refine AW.vret dX4_tell_107 rfl ?_
        exact k
      · exact absurd c_61 (by decide)
    refine AW.aload_n dX4_tell_0 rfl ?_
    refine AW.iload_n dX4_tell_1 rfl ?_
    refine AW.callV (as := [vi _]) dX4_tell_2 rfl rfl rfl okX4_stepTo lkX4_117 W.o rfl rfl rfl rfl rfl rfl rfl (kX4_stepTo W B (AW.k1 ?_))
    rw [e5]
    refine AW.astore dX4_tell_5 rfl ?_
    refine AW.aload dX4_tell_7 rfl ?_
    refine AW.ifnonnull (tgt := 13) dX4_tell_9 rfl (fun n_9 c_9 => ?_) (fun c_9 => ?_)
    · refine AW.aload_n dX4_tell_13 rfl ?_
      refine AW.aload dX4_tell_14 rfl ?_
      refine AW.iload_n dX4_tell_16 rfl ?_
      refine AW.aload_n dX4_tell_17 rfl ?_
      refine AW.aload dX4_tell_18 rfl ?_
      refine AW.callV (as := [vq _, vi _, vq _, vq _]) dX4_tell_20 rfl rfl rfl okX4_tellAlone lkX4_168 W.o rfl rfl rfl rfl rfl rfl rfl (kX4_tellAlone W B P hi hj hij (by omega) ti tj eg0 eg1 (AW.k0 ?_))
      refine AW.iload_n dX4_tell_23 rfl ?_
      refine AW.if_eq (tgt := 35) dX4_tell_24 rfl (fun c_24 => ?_) (fun c_24 => ?_)
      · exact absurd c_24 (by decide)
      · refine AW.aload dX4_tell_27 rfl ?_
        refine AW.getRE (j := 2) P.o dX4_tell_29 lkX4_139 rfl rfl inC7 rfl P.r2 ?_
        refine AW.goto (tgt := 40) dX4_tell_32 rfl ?_
        refine AW.astore dX4_tell_40 rfl ?_
        refine AW.iload_n dX4_tell_42 rfl ?_
        refine' AW.if_eqJ 53 (tgt := 50) dX4_tell_43 rfl _ _ _
        rotate_left 2
        · intro c_43 k_43
          refine AW.iload_n dX4_tell_50 rfl ?_
          refine AW.iconst dX4_tell_51 (by decide) ?_
          refine AW.isubB dX4_tell_52 (by omega) ?_
          exact k_43
        · intro c_43 k_43
          refine AW.iload_n dX4_tell_46 rfl ?_
          refine AW.goto (tgt := 53) dX4_tell_47 rfl ?_
          exact k_43
        refine AW.istore dX4_tell_53 rfl ?_
        refine AW.iconst dX4_tell_55 (by decide) ?_
        refine AW.istore dX4_tell_56 rfl ?_
        refine AW.locs [(8, vi 0), (7, vi v), (6, vr (7, p, 0)), (5, vr (5, p, 0)), (0, vr (4, s, 0)), (1, vi v), (2, vi 1), (3, vr (4, s, i)), (4, vr (4, s, j))] ⟨rfl, rfl, rfl, rfl, rfl, rfl, rfl, rfl, rfl, trivial⟩ (X4_tell_0 W B hj tj rfl P.t2 (X4_tell_1 W B hj tj rfl P.t2 (fin _ _ rfl rfl)))
    · exact absurd c_9 (by simp)
end C7
