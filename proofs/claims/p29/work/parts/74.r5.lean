/-! ===== the relation: a row brought to a version ===== -/
section R5
variable {h g H : AH} {Z Y : ZT} {s a b q V : Nat} {Q : AH → AO → Prop}
/-- off the state (a, b) and the scratch of s -/
def nOf (s a b : Nat) (n : Nm) : Prop := ¬ (n.1 = a ∧ n.2.1 = b) ∧ ¬ scn s n
theorem Fr.kpt {T x : Int} {P : Nm → Prop} (F : Fr P h g) (hP : ∀ j, ¬ P (a, b, j)) : Fr P h (cpt g a b T x) := by
  unfold cpt; split
  · exact F.wI (hP _)
  · exact F
theorem Fr.kaw {e x y : Int} {P : Nm → Prop} (F : Fr P h g) (hP : ∀ j, ¬ P (a, b, j)) : Fr P h (caw g a b e x y) := by
  unfold caw; exact ((F.wI (hP _)).wI (hP _)).wI (hP _)
theorem Fr.kbx {l0 l1 u v : Int} {p : Nat} {P : Nm → Prop} (F : Fr P h H) (hP : ∀ j, ¬ P (a, b, j)) : Fr P h (cbox s p a b u v l0 l1 H).1 := by
  unfold cbox
  split
  · exact F
  · split
    · exact F.wI (hP _)
    · exact (F.wI (hP _)).wI (hP _)
theorem Fr.kcp {l0 l1 u v t0 t1 r0 r1 : Int} {p : Nat} {P : Nm → Prop} (F : Fr P h H) (hP : ∀ j, ¬ P (a, b, j)) : Fr P h (ccput s p a b u v l0 l1 t0 t1 H r0 r1) := by
  unfold ccput
  refine Fr.kpt (Fr.kpt ?_ hP) hP
  split
  · exact F
  · exact Fr.kaw F hP
theorem Fr.kcl {u v : Int} {p : Nat} {P : Nm → Prop} (hP : ∀ j, ¬ P (a, b, j)) : Fr P h (ccl h s p a b u v) := by
  unfold ccl
  by_cases c : hI h (5, p, 0) 0 = 1
  · rw [if_pos c]
    exact Fr.rf.wI (hP _)
  · rw [if_neg c]
    exact Fr.kcp (Fr.kbx (Fr.rf.wI (hP _)) hP) hP
theorem StaW.f {P : Nm → Prop} (F : Fr P h g) (hP : ∀ j, P (a, b, j)) (W : StaW h a b) : StaW g a b := by
  unfold StaW at *
  rw [F.T (hP _), F.T (hP _), F.T (hP _), F.T (hP _), F.R (hP _), F.R (hP _), F.R (hP _)]
  exact W
theorem RW.f {P : Nm → Prop} (F : Fr P h g) (hP : ∀ j, P (a, b, j)) (R : RW h Z s a b q) : RW g Z s a b q := by
  obtain ⟨⟨r1, r2⟩, R⟩ := R
  exact ⟨⟨by rw [F.I (hP _)]; exact r1, r2⟩, R.c (R.1.f F hP) (fun j i _ _ => F.I (hP _) i) (fun _ _ => rfl)⟩
theorem RW.zc (e1 : Y 1 s = Z 1 s) (e5 : Y 5 = Z 5) (e7 : Y 7 = Z 7) (e21 : Y 21 q = Z 21 q) (e22 : ∀ f : Nat, f < 48 → Y 22 (48 * q + f) = Z 22 (48 * q + f)) (e23 : Y 23 q = Z 23 q) (e24 : ∀ w : Nat, w < 24 → Y 24 (24 * q + w) = Z 24 (24 * q + w)) (e25 : ∀ j : Nat, j < 48 → Y 25 (48 * q + j) = Z 25 (48 * q + j)) (R : RW h Z s a b q) : RW h Y s a b q := by
  obtain ⟨⟨r1, r2, r3⟩, k1, k2, k3, k4⟩ := R
  refine ⟨⟨by rw [e21]; exact r1, by rw [e21]; exact r2, by rw [e21, e1]; exact r3⟩, k1, by rw [e23]; exact k2, ?_, ?_⟩
  · unfold RVl at k3 ⊢
    intro f hf
    rw [e21, e5, e22 f (by omega)]
    exact k3 f hf
  · intro w hw
    refine RB1.c (k4 w hw) rfl rfl (fun _ _ => rfl) e1 (by rw [e7]) (e24 w hw) (fun j hj => ?_)
    rw [show 2 * (24 * q + w) + j = 48 * q + (2 * w + j) by omega]
    exact e25 _ (by omega)
theorem RW.isB (R : RW h Z s a b q) : isB h (a, b, 2) 48 := by
  intro i hi
  obtain ⟨-, e1, e2, -⟩ := R.2.2.2.2 (i / 2) (by omega)
  rcases (show i = 2 * (i / 2) ∨ i = 2 * (i / 2) + 1 by omega) with e | e
  · rw [e, e1]; exact bz01 _
  · rw [e, e2]; exact bz01 _
theorem nSv_nOf (ha : 7 < a) : ∀ n, nSv s n → nOf s a b n := by
  rintro n (⟨e1, e2, e3⟩ | e | e | e)
  · exact ⟨fun z => by omega, fun z => by have := z.2.2; omega⟩
  · exact ⟨fun z => by omega, fun z => by have := z.1; omega⟩
  · exact ⟨fun z => by omega, fun z => by have := z.1; omega⟩
  · exact ⟨fun z => by omega, fun z => by have := z.1; omega⟩
theorem sX4_carry {v : Nat} {u : Int} (S : SV h Z s) (K : ZS Z s) (B : SB h s) (R : RW h Z s a b q) (ha : 7 < a) (hu : u = 0 ∨ u = 1) (h1 : 1 ≤ v) (h2 : (v : Int) ≤ Z 1 s) (ev : Z 21 q = if u = 0 then (v : Int) else (v : Int) - 1)
    (k : ∀ g, Fr (nOf s a b) h g → SV g Z s → SB g s → RW g (zmv Z q s v u) s a b q → Q g (.inl none)) : AC mX4_carry fX4_carry loX4_carry 0 0 h [vr (4, s, 0), vr (a, b, 0), vi u] Q := by
  obtain ⟨s5, P, -⟩ := S.st h1 h2
  refine kX4_carry (p := 24 * s + v) (v := v) S.1 B P R.2.1 hu ⟨by omega, by rw [S.hd]; exact h2⟩ (by rw [Int.toNat_natCast]; exact s5) (by rw [R.1.1]; exact ev) (beq_ne (by omega)) (beq_ne (by omega)) (beq_ne (by omega)) (beq_ne (by omega)) (beq_ne (by omega)) (fun g' sg => ?_)
  have F1 : Fr (nOf s a b) h (ccl h s (24 * s + v) a b u v) := Fr.kcl (fun j z => z.1 ⟨rfl, rfl⟩)
  have F2 : Fr (fun n => ¬ scn s n) (ccl h s (24 * s + v) a b u v) g' := Fr.scr sg (fun n z => z)
  have F : Fr (nOf s a b) h g' := F1.tr (F2.mo (fun n z => z.2))
  have hw : SchW g' s := sg.W (by
    have : SV (ccl h s (24 * s + v) a b u v) Z s := by
      refine S.fr2 (F1.mo (nSv_nOf ha)) ?_ zSv.rf
      have W := S.1
      have F3 : Fr (fun n : Nm => n.1 = 4) h (ccl h s (24 * s + v) a b u v) := Fr.kcl (fun j z => by dsimp only at z; omega)
      unfold SchW at W ⊢
      simp only [F3.T (n := (4, s, _)) rfl, F3.R (n := (4, s, _)) rfl]
      exact W
    exact this.1)
  refine k g' F (S.fr2 (F.mo (nSv_nOf ha)) hw zSv.rf) ?_ ((RW.car hu S K ha h1 h2 ev R).f F2 (fun j z => by have := z.1; dsimp only at this; omega))
  have e : ∀ i, hI g' (4, s, 0) i = hI h (4, s, 0) i := F.I (nSv_nOf ha _ (Or.inl ⟨rfl, rfl, Or.inl (Nat.zero_le _)⟩))
  unfold SB
  rw [e, e, e]
  exact B
theorem zmtU_s {r s : Int} {n : Nat} : zmtU Z r s (n + 1) = zmv (zmtU Z r s n) r s (Z 21 r.toNat + (n : Int) + 1) 1 := rfl
theorem zSv.off (e : ∀ j, offR j = true → Y j = Z j) : zSv Y Z := fun j hj => e j (by
  unfold offR
  simp only [Bool.or_eq_true, beq_iff_eq] at hj
  rcases hj with ((((((((h | h) | h) | h) | h) | h) | h) | h) | h) | h <;> subst h <;> rfl)
set_option maxHeartbeats 1000000 in
theorem sX4_bring {v : Int} (S : SV h Z s) (K : ZS Z s) (B : SB h s) (R : RW h Z s a b q) (ha : 7 < a) (hv : 0 ≤ v ∧ v ≤ Z 1 s)
    (k : ∀ g, Fr (nOf s a b) h g → SV g Z s → SB g s → RW g (zmt Z q s v) s a b q → Q g (.inl none)) : AC mX4_bring fX4_bring loX4_bring 0 0 h [vr (4, s, 0), vr (a, b, 0), vi v] Q := by
  have b1 := K.b1
  obtain ⟨r1, r2, r3⟩ := R.1
  have zU : ∀ n, zSv (zmtU Z q s n) Z := fun n => zSv.off (fun j hj => zmtU_o hj n)
  have zD : ∀ n, zSv (zmtD (zmtU Z q s (v - Z 21 q).toNat) q s n) Z := fun n => zSv.off (fun j hj => (zmtD_o hj n).trans (zmtU_o hj _))
  have u21 : ∀ n, zmtU Z q s n 21 q = Z 21 q + (n : Int) := fun n => zmtU_21 (r := (q : Int)) n
  have d21 : ∀ n, zmtD (zmtU Z q s (v - Z 21 q).toNat) q s n 21 q = Z 21 q + ((v - Z 21 q).toNat : Int) - (n : Int) := fun n => by
    have := zmtD_21 (Z := zmtU Z q s (v - Z 21 q).toNat) (r := (q : Int)) (s := s) n
    rw [Int.toNat_natCast, u21] at this
    exact this
  refine AC.mk (by decide) (Nat.le_of_ble_eq_true rfl) ?_
  have lq : ∀ (m i : Nat) (g : AH), i ≤ (Z 21 q - v).toNat → (Z 21 q - v).toNat ≤ i + m → Fr (nOf s a b) h g → SV g Z s → SB g s → RW g (zmtD (zmtU Z q s (v - Z 21 q).toNat) q s i) s a b q →
      AW mX4_bring fX4_bring loX4_bring 0 0 Q 0 0 30 g [(3, vi (i : Int)), (0, vr (4, s, 0)), (1, vr (a, b, 0)), (2, vi v)] [] := by
    intro m
    induction m with
    | zero =>
      intro i g h1 h2 F S B R
      have e : (Z 21 q - v).toNat = i := by omega
      have W := S.1
      have St := R.2.1
      have rv := R.1.1
      rw [d21] at rv
      refine AW.iload_n dX4_bring_30 rfl ?_
      refine AW.bipush dX4_bring_31 bp_24 (by decide) ?_
      refine AW.icmp_ge (tgt := 56) dX4_bring_33 rfl (fun c_33 => ?_) (fun c_33 => ?_)
      · refine AW.vret dX4_bring_56 rfl ?_
        unfold zmt at k
        rw [Int.toNat_natCast, e] at k
        exact k g F S B R
      · refine AW.aload_n dX4_bring_36 rfl ?_
        refine AW.getIE (j := 0) St.o dX4_bring_37 lkX4_124 rfl rfl inC6 rfl (by exact rv) ?_
        refine AW.iload_n dX4_bring_40 rfl ?_
        refine AW.icmp_le (tgt := 56) dX4_bring_41 rfl (fun c_41 => ?_) (fun c_41 => ?_)
        · refine AW.vret dX4_bring_56 rfl ?_
          unfold zmt at k
          rw [Int.toNat_natCast, e] at k
          exact k g F S B R
        · exact absurd c_41 (by omega)
    | succ m ih =>
      intro i g h1 h2 F S B R
      by_cases e : i = (Z 21 q - v).toNat
      · exact ih i g h1 (by omega) F S B R
      have W := S.1
      have St := R.2.1
      have rv := R.1.1
      rw [d21] at rv
      have e0 : (v - Z 21 q).toNat = 0 := by omega
      refine AW.iload_n dX4_bring_30 rfl ?_
      refine AW.bipush dX4_bring_31 bp_24 (by decide) ?_
      refine AW.icmp_ge (tgt := 56) dX4_bring_33 rfl (fun c_33 => ?_) (fun c_33 => ?_)
      · exact absurd c_33 (by omega)
      · refine AW.aload_n dX4_bring_36 rfl ?_
        refine AW.getIE (j := 0) St.o dX4_bring_37 lkX4_124 rfl rfl inC6 rfl (by exact rv) ?_
        refine AW.iload_n dX4_bring_40 rfl ?_
        refine AW.icmp_le (tgt := 56) dX4_bring_41 rfl (fun c_41 => ?_) (fun c_41 => ?_)
        · exact absurd c_41 (by omega)
        · refine AW.aload_n dX4_bring_44 rfl ?_
          refine AW.aload_n dX4_bring_45 rfl ?_
          refine AW.iconst dX4_bring_46 (by decide) ?_
          refine AW.callV (as := [vq _, vi _]) dX4_bring_47 rfl rfl rfl okX4_carry lkX4_129 W.o rfl rfl rfl rfl rfl rfl rfl (sX4_carry (v := (Z 21 q - (i : Int)).toNat) (Z := zmtD (zmtU Z q s (v - Z 21 q).toNat) q s i) (S.z (zD i)) (K.c (zD i)) B R ha (Or.inl rfl) (by omega) (by rw [zD i 1 rfl]; omega) (by rw [d21, if_pos rfl, e0]; omega) (fun g' F' S' B' R' => (AW.k0 ?_)))
          refine AW.iincB dX4_bring_50 rfl rfl (by omega) ?_
          refine AW.goto (tgt := 30) dX4_bring_53 rfl ?_
          refine AW.locs [(3, vi ((i + 1 : Nat) : Int)), (0, vr (4, s, 0)), (1, vr (a, b, 0)), (2, vi v)] ⟨rfl, rfl, rfl, rfl, trivial⟩ (ih (i + 1) g' (by omega) (by omega) (F.tr F') (S'.z (fun j hj => (zD i j hj).symm)) B' ?_)
          rw [zmtD_s]
          rw [Int.toNat_natCast, u21, e0, show Z 21 q + ((0 : Nat) : Int) - (i : Int) = ((Z 21 q - (i : Int)).toNat : Int) by omega, ← e0]
          exact R'
  have lp : ∀ (m i : Nat) (g : AH), i ≤ (v - Z 21 q).toNat → (v - Z 21 q).toNat ≤ i + m → Fr (nOf s a b) h g → SV g Z s → SB g s → RW g (zmtU Z q s i) s a b q →
      AW mX4_bring fX4_bring loX4_bring 0 0 Q 0 0 2 g [(3, vi (i : Int)), (0, vr (4, s, 0)), (1, vr (a, b, 0)), (2, vi v)] [] := by
    intro m
    induction m with
    | zero =>
      intro i g h1 h2 F S B R
      have e : (v - Z 21 q).toNat = i := by omega
      have W := S.1
      have St := R.2.1
      have rv := R.1.1
      rw [u21] at rv
      refine AW.iload_n dX4_bring_2 rfl ?_
      refine AW.bipush dX4_bring_3 bp_24 (by decide) ?_
      refine AW.icmp_ge (tgt := 28) dX4_bring_5 rfl (fun c_5 => ?_) (fun c_5 => ?_)
      · exact absurd c_5 (by omega)
      · refine AW.aload_n dX4_bring_8 rfl ?_
        refine AW.getIE (j := 0) St.o dX4_bring_9 lkX4_124 rfl rfl inC6 rfl (by exact rv) ?_
        refine AW.iload_n dX4_bring_12 rfl ?_
        refine AW.icmp_ge (tgt := 28) dX4_bring_13 rfl (fun c_13 => ?_) (fun c_13 => ?_)
        · refine AW.iconst dX4_bring_28 (by decide) ?_
          refine AW.istore_n dX4_bring_29 rfl ?_
          exact AW.locs [(3, vi ((0 : Nat) : Int)), (0, vr (4, s, 0)), (1, vr (a, b, 0)), (2, vi v)] ⟨rfl, rfl, rfl, rfl, trivial⟩ (lq (Z 21 q - v).toNat 0 g (by omega) (by omega) F S B (by rw [e]; exact R))
        · exact absurd c_13 (by omega)
    | succ m ih =>
      intro i g h1 h2 F S B R
      by_cases e : i = (v - Z 21 q).toNat
      · exact ih i g h1 (by omega) F S B R
      have W := S.1
      have St := R.2.1
      have rv := R.1.1
      rw [u21] at rv
      refine AW.iload_n dX4_bring_2 rfl ?_
      refine AW.bipush dX4_bring_3 bp_24 (by decide) ?_
      refine AW.icmp_ge (tgt := 28) dX4_bring_5 rfl (fun c_5 => ?_) (fun c_5 => ?_)
      · exact absurd c_5 (by omega)
      · refine AW.aload_n dX4_bring_8 rfl ?_
        refine AW.getIE (j := 0) St.o dX4_bring_9 lkX4_124 rfl rfl inC6 rfl (by exact rv) ?_
        refine AW.iload_n dX4_bring_12 rfl ?_
        refine AW.icmp_ge (tgt := 28) dX4_bring_13 rfl (fun c_13 => ?_) (fun c_13 => ?_)
        · exact absurd c_13 (by omega)
        · refine AW.aload_n dX4_bring_16 rfl ?_
          refine AW.aload_n dX4_bring_17 rfl ?_
          refine AW.iconst dX4_bring_18 (by decide) ?_
          refine AW.callV (as := [vq _, vi _]) dX4_bring_19 rfl rfl rfl okX4_carry lkX4_129 W.o rfl rfl rfl rfl rfl rfl rfl (sX4_carry (v := (Z 21 q + (i : Int) + 1).toNat) (Z := zmtU Z q s i) (S.z (zU i)) (K.c (zU i)) B R ha (Or.inr rfl) (by omega) (by rw [zU i 1 rfl]; omega) (by rw [u21, if_neg (by decide)]; omega) (fun g' F' S' B' R' => (AW.k0 ?_)))
          refine AW.iincB dX4_bring_22 rfl rfl (by omega) ?_
          refine AW.goto (tgt := 2) dX4_bring_25 rfl ?_
          refine AW.locs [(3, vi ((i + 1 : Nat) : Int)), (0, vr (4, s, 0)), (1, vr (a, b, 0)), (2, vi v)] ⟨rfl, rfl, rfl, rfl, trivial⟩ (ih (i + 1) g' (by omega) (by omega) (F.tr F') (S'.z (fun j hj => (zU i j hj).symm)) B' ?_)
          rw [zmtU_s, Int.toNat_natCast, show Z 21 q + (i : Int) + 1 = ((Z 21 q + (i : Int) + 1).toNat : Int) by omega]
          exact R'
  refine AW.iconst dX4_bring_0 (by decide) ?_
  refine AW.istore_n dX4_bring_1 rfl ?_
  exact AW.locs [(3, vi ((0 : Nat) : Int)), (0, vr (4, s, 0)), (1, vr (a, b, 0)), (2, vi v)] ⟨rfl, rfl, rfl, rfl, trivial⟩ (lp (v - Z 21 q).toNat 0 h (by omega) (by omega) Fr.rf S B R)
end R5
