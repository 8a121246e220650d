/-! ===== the relation: the waiting drops carried out ===== -/
section G2
variable {Q : AH → AO → Prop} {h g G : AH} {Z Y : ZT} {s d c : Nat} {A : Nat → Nat}
theorem vDro' {F : Int} (hs : s < 4) (K : ZS Z s) (hd : Z 1 s + 1 = (d : Int)) (hd2 : d < 24) (hF : 0 ≤ F ∧ F < Z 2 s) : VS Z (zdo Z s F) s d 5 F (-1) (-1) (-1) 0 (Z 2 s) (fun f => if (f : Int) = F then -1 else Z 5 (48 * (24 * s + (d - 1)) + f)) (fun f => Z 6 (48 * (24 * s + (d - 1)) + f)) := by
  have := vDro (k0 := Z 48 0) hs K hd hd2 K.b2.2 hF
  rw [zs_self] at this
  exact this
/-- inside the loop over the waiting drops -/
def TW (A : Nat → Nat) (h0 : AH) (Z : ZT) (s c i : Nat) (g : AH) : Prop :=
  SIMq A s g (zlaS Z s i).1 c ∧ hI g (4, s, 0) 1 = (zlaS Z s i).2 ∧ (∀ k : Nat, (k : Int) < Z 11 s → hI g (4, s, 6) k = (zlaS Z s i).1 12 (48 * s + k)) ∧ (∀ k : Nat, 0 ≤ hI g (4, s, 6) k ∧ hI g (4, s, 6) k < 46)
  ∧ ((zlaS Z s i).1 11 = Z 11 ∧ (zlaS Z s i).1 0 = Z 0) ∧ (∀ k : Nat, ((k : Int) < (zlaS Z s i).2 ∨ (i ≤ k ∧ (k : Int) < Z 11 s)) → (0 ≤ (zlaS Z s i).1 12 (48 * s + k) ∧ (zlaS Z s i).1 12 (48 * s + k) < (zlaS Z s i).1 2 s) ∧ ¬ (zlaS Z s i).1 5 (48 * (24 * s + ((zlaS Z s i).1 1 s).toNat) + ((zlaS Z s i).1 12 (48 * s + k)).toNat) = -1)
  ∧ (∀ k k' : Nat, ((k : Int) < (zlaS Z s i).2 ∨ (i ≤ k ∧ (k : Int) < Z 11 s)) → ((k' : Int) < (zlaS Z s i).2 ∨ (i ≤ k' ∧ (k' : Int) < Z 11 s)) → (zlaS Z s i).1 12 (48 * s + k) = (zlaS Z s i).1 12 (48 * s + k') → k = k')
  ∧ Fr nMo h0 g ∧ (∀ f : Nat, ¬ zhu (zlaS Z s i).1 s f = 0 ↔ ¬ zhu Z s f = 0)
/-- a waiting drop carried out -/
theorem X_to {h0 : AH} {Zi : ZT} {ji F : Int} {i : Nat} (T1 : SIMq A s g Zi c) (K1 : ZS Zi s) (T2 : hI g (4, s, 0) 1 = ji) (T3 : ∀ k : Nat, (k : Int) < Z 11 s → hI g (4, s, 6) k = Zi 12 (48 * s + k)) (T4 : ∀ k : Nat, 0 ≤ hI g (4, s, 6) k ∧ hI g (4, s, 6) k < 46)
    (T5 : Zi 11 = Z 11) (T50 : Zi 0 = Z 0) (T6 : ∀ k : Nat, ((k : Int) < ji ∨ (i ≤ k ∧ (k : Int) < Z 11 s)) → (0 ≤ Zi 12 (48 * s + k) ∧ Zi 12 (48 * s + k) < Zi 2 s) ∧ ¬ Zi 5 (48 * (24 * s + (Zi 1 s).toNat) + (Zi 12 (48 * s + k)).toNat) = -1)
    (T7 : ∀ k k' : Nat, ((k : Int) < ji ∨ (i ≤ k ∧ (k : Int) < Z 11 s)) → ((k' : Int) < ji ∨ (i ≤ k' ∧ (k' : Int) < Z 11 s)) → Zi 12 (48 * s + k) = Zi 12 (48 * s + k') → k = k')
    (T8 : Fr nMo h0 g) (T9 : ∀ f : Nat, ¬ zhu Zi s f = 0 ↔ ¬ zhu Z s f = 0) (BIi : BI Zi) (hs : (s : Int) < Z 0 0) (hd : Zi 1 s + 1 = (d : Int)) (hd2 : d < 24) (eFF : Zi 12 (48 * s + i) = F) (fF : 0 ≤ F ∧ F < Zi 2 s) (f5 : ¬ Zi 5 (48 * (24 * s + (Zi 1 s).toNat) + F.toNat) = -1) (hji : 0 ≤ ji ∧ ji ≤ i) (hi : (i : Int) < Z 11 s)
    (n1 : (zlaS Z s (i + 1)).1 = zdo Zi s F) (n2 : (zlaS Z s (i + 1)).2 = ji) (hu : zhu Zi s F = 0) : TW A h0 Z s c (i + 1) (cE g s d 5 F (-1) (-1) (-1) 0) := by
  have zz := T1.zz
  have b1 := K1.b1
  have b2 := K1.b2
  have V := vDro' (F := F) (by rw [T50] at zz; omega) K1 hd hd2 fF
  have hdn : (Zi 1 s).toNat = d - 1 := by omega
  rw [hdn] at f5
  obtain ⟨P1, P2⟩ := genD (F := F) T1 (by rw [T50]; exact hs) hd.symm hd2 V fF f5 (fun z => absurd rfl z)
  have hu2 := drop_hu (F := F) BIi.2.2.2.1 hd.symm hd2 V ⟨fF.1, by omega⟩ hu
  obtain ⟨⟨c1, c11, c2⟩, -, -, -, -, -, c6, F3⟩ := P2
  obtain ⟨⟨v1, v2⟩, -, -, vd, -, -, -, vo⟩ := V
  have o : ∀ j, inV j = false → zdo Zi s F j = Zi j := vo
  unfold TW
  rw [n1, n2, o 11 rfl, o 0 rfl, o 12 rfl, v2, v1]
  refine ⟨P1, by rw [c11]; exact T2, fun k hk => by rw [c6]; exact T3 k hk, fun k => by rw [c6]; exact T4 k, ⟨T5, T50⟩, fun k hk => ?_, fun k k' hk hk' => T7 k k' (by omega) (by omega), ?_, fun f => by rw [hu2]; exact T9 f⟩
  · obtain ⟨t1, t2⟩ := T6 k (by omega)
    refine ⟨t1, ?_⟩
    rw [Int.toNat_natCast, (vd _ (by omega)).1]
    rw [hdn] at t2
    have hne : ¬ Zi 12 (48 * s + k) = F := fun z => by
      have := T7 k i (by omega) (Or.inr ⟨by omega, hi⟩) (by rw [z, eFF])
      omega
    (try dsimp only)
    rw [if_neg (by omega)]
    exact t2
  · refine T8.tr (F3.mo (fun n z => ⟨fun y => ?_, fun y => ?_⟩))
    · have := y.1; rcases z with z | z <;> omega
    · rcases y.1 with y | y | y <;> rcases z with z | z <;> omega
set_option maxHeartbeats 1000000 in
theorem sX4_takeOffWaiting {x : Int64} (S : SIMq A 9 h Z c) (B : BI Z) (hs : (s : Int) < Z 0 0) (hx : ∀ f : Nat, f < 64 → (bt x f ↔ f < 48 ∧ ¬ zhu Z s f = 0))
    (k : ∀ g, SIMq A 9 g (zla Z s) c → Fr nMo h g → Q g (.inl (some (vi (zlaN Z s))))) : AC mX4_takeOffWaiting fX4_takeOffWaiting loX4_takeOffWaiting 138 368 h [vr (4, s, 0), vl x] Q := by
  have zz := S.zz
  have hs4 : (0 : Int) ≤ (s : Int) ∧ (s : Int) < 4 := by omega
  obtain ⟨S0, K0, SQ0⟩ := S.sc hs
  obtain ⟨q1, q2, q3, q4, q5⟩ := SQ0 (by omega)
  have W0 := S0.1
  have hj := zlaS_j (Z := Z) (s := (s : Int))
  refine AC.mk (by decide) (Nat.le_of_ble_eq_true rfl) ?_
  have lp : ∀ (m i : Nat) (g : AH), (i : Int) ≤ Z 11 s → Z 11 s ≤ i + m → TW A h Z s c i g → AW mX4_takeOffWaiting fX4_takeOffWaiting loX4_takeOffWaiting 138 368 Q (3 * m) (8 * m) 13 g [(4, vi (i : Int)), (3, vi (Z 11 s)), (0, vr (4, s, 0)), (1, vl x)] [] := by
    intro m
    induction m with
    | zero =>
      intro i g h1 h2 ⟨T1, T2, T3, T4, ⟨T5, T50⟩, T6, T7, T8, T9⟩
      have e : (Z 11 s).toNat = i := by omega
      have hji := hj i
      obtain ⟨S1, K1, -⟩ := T1.sc (s := s) (by rw [T50]; exact hs)
      have W1 := S1.1
      refine AW.iload dX4_takeOffWaiting_13 rfl ?_
      refine AW.iload_n dX4_takeOffWaiting_15 rfl ?_
      refine AW.icmp_ge (tgt := 72) dX4_takeOffWaiting_16 rfl (fun c_16 => ?_) (fun c_16 => ?_)
      · refine AW.iload_n dX4_takeOffWaiting_72 rfl ?_
        refine AW.aload_n dX4_takeOffWaiting_73 rfl ?_
        refine AW.getIE (j := 1) W1.o dX4_takeOffWaiting_74 lkX4_100 rfl rfl inC5 rfl (by exact T2) ?_
        refine AW.isubB dX4_takeOffWaiting_77 (by omega) ?_
        refine AW.iret dX4_takeOffWaiting_78 rfl ?_
        have R := SIMq.wq (Y := zs (zlaS Z s i).1 11 s (zlaS Z s i).2) T1 (Or.inr rfl) (s := s) (g := g) wqI.rf ⟨fun j h11 _ => zs_oj (beq_ne h11), fun s' h4 hne => ⟨zs_miss (fun e => hne (by omega)) rfl, fun _ _ => rfl⟩⟩ (fun _ => by rw [T2]; omega)
        have z11 : zs (zlaS Z s i).1 11 s (zlaS Z s i).2 11 s = (zlaS Z s i).2 := zs_eq rfl rfl
        have R2 := R.fin (fun _ => ⟨by rw [z11]; exact T2, by rw [z11]; omega, fun k hk => ⟨T3 k (by rw [z11] at hk; omega), T6 k (Or.inl (by rw [z11] at hk; exact hk))⟩, fun k k' hk hk' => T7 k k' (Or.inl (by rw [z11] at hk; exact hk)) (Or.inl (by rw [z11] at hk'; exact hk')), T4⟩)
        unfold zla zlaN at k
        rw [Int.toNat_natCast, e] at k
        exact k g R2 T8
      · exact absurd c_16 (by omega)
    | succ m ih =>
      intro i g h1 h2 T
      by_cases e : Z 11 s = (i : Int)
      · exact AW.less (by omega) (by omega) (ih i g h1 (by omega) T)
      obtain ⟨T1, T2, T3, T4, ⟨T5, T50⟩, T6, T7, T8, T9⟩ := T
      have hji := hj i
      obtain ⟨S1, K1, -⟩ := T1.sc (s := s) (by rw [T50]; exact hs)
      have W1 := S1.1
      have b1 := K1.b1
      have b2 := K1.b2
      have B1 : SB g s := S1.sb K1 (by rw [T2]; omega)
      have BIi := zlaS_BI B hs4 i
      obtain ⟨⟨f0, f1⟩, f5⟩ := T6 i (Or.inr ⟨by omega, by omega⟩)
      have T3i := T3 i (by omega)
      have eF : (48 * (s : Int) + (i : Int)).toNat = 48 * s + i := by omega
      have nxt := fun cc => zlaS_n (Z := Z) (s := (s : Int)) (i := i) cc
      have nxd := fun cc => zlaS_d (Z := Z) (s := (s : Int)) (i := i) cc
      rw [eF, Int.toNat_natCast] at nxt nxd
      generalize eZ : (zlaS Z s i).1 = Zi at *
      generalize eJ : (zlaS Z s i).2 = ji at *
      generalize eFF : Zi 12 (48 * s + i) = F at *
      have hxF := hx F.toNat (by omega)
      have eFn : ((F.toNat : Nat) : Int) = F := by omega
      rw [eFn] at hxF
      have t9F := T9 F.toNat
      rw [eFn] at t9F
      have keep : ¬ (¬ Zi 1 s = 23 ∧ zhu Zi s F = 0) → AW mX4_takeOffWaiting fX4_takeOffWaiting loX4_takeOffWaiting 138 368 Q (3 * (m + 1)) (8 * (m + 1)) 13 (clw g s F) [(4, vi ((i + 1 : Nat) : Int)), (3, vi (Z 11 s)), (0, vr (4, s, 0)), (1, vl x)] [] := by
        intro cc
        have nx := nxt cc
        have n1 : (zlaS Z s (i + 1)).1 = zs Zi 12 (48 * (s : Int) + ji).toNat F := by rw [nx]
        have n2 : (zlaS Z s (i + 1)).2 = ji + 1 := by rw [nx]
        have eJn : (48 * (s : Int) + ji).toNat = 48 * s + ji.toNat := by omega
        rw [eJn] at n1
        refine AW.less (by omega) (by omega) (ih (i + 1) _ (by omega) (by omega) ?_)
        have z12 : ∀ k, zs Zi 12 (48 * s + ji.toNat) F 12 (48 * s + k) = if k = ji.toNat then F else Zi 12 (48 * s + k) := fun k => by
          by_cases q : k = ji.toNat
          · rw [if_pos q, zs_eq (by omega) rfl]
          · rw [if_neg q, zs_miss (by omega) rfl]
        have c6 : ∀ k, hI (clw g s F) (4, s, 6) k = if k = ji.toNat then F else hI g (4, s, 6) k := fun k => by
          unfold clw
          rw [T2, hI_n3 rfl rfl, hI_sI]
          by_cases q : k = ji.toNat
          · rw [if_pos ⟨rfl, q⟩, if_pos q]
          · rw [if_neg (fun z => q z.2), if_neg q]
        have c0 : hI (clw g s F) (4, s, 0) 1 = ji + 1 := by
          unfold clw
          rw [hI_e rfl rfl, T2]
        unfold TW
        rw [n1, n2]
        refine ⟨T1.wq (Or.inr rfl) (wqI.w6.tr wqI.w1) ⟨fun j _ h12 => zs_oj (beq_ne h12), fun s' h4 hne => ⟨rfl, fun k hk => zs_miss (by omega) rfl⟩⟩ (fun _ => by rw [c0]; omega), c0, fun k hk => ?_, fun k => ?_, ⟨T5, T50⟩, fun k hk => ?_, fun k k' hk hk' => ?_, ?_, fun f => ?_⟩
        · rw [c6, z12, T3 k hk]
        · rw [c6]; split
          · omega
          · exact T4 k
        · rw [z12]
          split
          · exact ⟨⟨f0, f1⟩, f5⟩
          · exact T6 k (by omega)
        · rw [z12, z12]
          have d1 : ∀ k : Nat, ((k : Int) < ji + 1 ∨ (i + 1 ≤ k ∧ (k : Int) < Z 11 s)) → ¬ k = ji.toNat → Zi 12 (48 * s + k) = F → False := fun k hk hn hz => by
            have := T7 k i (by omega) (Or.inr ⟨by omega, by omega⟩) (by rw [hz, eFF])
            omega
          by_cases q : k = ji.toNat <;> by_cases q' : k' = ji.toNat
          · intro _; omega
          · rw [if_pos q, if_neg q']; intro z; exact absurd z.symm (fun y => d1 k' hk' q' y)
          · rw [if_neg q, if_pos q']; intro z; exact absurd z (fun y => d1 k hk q y)
          · rw [if_neg q, if_neg q']; exact T7 k k' (by omega) (by omega)
        · unfold clw
          exact T8.tr ((Fr.rf.wI (fun z => by rcases z with z | z <;> simp at z)).wI (fun z => by rcases z with z | z <;> simp at z))
        · rw [zhu_c (reT_zs rfl reT_r)]; exact T9 f
      refine AW.iload dX4_takeOffWaiting_13 rfl ?_
      refine AW.iload_n dX4_takeOffWaiting_15 rfl ?_
      refine AW.icmp_ge (tgt := 72) dX4_takeOffWaiting_16 rfl (fun c_16 => ?_) (fun c_16 => ?_)
      · exact absurd c_16 (by omega)
      · refine AW.iload dX4_takeOffWaiting_19 rfl ?_
        refine AW.bipush dX4_takeOffWaiting_21 bp_46 (by decide) ?_
        refine AW.icmp_ge (tgt := 72) dX4_takeOffWaiting_23 rfl (fun c_23 => ?_) (fun c_23 => ?_)
        · exact absurd c_23 (by omega)
        · refine AW.aload_n dX4_takeOffWaiting_26 rfl ?_
          refine AW.getRE (j := 8) W1.o dX4_takeOffWaiting_27 lkX4_33 rfl rfl inC5 rfl W1.r8 ?_
          refine AW.iload dX4_takeOffWaiting_30 rfl ?_
          refine AW.aldIE dX4_takeOffWaiting_32 W1.t8 (by omega) (by omega) (by exact (by rw [Int.toNat_natCast]; exact T3i : hI g (4, s, 6) ((i : Int)).toNat = F)) ?_
          refine AW.istore dX4_takeOffWaiting_33 rfl ?_
          refine AW.lload_n dX4_takeOffWaiting_35 rfl ?_
          refine AW.iload dX4_takeOffWaiting_36 rfl ?_
          refine AW.callSN (as := [vl _, vi _]) dX4_takeOffWaiting_38 rfl rfl rfl okX7_contains lkX4_69 rfl rfl rfl rfl rfl (kX7_contains (by omega) (AW.k1 ?_))
          refine AW.if_ne (tgt := 51) dX4_takeOffWaiting_41 rfl (fun c_41 => ?_) (fun c_41 => ?_)
          · have cc : ¬ (¬ Zi 1 s = 23 ∧ zhu Zi s F = 0) := by (first | exact fun z => (t9F.mpr (hxF.mp (bz_n0.mp c_41)).2) z.2 | exact fun z => z.1 (by have y := bz_n0.mp c_48; rw [S1.hd] at y; exact y))
            have kp := keep cc
            refine AW.aload_n dX4_takeOffWaiting_51 rfl ?_
            refine AW.iload dX4_takeOffWaiting_52 rfl ?_
            refine AW.callV (as := [vi _]) dX4_takeOffWaiting_54 rfl rfl rfl okX4_letWait lkX4_110 W1.o rfl rfl rfl rfl rfl rfl rfl (kX4_letWait W1 B1 (by rw [T2]; omega) (AW.k0 ?_))
            refine AW.goto (tgt := 66) dX4_takeOffWaiting_57 rfl ?_
            refine AW.iincB dX4_takeOffWaiting_66 rfl rfl (by omega) ?_
            refine AW.goto (tgt := 13) dX4_takeOffWaiting_69 rfl ?_
            exact AW.locs [(4, vi ((i + 1 : Nat) : Int)), (3, vi (Z 11 s)), (0, vr (4, s, 0)), (1, vl x)] ⟨rfl, rfl, rfl, rfl, trivial⟩ kp
          · refine AW.aload_n dX4_takeOffWaiting_44 rfl ?_
            refine AW.callV (as := []) dX4_takeOffWaiting_45 rfl rfl rfl okX4_isFull lkX4_80 W1.o rfl rfl rfl rfl rfl rfl rfl (kX4_isFull W1 B1 (AW.k1 ?_))
            refine AW.if_eq (tgt := 60) dX4_takeOffWaiting_48 rfl (fun c_48 => ?_) (fun c_48 => ?_)
            · have cd : ¬ Zi 1 s = 23 ∧ zhu Zi s F = 0 := ⟨fun y => bz_0.mp c_48 (by rw [S1.hd]; exact y), Classical.byContradiction (fun y => bz_0.mp c_41 (hxF.mpr ⟨by omega, t9F.mp y⟩))⟩
              obtain ⟨d, hd⟩ := Int.eq_ofNat_of_zero_le (show 0 ≤ Zi 1 s + 1 by omega)
              have hd2 : d < 24 := by omega
              obtain ⟨n5, n6, n7⟩ := T1.n5 (s := s) (d := d) (by omega) (by omega) hd2
              have TT := X_to T1 K1 T2 T3 T4 T5 T50 T6 T7 T8 T9 BIi hs hd hd2 eFF ⟨f0, f1⟩ f5 (by omega) (by omega) (by rw [nxd cd]) (by rw [nxd cd]) cd.2
              have kp := AW.less (bc := 3 * (m + 1) - 3) (bs := 8 * (m + 1) - 8) (by omega) (by omega) (ih (i + 1) (cE g s d 5 F (-1) (-1) (-1) 0) (by omega) (by omega) TT)
              refine AW.aload_n dX4_takeOffWaiting_60 rfl ?_
              refine AW.iload dX4_takeOffWaiting_61 rfl ?_
              refine AW.callV (as := [vi _]) dX4_takeOffWaiting_63 rfl rfl rfl okX4_takeOff lkX4_114 W1.o rfl rfl rfl rfl rfl rfl rfl (kX4_takeOff (p := 24 * s + d) W1 B1 (by omega) (by rw [S1.hd]; omega) n5 n6 n7 (AW.k0 ?_))
              refine AW.iincB dX4_takeOffWaiting_66 rfl rfl (by omega) ?_
              refine AW.goto (tgt := 13) dX4_takeOffWaiting_69 rfl ?_
              exact AW.locs [(4, vi ((i + 1 : Nat) : Int)), (3, vi (Z 11 s)), (0, vr (4, s, 0)), (1, vl x)] ⟨rfl, rfl, rfl, rfl, trivial⟩ kp
            · have cc : ¬ (¬ Zi 1 s = 23 ∧ zhu Zi s F = 0) := by (first | exact fun z => (t9F.mpr (hxF.mp (bz_n0.mp c_41)).2) z.2 | exact fun z => z.1 (by have y := bz_n0.mp c_48; rw [S1.hd] at y; exact y))
              have kp := keep cc
              refine AW.aload_n dX4_takeOffWaiting_51 rfl ?_
              refine AW.iload dX4_takeOffWaiting_52 rfl ?_
              refine AW.callV (as := [vi _]) dX4_takeOffWaiting_54 rfl rfl rfl okX4_letWait lkX4_110 W1.o rfl rfl rfl rfl rfl rfl rfl (kX4_letWait W1 B1 (by rw [T2]; omega) (AW.k0 ?_))
              refine AW.goto (tgt := 66) dX4_takeOffWaiting_57 rfl ?_
              refine AW.iincB dX4_takeOffWaiting_66 rfl rfl (by omega) ?_
              refine AW.goto (tgt := 13) dX4_takeOffWaiting_69 rfl ?_
              exact AW.locs [(4, vi ((i + 1 : Nat) : Int)), (3, vi (Z 11 s)), (0, vr (4, s, 0)), (1, vl x)] ⟨rfl, rfl, rfl, rfl, trivial⟩ kp
  have W5 := S0.1
  refine AW.aload_n dX4_takeOffWaiting_0 rfl ?_
  refine AW.getIE (j := 1) W5.o dX4_takeOffWaiting_1 lkX4_100 rfl rfl inC5 rfl (by exact q1) ?_
  refine AW.istore_n dX4_takeOffWaiting_4 rfl ?_
  refine AW.aload_n dX4_takeOffWaiting_5 rfl ?_
  refine AW.iconst dX4_takeOffWaiting_6 (by decide) ?_
  refine AW.putI (j := 1) dX4_takeOffWaiting_7 W5.o rfl rfl inC5 lkX4_100 rfl (Or.inl rfl) (Or.inl rfl) ?_
  refine AW.iconst dX4_takeOffWaiting_10 (by decide) ?_
  refine AW.istore dX4_takeOffWaiting_11 rfl ?_
  refine lp 46 0 (sI h (4, s, 0) 1 0) (by omega) (by omega) ⟨S.wq (Or.inl rfl) wqI.w1 ⟨fun _ _ _ => rfl, fun _ _ _ => ⟨rfl, fun _ _ => rfl⟩⟩ (fun _ => by rw [hI_e rfl rfl]; omega), hI_e rfl rfl, fun k hk => by rw [hI_n3 rfl rfl]; exact (q3 k hk).1, fun k => by rw [hI_n3 rfl rfl]; exact q5 k, ⟨rfl, rfl⟩, fun k hk => ?_, fun k k' hk hk' => ?_, ?_, fun _ => Iff.rfl⟩
  · have hk : (k : Int) < 0 ∨ (0 ≤ k ∧ (k : Int) < Z 11 s) := hk; exact (q3 k (by omega)).2
  · have hk : (k : Int) < 0 ∨ (0 ≤ k ∧ (k : Int) < Z 11 s) := hk; have hk' : (k' : Int) < 0 ∨ (0 ≤ k' ∧ (k' : Int) < Z 11 s) := hk'; exact q4 k k' (by omega) (by omega)
  · exact Fr.rf.wI (fun z => by rcases z with z | z <;> simp at z)
end G2
