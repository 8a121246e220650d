/-! ===== the law: its start ===== -/
section I3
variable {Q : AH → AO → Prop} {h g H : AH} {Z Y : ZT} {c b L i k len : Nat} {mc ms bc bs : Nat} {P : Nat → Prop}
theorem aN_la {i j k len : Nat} (hij : ¬ j = i) : hT (aN h (la i) k len) (la j) = hT h (la j) := by rw [hT_aN, if_neg (fun z => hij (congrArg (fun n : Nm => n.2.2) z))]
theorem aN_sf {n : Nm} : hT (aN h n k len) n = some (k, len) := by rw [hT_aN, if_pos rfl]
/-- cells that hold zeros -/
def Zr (P : Nat → Prop) (h : AH) : Prop := ∀ j, P j → (∀ i, hI h (la j) i = 0) ∧ ∀ i, hL h (la j) i = 0
theorem Zr.n (z : Zr P h) : Zr (fun j => P j ∨ j = i) (aN h (la i) k len) := fun j hj => by
  by_cases e : j = i
  · subst e
    exact ⟨fun x => by rw [hI_aN, if_pos rfl], fun x => by rw [hL_aN, if_pos rfl]⟩
  · have ne : ¬ la j = la i := fun z => e (congrArg (fun n : Nm => n.2.2) z)
    have q := z j (hj.resolve_right e)
    exact ⟨fun x => by rw [hI_aN, if_neg ne]; exact q.1 x, fun x => by rw [hL_aN, if_neg ne]; exact q.2 x⟩
/-- the law's arrays, new -/
def STn (g H : AH) : Prop := LT H ∧ Fr (fun n => ¬ n.1 = 2) g H ∧ (∀ i, hI H (la 4) i = 0) ∧ (∀ i, hL H (la 1) i = 0) ∧ ∀ i, hL H (la 7) i = 0
theorem STn_ok : STn g (aN (aN (aN (aN (aN (aN (aN (aN (aN (aN (aN g (la 1) 22 13) (la 2) 20 13) (la 3) 20 12) (la 4) 20 4) (la 5) 20 50) (la 6) 20 10) (la 7) 22 64) (la 8) 20 9) (la 9) 20 2) (la 10) 20 36) (la 11) 22 39) := by
  have z := (Zr.n (i := 11) (k := 22) (len := 39) (Zr.n (i := 10) (k := 20) (len := 36) (Zr.n (i := 9) (k := 20) (len := 2) (Zr.n (i := 8) (k := 20) (len := 9) (Zr.n (i := 7) (k := 22) (len := 64) (Zr.n (i := 6) (k := 20) (len := 10) (Zr.n (i := 5) (k := 20) (len := 50) (Zr.n (i := 4) (k := 20) (len := 4) (Zr.n (i := 3) (k := 20) (len := 12) (Zr.n (i := 2) (k := 20) (len := 13) (Zr.n (i := 1) (k := 22) (len := 13) (fun j (hj : False) => hj.elim : Zr (fun _ => False) g))))))))))))
  have q := ((((((((((((Fr.rf.nw (fun z => z rfl)).nw (fun z => z rfl)).nw (fun z => z rfl)).nw (fun z => z rfl)).nw (fun z => z rfl)).nw (fun z => z rfl)).nw (fun z => z rfl)).nw (fun z => z rfl)).nw (fun z => z rfl)).nw (fun z => z rfl)).nw (fun z => z rfl)) : Fr (fun n => ¬ n.1 = 2) g (aN (aN (aN (aN (aN (aN (aN (aN (aN (aN (aN g (la 1) 22 13) (la 2) 20 13) (la 3) 20 12) (la 4) 20 4) (la 5) 20 50) (la 6) 20 10) (la 7) 22 64) (la 8) 20 9) (la 9) 20 2) (la 10) 20 36) (la 11) 22 39))
  refine ⟨⟨(aN_la (by decide)).trans ((aN_la (by decide)).trans ((aN_la (by decide)).trans ((aN_la (by decide)).trans ((aN_la (by decide)).trans ((aN_la (by decide)).trans ((aN_la (by decide)).trans ((aN_la (by decide)).trans ((aN_la (by decide)).trans ((aN_la (by decide)).trans (aN_sf)))))))))), (aN_la (by decide)).trans ((aN_la (by decide)).trans ((aN_la (by decide)).trans ((aN_la (by decide)).trans ((aN_la (by decide)).trans ((aN_la (by decide)).trans ((aN_la (by decide)).trans ((aN_la (by decide)).trans ((aN_la (by decide)).trans (aN_sf))))))))), (aN_la (by decide)).trans ((aN_la (by decide)).trans ((aN_la (by decide)).trans ((aN_la (by decide)).trans ((aN_la (by decide)).trans ((aN_la (by decide)).trans ((aN_la (by decide)).trans ((aN_la (by decide)).trans (aN_sf)))))))), (aN_la (by decide)).trans ((aN_la (by decide)).trans ((aN_la (by decide)).trans ((aN_la (by decide)).trans ((aN_la (by decide)).trans ((aN_la (by decide)).trans ((aN_la (by decide)).trans (aN_sf))))))), (aN_la (by decide)).trans ((aN_la (by decide)).trans ((aN_la (by decide)).trans ((aN_la (by decide)).trans ((aN_la (by decide)).trans ((aN_la (by decide)).trans (aN_sf)))))), (aN_la (by decide)).trans ((aN_la (by decide)).trans ((aN_la (by decide)).trans ((aN_la (by decide)).trans ((aN_la (by decide)).trans (aN_sf))))), (aN_la (by decide)).trans ((aN_la (by decide)).trans ((aN_la (by decide)).trans ((aN_la (by decide)).trans (aN_sf)))), (aN_la (by decide)).trans ((aN_la (by decide)).trans ((aN_la (by decide)).trans (aN_sf))), (aN_la (by decide)).trans ((aN_la (by decide)).trans (aN_sf)), (aN_la (by decide)).trans (aN_sf), aN_sf⟩, q, (z 4 (by simp)).1, (z 1 (by simp)).2, (z 7 (by simp)).2⟩
theorem Z00_z : Z00 (zini (fun _ _ => 0) 4608) := by
  refine ⟨fun j hj h5 i => ?_, fun i hi => ?_, fun i => ?_⟩
  · unfold zini; rw [if_neg (fun w => h5 w.1)]
  · unfold zini; rw [if_pos ⟨rfl, hi⟩]
  · unfold zini
    split
    · decide
    · show (-1 : Int) ≤ 0 ∧ (0 : Int) ≤ 25
      decide
theorem IV_0 (Z0 : Z00 Z) (S : SIM g (zs (zs Z 48 0 0) 0 0 (Z 0 0 + 1)) 0) (I : ZI (zs (zs Z 48 0 0) 0 0 (Z 0 0 + 1))) (W : WW g) (T : LT g) (hS : hT g nS = some (40, L)) (hB : ∀ k, hT g (nSb k) = none ∧ hT g (nVb k) = none) (z4 : ∀ i, hI g (la 4) i = 0) (z1 : ∀ i, hL g (la 1) i = 0) (z7 : ∀ i, hL g (la 7) i = 0) : IV L g (zs (zs Z 48 0 0) 0 0 (Z 0 0 + 1)) 0 0 ∧ JV g (zs (zs Z 48 0 0) 0 0 (Z 0 0 + 1)) := by
  have y0 : zs (zs Z 48 0 0) 0 0 (Z 0 0 + 1) 0 0 = 1 := by rw [zs_eq rfl rfl, Z0.1 0 (by decide) (by decide)]; rfl
  have y : ∀ j, ¬ j = 0 → ¬ j = 48 → j < 49 → ¬ j = 5 → ∀ i, zs (zs Z 48 0 0) 0 0 (Z 0 0 + 1) j i = 0 := fun j h0 h48 hj h5 i => by rw [zs_oj (beq_ne h0), zs_oj (beq_ne h48)]; exact Z0.1 j hj h5 i
  have y5 : ∀ i, i < 4608 → zs (zs Z 48 0 0) 0 0 (Z 0 0 + 1) 5 i = -1 := fun i hi => by rw [zs_oj rfl, zs_oj rfl]; exact Z0.2.1 i hi
  generalize zs (zs Z 48 0 0) 0 0 (Z 0 0 + 1) = Y at *
  have e1 : Y 1 0 = 0 := y 1 (by decide) (by decide) (by decide) (by decide) 0
  have e2 : Y 2 0 = 0 := y 2 (by decide) (by decide) (by decide) (by decide) 0
  have e19 : Y 19 0 = 0 := y 19 (by decide) (by decide) (by decide) (by decide) 0
  have e28 : Y 28 0 = 0 := y 28 (by decide) (by decide) (by decide) (by decide) 0
  refine ⟨⟨S, I, W, T, hS, fun k _ => hB k, ⟨y0, y 13 (by decide) (by decide) (by decide) (by decide) 0, y 11 (by decide) (by decide) (by decide) (by decide) 0, fun r => ?_, fun t => ?_⟩, ⟨by omega, by omega, fun a h1 h2 => absurd h2 (by omega)⟩⟩, ⟨⟨⟨(z4 0).trans e1.symm, (z4 1).trans e2.symm⟩, fun a f ha hf => ?_, fun a h1 h2 => absurd h2 (by omega), fun f hf => absurd hf (by omega)⟩, ⟨(z4 2).trans e19.symm, by omega, by omega⟩, ⟨(z4 3).trans e28.symm, by omega, by omega⟩, fun r hr => absurd hr (by omega), ⟨fun k hk => absurd hk (by omega), fun k k' hk => absurd hk (by omega)⟩, fun r w _ _ _ _ => z7 _⟩⟩
  · rw [y 23 (by decide) (by decide) (by decide) (by decide)]; exact ⟨Int.le_refl _, Int.le_refl _⟩
  · rw [y 38 (by decide) (by decide) (by decide) (by decide)]; exact ⟨Int.le_refl _, Int.le_refl _⟩
  · have ea : a = 0 := by omega
    subst ea
    rw [z1]
    have q : stt (0 : Int64) (f : Int) = ((0 : Nat) : Int) := stt_bits hf (by decide) (fun i hi => by simp)
    rw [q]
    unfold zdg
    rw [if_pos (y5 _ (by omega))]
    rfl
set_option maxHeartbeats 4000000 in
theorem kL_law (hS : hT h nS = some (40, L)) (hL9 : L < 2147483648) (W7 : WW h) (hN : ∀ n : Nm, n.1 < 98 → hT h n = none) (k : ∀ g, Q g (.inl (some (vi 1)))) : AW mL_law fL_law loL_law mc ms Q 40000 300000 0 h (largs 0 [vr nS]) [] := by
  refine AW.new (kc := 8) mF (hN _ (by decide)) dL_law_0 rfl inC8 lkL_9 insX7 iniX7 rfl rfl ?_
  refine AW.dup dL_law_3 rfl ?_
  refine AW.callI (as := []) dL_law_4 rfl rfl rfl okX7_init lkL_179 rfl rfl rfl rfl rfl (kX7_n (fun x => hN _ (show (3 : Nat) < 98 by decide)) (fun x => hN _ (show (12 : Nat) < 98 by decide)) (fun g1 I1 => AW.k0 ?_))
  have nf : ∀ a b i : Nat, 4 ≤ a → a ≤ 14 → hT h (a, b, i) = none := fun a b i _ h2 => hN _ (show a < 98 by omega)
  refine AW.gen (P := fun g => (∀ Z, Z00 Z → SIM g Z 0) ∧ Fr nMo h g) ⟨fun Z Z0 => (SIM_0 (h := h) Z0 nf I1).1, (SIM_0 (h := h) Z00_z nf I1).2⟩ (fun g ⟨S1, F1⟩ => ?_)
  have Tg : ∀ j : Nat, hT g (la j) = none := fun j => by rw [F1.T (Or.inl (show (2 : Nat) < 3 by decide))]; exact hN _ (show (2 : Nat) < 98 by decide)
  refine AW.astore_n dL_law_7 rfl ?_
  refine AW.bipush dL_law_8 bp_13 (by decide) ?_
  refine AW.newa (t := 2) (N := 13) (la 1) (Tg 1) dL_law_10 (by decide) rfl arc_long rfl (by decide) (by decide) (by intro C e; cases e) rfl rfl ?_
  refine AW.astore_n dL_law_12 rfl ?_
  refine AW.bipush dL_law_13 bp_13 (by decide) ?_
  refine AW.newa (t := 0) (N := 13) (la 2) ((aN_la (by decide)).trans (Tg 2)) dL_law_15 (by decide) rfl arc_int rfl (by decide) (by decide) (by intro C e; cases e) rfl rfl ?_
  refine AW.astore_n dL_law_17 rfl ?_
  refine AW.bipush dL_law_18 bp_12 (by decide) ?_
  refine AW.newa (t := 0) (N := 12) (la 3) ((aN_la (by decide)).trans ((aN_la (by decide)).trans (Tg 3))) dL_law_20 (by decide) rfl arc_int rfl (by decide) (by decide) (by intro C e; cases e) rfl rfl ?_
  refine AW.astore dL_law_22 rfl ?_
  refine AW.iconst dL_law_24 (by decide) ?_
  refine AW.newa (t := 0) (N := 4) (la 4) ((aN_la (by decide)).trans ((aN_la (by decide)).trans ((aN_la (by decide)).trans (Tg 4)))) dL_law_25 (by decide) rfl arc_int rfl (by decide) (by decide) (by intro C e; cases e) rfl rfl ?_
  refine AW.astore dL_law_27 rfl ?_
  refine AW.bipush dL_law_29 bp_50 (by decide) ?_
  refine AW.newa (t := 0) (N := 50) (la 5) ((aN_la (by decide)).trans ((aN_la (by decide)).trans ((aN_la (by decide)).trans ((aN_la (by decide)).trans (Tg 5))))) dL_law_31 (by decide) rfl arc_int rfl (by decide) (by decide) (by intro C e; cases e) rfl rfl ?_
  refine AW.astore dL_law_33 rfl ?_
  refine AW.bipush dL_law_35 bp_10 (by decide) ?_
  refine AW.newa (t := 0) (N := 10) (la 6) ((aN_la (by decide)).trans ((aN_la (by decide)).trans ((aN_la (by decide)).trans ((aN_la (by decide)).trans ((aN_la (by decide)).trans (Tg 6)))))) dL_law_37 (by decide) rfl arc_int rfl (by decide) (by decide) (by intro C e; cases e) rfl rfl ?_
  refine AW.astore dL_law_39 rfl ?_
  refine AW.bipush dL_law_41 bp_64 (by decide) ?_
  refine AW.newa (t := 2) (N := 64) (la 7) ((aN_la (by decide)).trans ((aN_la (by decide)).trans ((aN_la (by decide)).trans ((aN_la (by decide)).trans ((aN_la (by decide)).trans ((aN_la (by decide)).trans (Tg 7))))))) dL_law_43 (by decide) rfl arc_long rfl (by decide) (by decide) (by intro C e; cases e) rfl rfl ?_
  refine AW.astore dL_law_45 rfl ?_
  refine AW.bipush dL_law_47 bp_9 (by decide) ?_
  refine AW.newa (t := 0) (N := 9) (la 8) ((aN_la (by decide)).trans ((aN_la (by decide)).trans ((aN_la (by decide)).trans ((aN_la (by decide)).trans ((aN_la (by decide)).trans ((aN_la (by decide)).trans ((aN_la (by decide)).trans (Tg 8)))))))) dL_law_49 (by decide) rfl arc_int rfl (by decide) (by decide) (by intro C e; cases e) rfl rfl ?_
  refine AW.astore dL_law_51 rfl ?_
  refine AW.iconst dL_law_53 (by decide) ?_
  refine AW.newa (t := 0) (N := 2) (la 9) ((aN_la (by decide)).trans ((aN_la (by decide)).trans ((aN_la (by decide)).trans ((aN_la (by decide)).trans ((aN_la (by decide)).trans ((aN_la (by decide)).trans ((aN_la (by decide)).trans ((aN_la (by decide)).trans (Tg 9))))))))) dL_law_54 (by decide) rfl arc_int rfl (by decide) (by decide) (by intro C e; cases e) rfl rfl ?_
  refine AW.astore dL_law_56 rfl ?_
  refine AW.bipush dL_law_58 bp_36 (by decide) ?_
  refine AW.newa (t := 0) (N := 36) (la 10) ((aN_la (by decide)).trans ((aN_la (by decide)).trans ((aN_la (by decide)).trans ((aN_la (by decide)).trans ((aN_la (by decide)).trans ((aN_la (by decide)).trans ((aN_la (by decide)).trans ((aN_la (by decide)).trans ((aN_la (by decide)).trans (Tg 10)))))))))) dL_law_60 (by decide) rfl arc_int rfl (by decide) (by decide) (by intro C e; cases e) rfl rfl ?_
  refine AW.astore dL_law_62 rfl ?_
  refine AW.bipush dL_law_64 bp_39 (by decide) ?_
  refine AW.newa (t := 2) (N := 39) (la 11) ((aN_la (by decide)).trans ((aN_la (by decide)).trans ((aN_la (by decide)).trans ((aN_la (by decide)).trans ((aN_la (by decide)).trans ((aN_la (by decide)).trans ((aN_la (by decide)).trans ((aN_la (by decide)).trans ((aN_la (by decide)).trans ((aN_la (by decide)).trans (Tg 11))))))))))) dL_law_66 (by decide) rfl arc_long rfl (by decide) (by decide) (by intro C e; cases e) rfl rfl ?_
  refine AW.astore dL_law_68 rfl ?_
  refine AW.gen (P := fun H => STn g H) STn_ok (fun H ⟨T, F2, z4, z1, z7⟩ => ?_)
  have Z0 := Z00_z
  generalize zini (fun _ _ => 0) 4608 = Z at Z0
  have n2 : ∀ n : Nm, nIn n → ¬ n.1 = 2 := fun n hn z => hn (Or.inl (by omega))
  have S : SIM H Z 0 := SIM.mo (F2.mo n2) (S1 Z Z0)
  have I : ZI Z := ZI_0 Z0
  have z00 : Z 0 0 = 0 := Z0.1 0 (by decide) (by decide) 0
  have hF := S.f
  have HT : ∀ n : Nm, 15 ≤ n.1 → hT H n = hT h n := fun n hn => by rw [F2.T (show ¬ n.1 = 2 by omega), F1.T (Or.inr hn)]
  refine AW.less (bc' := 39000) (bs' := 290000) (by decide) (by decide) ?_
  refine AW.aload_n dL_law_70 rfl ?_
  refine AW.iconst dL_law_71 (by decide) ?_
  refine AW.iconst dL_law_72 (by decide) ?_
  refine AW.iconst dL_law_73 (by decide) ?_
  refine AW.iconst dL_law_74 (by decide) ?_
  refine AW.callSH (as := [vq _, vi _, vi _, vi _, vi _]) dL_law_75 rfl rfl rfl okL_asks lkL_119 rfl rfl rfl (by omega) (by omega) rfl (kL_asks_head hF (sX7_head S (fun _ => ⟨-300, by decide, (AW.k1 ?_)⟩) (fun z => absurd z.2 (by rw [z00]; decide))))
  refine AW.sipush dL_law_78 sp_m300 (by decide) ?_
  refine AW.icmp_neF (tgt := 95) dL_law_81 rfl (by rfl) ?_
  refine AW.aload_n dL_law_84 rfl ?_
  refine AW.callV (as := []) dL_law_85 rfl rfl rfl okX7_schema lkL_180 hF rfl rfl rfl rfl (leb (by omega)) (leb (by omega)) rfl (jX7_schema S I (fun z => absurd z (by omega)) (fun _ g5 S5 I5 F5 => (AW.k1 ?_)))
  refine AW.top (y := 0) z00 ?_
  refine AW.if_neF (tgt := 95) dL_law_88 rfl (by rfl) ?_
  refine AW.iconst dL_law_91 (by decide) ?_
  refine AW.goto (tgt := 96) dL_law_92 rfl ?_
  refine AW.istore dL_law_96 rfl ?_
  refine AW.iconst dL_law_98 (by decide) ?_
  refine AW.istore dL_law_99 rfl ?_
  refine AW.locs ((14, vi ((0 : Nat) : Int)) :: (13, vi 1) :: lla) ⟨rfl, rfl, rfl, rfl, rfl, rfl, rfl, rfl, rfl, rfl, rfl, rfl, rfl, rfl, rfl, trivial⟩ ?_
  obtain ⟨w1, w2, w3⟩ := F5.wt nMo_w
  have G : ∀ n : Nm, 15 ≤ n.1 → hT g5 n = hT h n := fun n hn => by rw [F5.T (Or.inr hn), HT n hn]
  have WH : WW g5 := fun i hi => by
    rw [G _ (show 15 ≤ 98 by decide), G _ (show 15 ≤ 98 by decide)]
    exact W7 i hi
  obtain ⟨J, V⟩ := IV_0 Z0 S5 I5 WH (w2 T) ((G _ (by decide)).trans hS) (fun k => ⟨(G _ (show 15 ≤ 96 by decide)).trans (hN _ (show 96 < 98 by decide)), (G _ (show 15 ≤ 96 by decide)).trans (hN _ (show 96 < 98 by decide))⟩) (fun i => (F5.I (nMo_w _ (Or.inl rfl)) i).trans (z4 i)) (fun i => (F5.L (nMo_w _ (Or.inl rfl)) i).trans (z1 i)) (fun i => (F5.L (nMo_w _ (Or.inl rfl)) i).trans (z7 i))
  refine AW.less (bc' := 100 + 560 * 58) (bs' := 1000 + 3900 * 58) (by decide) (by decide) ?_
  exact law_lp hL9 (fun h' Z' c' b' hc' J' V' => law_end J' V' (by omega) k) 58 0 0 0 g5 _ (by decide) (by decide) (by decide) J V
end I3
