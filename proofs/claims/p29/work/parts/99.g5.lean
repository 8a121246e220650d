/-! ===== the law's moves by movers, whole ===== -/
section G5
variable {Q : AH → AO → Prop} {h g g1 g2 g3 G : AH} {Z Y : ZT} {c b L r0 mv i : Nat} {u : Int} {mc ms bc bs : Nat}
def M3 (mv r0 : Nat) (h g : AH) : Prop := FL (fun j => j = 10) h g ∧ (∀ x, ¬ (12 * mv ≤ x ∧ x < 12 * mv + 12) → hI g (la 10) x = hI h (la 10) x) ∧ (∀ j : Nat, j < 10 → hI g (la 10) (12 * mv + j) = hI h (la 5) (10 * r0 + j)) ∧ hI g (la 10) (12 * mv + 10) = hI h (la 6) (2 * r0) ∧ hI g (la 10) (12 * mv + 11) = hI h (la 6) (2 * r0 + 1)
theorem M1.m3 (F : M1 mv r0 10 h g) : M3 mv r0 h (sI (sI g (la 10) (12 * mv + 10) (hI h (la 6) (2 * r0))) (la 10) (12 * mv + 11) (hI h (la 6) (2 * r0 + 1))) := by
  obtain ⟨q1, q2, q3⟩ := F
  refine ⟨(q1.wI rfl).wI rfl, fun x hx => ?_, fun j hj => ?_, ?_, ?_⟩
  · rw [hI_sIla, if_neg (by omega), hI_sIla, if_neg (by omega)]; exact q2 x hx
  · rw [hI_sIla, if_neg (by omega), hI_sIla, if_neg (by omega)]; exact q3 j hj
  · rw [hI_sIla, if_neg (by omega), hI_sIla, if_pos ⟨rfl, rfl⟩]
  · rw [hI_sIla, if_pos ⟨rfl, rfl⟩]
theorem M3.ft {n : Nat} (R : LR h Z r0 r0) (hn : Z 28 0 ≤ (n : Int)) (F1 : M3 mv r0 h g1) (F2 : M2 mv r0 12 g1 g2) (F3 : FR r0 g2 g3) (R3 : LR g3 (zmv Z (r0 : Int) 0 (i : Int) u) r0 r0) (F4 : FLG r0 n g3 G) : FT Z mv r0 i u h (sI (sI G (la 8) (3 * mv + 1) (r0 : Int)) (la 8) (3 * mv + 2) 1) := by
  obtain ⟨p1, p2, p3, p4, p5⟩ := F1
  obtain ⟨q1, q2, q3⟩ := F2
  obtain ⟨s1, s2, s3, s4⟩ := F3
  obtain ⟨t1, t2, t3⟩ := F4
  obtain ⟨r1, r2, r3, r4⟩ := R
  have w : FL (fun j => j = 8) G (sI (sI G (la 8) (3 * mv + 1) (r0 : Int)) (la 8) (3 * mv + 2) 1) := ((FL.rf : FL (fun j => j = 8) G G).wI rfl).wI rfl
  have e8 : ∀ x, hI g3 (la 8) x = hI h (la 8) x := fun x => by rw [s1.I (by decide), q1.I (by decide), p1.I (by decide)]
  have e10 : ∀ x, hI G (la 10) x = hI g1 (la 10) x := fun x => by rw [t1.I (by decide), s1.I (by decide), q1.I (by decide)]
  have e11 : ∀ x, hL G (la 11) x = hL g2 (la 11) x := fun x => by rw [t1.L (by decide), s1.L (by decide)]
  refine ⟨((((p1.mo (fun j e => by omega)).tr (q1.mo (fun j e => by omega))).tr (s1.mo (fun j e => by omega))).tr (t1.mo (fun j e => by omega))).tr (w.mo (fun j e => by omega)), ⟨fun x hx => ?_, fun x hx => ?_, fun x hx => ?_⟩, ?_, ⟨⟨fun j hj => ?_, ?_, ?_, fun v h1 h2 => ?_⟩, fun k hk => ⟨fun j hj => ?_, fun j h1 h2 => ?_⟩⟩, fun k => ?_, fun k hk hk2 => ⟨?_, ?_⟩, ?_, ?_⟩
  · rw [w.I (by decide), t1.I (by decide), s2 x hx, q1.I (by decide), p1.I (by decide)]
  · rw [w.I (by decide), t1.I (by decide), s3 x hx, q1.I (by decide), p1.I (by decide)]
  · rw [w.L (by decide), t1.L (by decide), s4 x hx, q1.L (by decide), p1.L (by decide)]
  · exact (R3.fl t1 (by decide) (by decide) (by decide)).fl w (by decide) (by decide) (by decide)
  · rw [w.I (by decide), e10, p3 j hj]; exact r1 j hj
  · rw [w.I (by decide), e10, p4]; exact r2
  · rw [w.I (by decide), e10, p5]; exact r3
  · rw [w.L (by decide), e11, q3 v h1 h2, p1.L (by decide)]; exact r4 v h1 h2
  · rw [w.I (by decide), e10]; exact p2 _ (by omega)
  · rw [w.L (by decide), e11, q2 _ (by omega)]; exact p1.L (by decide) _
  · rw [hI_sIla, if_neg (by omega), hI_sIla, if_neg (by omega), (t2 k).1, e8]
  · rw [hI_sIla, if_neg (by omega), hI_sIla, if_neg (by omega), (t2 k).2, e8]
  · rw [hI_sIla, if_neg (by omega), hI_sIla, if_neg (by omega), t3 k, e8, e8]
    by_cases er : hI h (la 8) (3 * k + 1) = (r0 : Int)
    · rw [if_pos ⟨by omega, er⟩, if_pos er]
    · rw [if_neg (fun z => er z.2), if_neg er]
  · rw [hI_sIla, if_neg (by omega), hI_sIla, if_pos ⟨rfl, rfl⟩]
  · rw [hI_sIla, if_pos ⟨rfl, rfl⟩]
set_option maxHeartbeats 2000000 in
/-- behind the move -/
theorem mo_5 (J : IV L h Z c b) (V : JV h Z) (hc : c < 512) (hm : (mv : Int) < Z 28 0) (hr0 : (r0 : Int) < Z 19 0) (ez : znx Z (mv : Int) = (r0 : Int)) (h1 : 1 ≤ i) (ha : (i : Int) ≤ Z 1 0) (hu : u = 0 ∨ u = 1) (eu : u = bz (Z 21 r0 < Z 30 mv)) (hi : zstA' Z (r0 : Int) (mv : Int) = (i : Int)) (hV : Z 21 r0 = if u = 0 then (i : Int) else (i : Int) - 1) (k : ∀ g Y c', c' ≤ c + 1 → IV L g Y c' b → JV g Y → Q g (.inl (some (vi 1)))) (F1 : M3 mv r0 h g1) (F2 : M2 mv r0 12 g1 g2) (F3 : FR r0 g2 g3) (R3 : LR g3 (zmv Z (r0 : Int) 0 (i : Int) u) r0 r0) : AW mL_isMoved fL_isMoved loL_isMoved 10 250 Q 10 250 278 g3 ((13, vi (r0 : Int)) :: lmo mv) [] := by
  have v2 := V.b2
  have v3 := V.b3
  obtain ⟨R, B, h20⟩ := V.r hr0
  have T3 := F3.1.T (F2.1.T (F1.1.T J.T))
  have hm' : (0 : Int) ≤ (mv : Int) ∧ (mv : Int) ≤ Z 28 0 - 1 := by omega
  refine AW.iconst dL_isMoved_278 (by decide) ?_
  refine AW.istore dL_isMoved_279 rfl ?_
  refine AW.locs ((15, vi ((0 : Nat) : Int)) :: (13, vi (r0 : Int)) :: lmo mv) ⟨rfl, rfl, rfl, rfl, rfl, rfl, rfl, rfl, rfl, rfl, rfl, rfl, rfl, rfl, rfl, trivial⟩ (mo_4 T3 (((F3.1.I (by decide) 3).trans ((F2.1.I (by decide) 3).trans (F1.1.I (by decide) 3))).trans V.g3) V.b3 (by omega) (fun g4 F4 => ?_) 3 0 g3 (by omega) (by omega) FLG.z)
  have T4 := F4.1.T T3
  have FF := F1.ft R (n := (Z 28 0).toNat) (by omega) F2 F3 R3 F4
  refine AW.aload dL_isMoved_332 rfl ?_
  refine AW.iconst dL_isMoved_334 (by decide) ?_
  refine AW.iload dL_isMoved_335 rfl ?_
  refine AW.imulB dL_isMoved_337 (by omega) ?_
  refine AW.iconst dL_isMoved_338 (by decide) ?_
  refine AW.iaddB dL_isMoved_339 (by omega) ?_
  refine AW.iload dL_isMoved_340 rfl ?_
  refine AW.astI dL_isMoved_342 T4.a8 (by omega) (by omega) ?_
  rw [show (3 * (mv : Int) + 1).toNat = 3 * mv + 1 by omega]
  refine AW.aload dL_isMoved_343 rfl ?_
  refine AW.iconst dL_isMoved_345 (by decide) ?_
  refine AW.iload dL_isMoved_346 rfl ?_
  refine AW.imulB dL_isMoved_348 (by omega) ?_
  refine AW.iconst dL_isMoved_349 (by decide) ?_
  refine AW.iaddB dL_isMoved_350 (by omega) ?_
  refine AW.iconst dL_isMoved_351 (by decide) ?_
  refine AW.astI dL_isMoved_352 T4.a8 (by omega) (by omega) ?_
  rw [show (3 * (mv : Int) + 2).toNat = 3 * mv + 2 by omega]
  refine AW.aload_n dL_isMoved_353 rfl ?_
  refine AW.bipush dL_isMoved_354 bp_10 (by decide) ?_
  refine AW.iload dL_isMoved_356 rfl ?_
  refine AW.iconst dL_isMoved_358 (by decide) ?_
  refine AW.iconst dL_isMoved_359 (by decide) ?_
  refine AW.iconst dL_isMoved_360 (by decide) ?_
  refine AW.iconst dL_isMoved_361 (by decide) ?_
  refine AW.pcs (pc2 := 362) rfl ?_
  refine AW.callSH (as := [vq _, vi _, vi _, vi _, vi _, vi _, vi _]) dL_isMoved_362 rfl rfl rfl okL_does lkL_149 rfl rfl rfl (by omega) (by omega) rfl (q_stp (J.fl FF.1) hc (fun z => absurd hm' z) (fun _ z => absurd (ez.symm.trans z) (by omega)) (fun _ _ g5 S5 I5 Fr5 => (AW.k1 ?_)))
  refine AW.top (y := (r0 : Int)) ez ?_
  refine AW.iload dL_isMoved_365 rfl ?_
  refine AW.if_geT (tgt := 375) dL_isMoved_367 rfl (by omega) ?_
  refine AW.iload dL_isMoved_375 rfl ?_
  refine AW.icmp_neF (tgt := 384) dL_isMoved_377 rfl (by rfl) ?_
  refine AW.iconst dL_isMoved_380 (by decide) ?_
  refine AW.goto (tgt := 385) dL_isMoved_381 rfl ?_
  refine AW.zret dL_isMoved_385 rfl ?_ ?_
  · omega
  rw [ez] at S5 I5
  have q := stp_go J V hc hm hr0 h1 ha hu eu hi hV FF S5 I5 Fr5
  exact k _ _ (c + 1) (by omega) q.1 q.2
set_option maxHeartbeats 2000000 in
theorem kL_isMoved (J : IV L h Z c b) (V : JV h Z) (hc : c < 512) (hmv : (mv : Int) ≤ Z 28 0) (k : ∀ g Y c', c' ≤ c + 1 → IV L g Y c' b → JV g Y → Q g (.inl (some (vi 1)))) : AC mL_isMoved fL_isMoved loL_isMoved 10 250 h [vr mF, vr (la 1), vr (la 2), vr (la 3), vr (la 4), vr (la 5), vr (la 6), vr (la 7), vr (la 8), vr (la 9), vr (la 10), vr (la 11), vi (mv : Int)] Q := by
  have K := J.K
  have b1 := K.b1
  have v2 := V.b2
  have v3 := V.b3
  refine AC.mk (by decide) (Nat.le_of_ble_eq_true rfl) ?_
  by_cases hm : (mv : Int) = Z 28 0
  · refine AW.iload dL_isMoved_0 rfl ?_
    refine AW.aload dL_isMoved_2 rfl ?_
    refine AW.iconst dL_isMoved_4 (by decide) ?_
    refine AW.aldIE dL_isMoved_5 J.T.a4 (by omega) (by omega) (by exact V.g3) ?_
    refine AW.icmp_neF (tgt := 33) dL_isMoved_6 rfl (by omega) ?_
    refine AW.aload_n dL_isMoved_9 rfl ?_
    refine AW.bipush dL_isMoved_10 bp_10 (by decide) ?_
    refine AW.iload dL_isMoved_12 rfl ?_
    refine AW.iconst dL_isMoved_14 (by decide) ?_
    refine AW.iconst dL_isMoved_15 (by decide) ?_
    refine AW.iconst dL_isMoved_16 (by decide) ?_
    refine AW.iconst dL_isMoved_17 (by decide) ?_
    refine AW.callSH (as := [vq _, vi _, vi _, vi _, vi _, vi _, vi _]) dL_isMoved_18 rfl rfl rfl okL_does lkL_149 rfl rfl rfl (by omega) (by omega) rfl (q_stp J hc (fun _ => (AW.k1 ?_)) (fun z => absurd z.2 (by omega)) (fun z => absurd z.2 (by omega)))
    refine AW.sipush dL_isMoved_21 sp_m300 (by decide) ?_
    refine AW.icmp_neF (tgt := 31) dL_isMoved_24 rfl (by rfl) ?_
    refine AW.iconst dL_isMoved_27 (by decide) ?_
    refine AW.goto (tgt := 32) dL_isMoved_28 rfl ?_
    refine AW.zret dL_isMoved_32 rfl ?_ ?_
    · omega
    exact k _ _ c (by omega) J V
  have hm2 : (mv : Int) < Z 28 0 := by omega
  have hm' : (0 : Int) ≤ (mv : Int) ∧ (mv : Int) ≤ Z 28 0 - 1 := by omega
  have m0 := (V.m.1 mv hm2).1
  have z0 : zfar Z (mv : Int) 0 = 0 := by unfold zfar; exact if_pos rfl
  have s42 : AW mL_isMoved fL_isMoved loL_isMoved 10 250 Q 10 250 121 h ((13, vi (znx Z (mv : Int))) :: lmo mv) [] → AW mL_isMoved fL_isMoved loL_isMoved 10 250 Q 10 250 0 h (largs 0 [vr mF, vr (la 1), vr (la 2), vr (la 3), vr (la 4), vr (la 5), vr (la 6), vr (la 7), vr (la 8), vr (la 9), vr (la 10), vr (la 11), vi (mv : Int)]) [] := fun k1 => by
    have q := mo_1 J.T K V hm2 k1 4 0 (by omega) (by omega)
    rw [z0] at q
    refine AW.iload dL_isMoved_0 rfl ?_
    refine AW.aload dL_isMoved_2 rfl ?_
    refine AW.iconst dL_isMoved_4 (by decide) ?_
    refine AW.aldIE dL_isMoved_5 J.T.a4 (by omega) (by omega) (by exact V.g3) ?_
    refine AW.icmp_neT (tgt := 33) dL_isMoved_6 rfl (by omega) ?_
    refine AW.iconst dL_isMoved_33 (by decide) ?_
    refine AW.istore dL_isMoved_34 rfl ?_
    refine AW.iconst dL_isMoved_36 (by decide) ?_
    refine AW.istore dL_isMoved_37 rfl ?_
    refine AW.iconst dL_isMoved_39 (by decide) ?_
    refine AW.istore dL_isMoved_40 rfl ?_
    exact AW.locs ((15, vi ((0 : Nat) : Int)) :: (14, vi 0) :: (13, vi (-1)) :: lmo mv) ⟨rfl, rfl, rfl, rfl, rfl, rfl, rfl, rfl, rfl, rfl, rfl, rfl, rfl, rfl, rfl, rfl, trivial⟩ q
  refine s42 ?_
  have rng := znxA_rng (Z := Z) (m := (mv : Int)) (Z 19 0).toNat
  rw [show znxA Z (mv : Int) (Z 19 0).toNat = znx Z (mv : Int) from rfl] at rng
  rcases rng with ez | ⟨y1, y2, y3, y4⟩
  · rw [ez]
    refine AW.iload dL_isMoved_121 rfl ?_
    refine AW.if_ltT (tgt := 353) dL_isMoved_123 rfl (by omega) ?_
    refine AW.aload_n dL_isMoved_353 rfl ?_
    refine AW.bipush dL_isMoved_354 bp_10 (by decide) ?_
    refine AW.iload dL_isMoved_356 rfl ?_
    refine AW.iconst dL_isMoved_358 (by decide) ?_
    refine AW.iconst dL_isMoved_359 (by decide) ?_
    refine AW.iconst dL_isMoved_360 (by decide) ?_
    refine AW.iconst dL_isMoved_361 (by decide) ?_
    refine AW.callSH (as := [vq _, vi _, vi _, vi _, vi _, vi _, vi _]) dL_isMoved_362 rfl rfl rfl okL_does lkL_149 rfl rfl rfl (by omega) (by omega) rfl (q_stp J hc (fun z => absurd hm' z) (fun _ _ => (AW.k1 ?_)) (fun _ z => absurd ez z))
    refine AW.iload dL_isMoved_365 rfl ?_
    refine AW.if_geF (tgt := 375) dL_isMoved_367 rfl (by omega) ?_
    refine AW.bipush dL_isMoved_370 bp_m100 (by decide) ?_
    refine AW.goto (tgt := 377) dL_isMoved_372 rfl ?_
    refine AW.icmp_neF (tgt := 384) dL_isMoved_377 rfl (by rfl) ?_
    refine AW.iconst dL_isMoved_380 (by decide) ?_
    refine AW.goto (tgt := 385) dL_isMoved_381 rfl ?_
    refine AW.zret dL_isMoved_385 rfl ?_ ?_
    · omega
    exact k _ _ c (by omega) J V
  obtain ⟨r0, ez⟩ := Int.eq_ofNat_of_zero_le y1
  rw [ez] at y2 y3 y4 ⊢
  have hr0 : (r0 : Int) < Z 19 0 := by omega
  obtain ⟨R, B, h20⟩ := V.r hr0
  have bv := B.v
  have eo : zoff Z (r0 : Int) (mv : Int) = if Z 21 r0 - Z 30 mv < 0 then -(Z 21 r0 - Z 30 mv) else Z 21 r0 - Z 30 mv := by unfold zoff; rw [Int.toNat_natCast, Int.toNat_natCast]
  rw [eo] at y4
  have hne : ¬ Z 21 r0 = Z 30 mv := fun z => by rw [z, if_neg (by omega)] at y4; omega
  refine AW.iload dL_isMoved_121 rfl ?_
  refine AW.if_ltF (tgt := 353) dL_isMoved_123 rfl (by omega) ?_
  refine AW.iconst dL_isMoved_126 (by decide) ?_
  refine AW.istore dL_isMoved_127 rfl ?_
  refine AW.locs ((15, vi ((0 : Nat) : Int)) :: (13, vi (r0 : Int)) :: lmo mv) ⟨rfl, rfl, rfl, rfl, rfl, rfl, rfl, rfl, rfl, rfl, rfl, rfl, rfl, rfl, rfl, trivial⟩ (mo_2 J.T (by omega) (by omega) (fun g1 F1 => ?_) 10 0 h (by omega) (by omega) ⟨FL.rf, fun _ _ => rfl, fun j hj => absurd hj (by omega)⟩)
  have T1 := F1.1.T J.T
  refine AW.aload dL_isMoved_164 rfl ?_
  refine AW.bipush dL_isMoved_166 bp_12 (by decide) ?_
  refine AW.iload dL_isMoved_168 rfl ?_
  refine AW.imulB dL_isMoved_170 (by omega) ?_
  refine AW.bipush dL_isMoved_171 bp_10 (by decide) ?_
  refine AW.iaddB dL_isMoved_173 (by omega) ?_
  refine AW.aload dL_isMoved_174 rfl ?_
  refine AW.iconst dL_isMoved_176 (by decide) ?_
  refine AW.iload dL_isMoved_177 rfl ?_
  refine AW.imulB dL_isMoved_179 (by omega) ?_
  refine AW.aldIE dL_isMoved_180 T1.a6 (by omega) (by omega) (by exact hIx (j := 2 * r0) (by omega) (F1.1.I (by decide) _)) ?_
  refine AW.astI dL_isMoved_181 T1.a10 (by omega) (by omega) ?_
  rw [show (12 * (mv : Int) + 10).toNat = 12 * mv + 10 by omega]
  refine AW.aload dL_isMoved_182 rfl ?_
  refine AW.bipush dL_isMoved_184 bp_12 (by decide) ?_
  refine AW.iload dL_isMoved_186 rfl ?_
  refine AW.imulB dL_isMoved_188 (by omega) ?_
  refine AW.bipush dL_isMoved_189 bp_11 (by decide) ?_
  refine AW.iaddB dL_isMoved_191 (by omega) ?_
  refine AW.aload dL_isMoved_192 rfl ?_
  refine AW.iconst dL_isMoved_194 (by decide) ?_
  refine AW.iload dL_isMoved_195 rfl ?_
  refine AW.imulB dL_isMoved_197 (by omega) ?_
  refine AW.iconst dL_isMoved_198 (by decide) ?_
  refine AW.pcs (pc2 := 199) rfl ?_
  refine AW.iaddB dL_isMoved_199 (by omega) ?_
  refine AW.aldIE dL_isMoved_200 T1.a6 (by omega) (by omega) (by exact hIx (j := 2 * r0 + 1) (by omega) ((hI_sIla.trans (if_neg (by omega))).trans (F1.1.I (by decide) _))) ?_
  refine AW.astI dL_isMoved_201 T1.a10 (by omega) (by omega) ?_
  rw [show (12 * (mv : Int) + 11).toNat = 12 * mv + 11 by omega]
  refine AW.gen (P := fun g => M3 mv r0 h g) F1.m3 (fun g2 F2 => ?_)
  refine AW.iconst dL_isMoved_202 (by decide) ?_
  refine AW.istore dL_isMoved_203 rfl ?_
  refine AW.locs ((15, vi ((1 : Nat) : Int)) :: (13, vi (r0 : Int)) :: lmo mv) ⟨rfl, rfl, rfl, rfl, rfl, rfl, rfl, rfl, rfl, rfl, rfl, rfl, rfl, rfl, rfl, trivial⟩ (mo_3 (F2.1.T J.T) (by omega) (by omega) (fun g3 F3 => ?_) 11 1 g2 (by omega) (by omega) (by omega) ⟨FL.rf, fun _ _ => rfl, fun w a1 a2 => absurd a2 (by omega)⟩)
  have T3 := F3.1.T (F2.1.T J.T)
  have R2 : LR g3 Z r0 r0 := (R.fl F2.1 (by decide) (by decide) (by decide)).fl F3.1 (by decide) (by decide) (by decide)
  have S3 : LSc g3 Z := (V.s.fl F2.1 (by decide) (by decide) (by decide) (by decide)).fl F3.1 (by decide) (by decide) (by decide) (by decide)
  have e8 : hI g3 (la 8) (3 * mv) = Z 30 mv := by rw [F3.1.I (by decide), F2.1.I (by decide)]; exact m0.1
  by_cases lt : Z 21 r0 < Z 30 mv
  · obtain ⟨i, ei⟩ := Int.eq_ofNat_of_zero_le (show 0 ≤ Z 21 r0 + 1 by omega)
    have hi : zstA' Z (r0 : Int) (mv : Int) = (i : Int) := by unfold zstA'; rw [Int.toNat_natCast, Int.toNat_natCast, if_pos lt, ei]
    refine AW.aload_n dL_isMoved_240 rfl ?_
    refine AW.aload_n dL_isMoved_241 rfl ?_
    refine AW.aload_n dL_isMoved_242 rfl ?_
    refine AW.aload dL_isMoved_243 rfl ?_
    refine AW.aload dL_isMoved_245 rfl ?_
    refine AW.aload dL_isMoved_247 rfl ?_
    refine AW.iload dL_isMoved_249 rfl ?_
    refine AW.aload dL_isMoved_251 rfl ?_
    refine AW.iconst dL_isMoved_253 (by decide) ?_
    refine AW.iload dL_isMoved_254 rfl ?_
    refine AW.imulB dL_isMoved_256 (by omega) ?_
    refine AW.aldIE dL_isMoved_257 T3.a6 (by omega) (by omega) (by exact hIx (by omega) R2.y0) ?_
    refine AW.aload dL_isMoved_258 rfl ?_
    refine AW.iconst dL_isMoved_260 (by decide) ?_
    refine AW.iload dL_isMoved_261 rfl ?_
    refine AW.imulB dL_isMoved_263 (by omega) ?_
    refine AW.aldIE dL_isMoved_264 T3.a8 (by omega) (by omega) (by exact hIx (by omega) e8) ?_
    refine AW.icmp_geF (tgt := 272) dL_isMoved_265 rfl (by omega) ?_
    refine AW.iconst dL_isMoved_268 (by decide) ?_
    refine AW.goto (tgt := 273) dL_isMoved_269 rfl ?_
    refine AW.aload dL_isMoved_273 rfl ?_
    refine AW.callS (as := [vq _, vq _, vq _, vq _, vq _, vq _, vi _, vi _, vq _]) dL_isMoved_275 rfl rfl rfl okL_moves lkL_135 rfl rfl rfl (leb (by omega)) (leb (by omega)) rfl (kL_moves (rl := r0) (rz := r0) (Z := Z) (a := i) (u := 1) T3 S3 K B (by omega) (by omega) (by omega) (Or.inr rfl) (by rw [if_neg (by decide)]; omega) R2 (fun G F R => (AW.k0 ?_)))
    exact mo_5 J V hc hm2 hr0 ez (u := 1) (i := i) (by omega) (by omega) (Or.inr rfl) (bz_1.mpr lt).symm hi (by rw [if_neg (by decide)]; omega) k F2 F3 F R
  · obtain ⟨i, ei⟩ := Int.eq_ofNat_of_zero_le (show 0 ≤ Z 21 r0 by omega)
    have hi : zstA' Z (r0 : Int) (mv : Int) = (i : Int) := by unfold zstA'; rw [Int.toNat_natCast, Int.toNat_natCast, if_neg lt, ei]
    refine AW.aload_n dL_isMoved_240 rfl ?_
    refine AW.aload_n dL_isMoved_241 rfl ?_
    refine AW.aload_n dL_isMoved_242 rfl ?_
    refine AW.aload dL_isMoved_243 rfl ?_
    refine AW.aload dL_isMoved_245 rfl ?_
    refine AW.aload dL_isMoved_247 rfl ?_
    refine AW.iload dL_isMoved_249 rfl ?_
    refine AW.aload dL_isMoved_251 rfl ?_
    refine AW.iconst dL_isMoved_253 (by decide) ?_
    refine AW.iload dL_isMoved_254 rfl ?_
    refine AW.imulB dL_isMoved_256 (by omega) ?_
    refine AW.aldIE dL_isMoved_257 T3.a6 (by omega) (by omega) (by exact hIx (by omega) R2.y0) ?_
    refine AW.aload dL_isMoved_258 rfl ?_
    refine AW.iconst dL_isMoved_260 (by decide) ?_
    refine AW.iload dL_isMoved_261 rfl ?_
    refine AW.imulB dL_isMoved_263 (by omega) ?_
    refine AW.aldIE dL_isMoved_264 T3.a8 (by omega) (by omega) (by exact hIx (by omega) e8) ?_
    refine AW.icmp_geT (tgt := 272) dL_isMoved_265 rfl (by omega) ?_
    refine AW.iconst dL_isMoved_272 (by decide) ?_
    refine AW.aload dL_isMoved_273 rfl ?_
    refine AW.callS (as := [vq _, vq _, vq _, vq _, vq _, vq _, vi _, vi _, vq _]) dL_isMoved_275 rfl rfl rfl okL_moves lkL_135 rfl rfl rfl (leb (by omega)) (leb (by omega)) rfl (kL_moves (rl := r0) (rz := r0) (Z := Z) (a := i) (u := 0) T3 S3 K B (by omega) (by omega) (by omega) (Or.inl rfl) (by rw [if_pos rfl]; omega) R2 (fun G F R => (AW.k0 ?_)))
    exact mo_5 J V hc hm2 hr0 ez (u := 0) (i := i) (by omega) (by omega) (Or.inl rfl) (bz_0.mpr lt).symm hi (by rw [if_pos rfl]; omega) k F2 F3 F R
end G5
