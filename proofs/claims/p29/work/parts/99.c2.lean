/-! ===== the law's look at texts and versions ===== -/
section C2
variable {Q : AH → AO → Prop} {h g : AH} {Z Y : ZT} {c b L a : Nat}
theorem zs_l {w i : Int} (hw : Z 7 a = w) (h0 : 0 ≤ i) (h1 : i < zlen w) : zsgn Z 0 (a : Int) i = zlet w i := by
  unfold zsgn
  rw [ixp, hw, if_neg (by omega), if_pos (by omega)]
theorem zs_x {w i d : Int} (hw : Z 7 a = w) (h0 : 0 ≤ i) (h1 : 0 ≤ d) (hd : i = zlen w + d) : zsgn Z 0 (a : Int) i = zsg1 Z 0 (a : Int) (24 * 0 + (a : Int)) d := by
  unfold zsgn
  rw [ixp, hw, if_neg (by omega), if_neg (by omega), show i - zlen w = d by omega]
theorem zs_n {i : Int} (h0 : i < 0) : zsgn Z 0 (a : Int) i = 0 := by unfold zsgn; rw [if_pos h0]
theorem zs_fs {w i nf j : Int} (hw : Z 7 a = w) (fn : zfn Z (24 * 0 + (a : Int)) = nf) (h0 : 0 ≤ i) (hj : j = 0 ∨ j = 1) (h1 : j < nf) (hd : i = zlen w + 2 * j) : zsgn Z 0 (a : Int) i = 32 := by
  rw [zs_x hw h0 (by omega) hd]
  unfold zsg1
  rw [fn, if_pos (by omega)]
  rcases hj with rfl | rfl <;> rfl
theorem zs_f0 {w i nf : Int} (hw : Z 7 a = w) (fn : zfn Z (24 * 0 + (a : Int)) = nf) (h0 : 0 ≤ i) (h1 : 1 ≤ nf) (hd : i = zlen w + 1) (ha : 1 ≤ a) (hf : 0 ≤ Z 8 (2 * a)) : zsgn Z 0 (a : Int) i = 97 + Z 5 (48 * (a - 1) + (Z 8 (2 * a)).toNat) := by
  rw [zs_x hw h0 (by omega) hd]
  unfold zsg1
  rw [fn, if_pos (by omega), if_neg (by decide), show (1 : Int).tdiv 2 = 0 from rfl, zfr0_n, show (48 * (24 * 0 + ((a : Int) - 1)) + Z 8 (2 * a)).toNat = 48 * (a - 1) + (Z 8 (2 * a)).toNat by omega]
theorem zs_f1 {w i nf : Int} (hw : Z 7 a = w) (fn : zfn Z (24 * 0 + (a : Int)) = nf) (h0 : 0 ≤ i) (h1 : 2 ≤ nf) (hd : i = zlen w + 3) (ha : 1 ≤ a) (hf : 0 ≤ Z 8 (2 * a + 1)) : zsgn Z 0 (a : Int) i = 97 + Z 5 (48 * (a - 1) + (Z 8 (2 * a + 1)).toNat) := by
  rw [zs_x hw h0 (by omega) hd]
  unfold zsg1
  rw [fn, if_pos (by omega), if_neg (by decide), show (3 : Int).tdiv 2 = 1 from rfl, zfr1_n, show (48 * (24 * 0 + ((a : Int) - 1)) + Z 8 (2 * a + 1)).toNat = 48 * (a - 1) + (Z 8 (2 * a + 1)).toNat by omega]
theorem zs_y {w i nf d : Int} (hw : Z 7 a = w) (fn : zfn Z (24 * 0 + (a : Int)) = nf) (h0 : 0 ≤ i) (h1 : 0 ≤ nf) (hd0 : -1 ≤ d) (hd : i = zlen w + (2 * nf + 1 + d)) : zsgn Z 0 (a : Int) i = zsg2 Z 0 (a : Int) (24 * 0 + (a : Int)) d := by
  rw [zs_x hw h0 (by omega) hd]
  unfold zsg1
  rw [fn, if_neg (by omega), show 2 * nf + 1 + d - (2 * nf + 1) = d by omega]
theorem zs_gt {w i nf : Int} (hw : Z 7 a = w) (fn : zfn Z (24 * 0 + (a : Int)) = nf) (h0 : 0 ≤ i) (h1 : 0 ≤ nf) (hd : i = zlen w + 2 * nf) : zsgn Z 0 (a : Int) i = 62 := by
  rw [zs_y (d := -1) hw fn h0 h1 (by omega) (by omega)]
  rfl
theorem zs_bs {w i nf nb j : Int} (hw : Z 7 a = w) (fn : zfn Z (24 * 0 + (a : Int)) = nf) (bn : zbn Z (24 * 0 + (a : Int)) = nb) (h0 : 0 ≤ i) (h1 : 0 ≤ nf) (hj : j = 0 ∨ j = 1) (h2 : j < nb) (hd : i = zlen w + (2 * nf + 1 + 2 * j)) : zsgn Z 0 (a : Int) i = 32 := by
  rw [zs_y hw fn h0 h1 (by omega) hd]
  unfold zsg2
  rw [bn, if_neg (by omega), if_pos (by omega)]
  rcases hj with rfl | rfl <;> rfl
theorem zs_b0 {w i nf nb : Int} (hw : Z 7 a = w) (fn : zfn Z (24 * 0 + (a : Int)) = nf) (bn : zbn Z (24 * 0 + (a : Int)) = nb) (h0 : 0 ≤ i) (h1 : 0 ≤ nf) (h2 : 1 ≤ nb) (hd : i = zlen w + (2 * nf + 1 + 1)) (hf : 0 ≤ Z 9 (2 * a)) : zsgn Z 0 (a : Int) i = 97 + Z 5 (48 * a + (Z 9 (2 * a)).toNat) := by
  rw [zs_y hw fn h0 h1 (by omega) hd]
  unfold zsg2
  rw [bn, if_neg (by omega), if_pos (by omega), if_neg (by decide), show (1 : Int).tdiv 2 = 0 from rfl, zbe0_n, show (48 * (24 * 0 + (a : Int)) + Z 9 (2 * a)).toNat = 48 * a + (Z 9 (2 * a)).toNat by omega]
theorem zs_b1 {w i nf nb : Int} (hw : Z 7 a = w) (fn : zfn Z (24 * 0 + (a : Int)) = nf) (bn : zbn Z (24 * 0 + (a : Int)) = nb) (h0 : 0 ≤ i) (h1 : 0 ≤ nf) (h2 : 2 ≤ nb) (hd : i = zlen w + (2 * nf + 1 + 3)) (hf : 0 ≤ Z 9 (2 * a + 1)) : zsgn Z 0 (a : Int) i = 97 + Z 5 (48 * a + (Z 9 (2 * a + 1)).toNat) := by
  rw [zs_y hw fn h0 h1 (by omega) hd]
  unfold zsg2
  rw [bn, if_neg (by omega), if_pos (by omega), if_neg (by decide), show (3 : Int).tdiv 2 = 1 from rfl, zbe1_n, show (48 * (24 * 0 + (a : Int)) + Z 9 (2 * a + 1)).toNat = 48 * a + (Z 9 (2 * a + 1)).toNat by omega]
theorem zs_e {w i nf nb : Int} (hw : Z 7 a = w) (fn : zfn Z (24 * 0 + (a : Int)) = nf) (bn : zbn Z (24 * 0 + (a : Int)) = nb) (h0 : 0 ≤ i) (h1 : 0 ≤ nf) (h2 : 0 ≤ nb) (hd : i = zlen w + (2 * nf + 1 + 2 * nb)) : zsgn Z 0 (a : Int) i = 0 := by
  rw [zs_y hw fn h0 h1 (by omega) hd]
  unfold zsg2
  rw [bn, if_neg (by omega), if_neg (by omega)]
theorem kL_stZ {v f : Nat} (T : LT h) (S : LSc h Z) (K : QS Z) (hv : (v : Int) ≤ Z 1 0) (hf : f < 10) (k : Q h (.inl (some (vi (zdg Z v f))))) : AC mL_state fL_state loL_state 0 0 h [vr (la 1), vi (v : Int), vi (f : Int)] Q := by
  have b1 := K.b1
  refine kL_state T (by omega) hf ?_
  rw [S.v hv hf]
  exact k
set_option maxHeartbeats 4000000 in
theorem kL_isText0 (J : IV L h Z c b) (V : JV h Z) (h1 : 1 ≤ a) (ha : (a : Int) ≤ Z 1 0) (hw : Z 7 a = 0) (k : ∀ g b', IV L g Z c b' → la_s h g → Q g (.inl (some (vi 1)))) : AC mL_isText fL_isText loL_isText 60 480 h [vr mF, vr (la 1), vr (la 2), vi (a : Int)] Q := by
  have K := J.K
  have b1 := K.b1
  have b2 := K.b2
  obtain ⟨⟨q1, q2, q3, q4⟩, s, d1, d2, d3, d4⟩ := K.p h1 ha
  unfold StK at s
  have fn : zfn Z (24 * 0 + (a : Int)) = 0 := by unfold zfn; rw [zfr0_n, zfr1_n]; (repeat' split) <;> omega
  have bn : zbn Z (24 * 0 + (a : Int)) = 1 := by unfold zbn; rw [zbe0_n, zbe1_n]; (repeat' split) <;> omega
  have sg : (0 ≤ Z 8 (2 * a) ∨ Z 8 (2 * a) = -1) ∧ (0 ≤ Z 8 (2 * a + 1) ∨ Z 8 (2 * a + 1) = -1) := by omega
  have s := fun _ : Unit => s
  have g0 : 0 ≤ Z 9 (2 * a) ∧ Z 8 (2 * a) = -1 ∧ Z 8 (2 * a + 1) = -1 ∧ Z 9 (2 * a + 1) = -1 := by have := s (); omega
  have n0 := (K.nm (v := a - 1) (f := (Z 8 (2 * a)).toNat) (by omega) (by omega)).1
  have n1 := (K.nm (v := a - 1) (f := (Z 8 (2 * a + 1)).toNat) (by omega) (by omega)).1
  have m0 := (K.nm (v := a) (f := (Z 9 (2 * a)).toNat) (by omega) (by omega)).1
  have m1 := (K.nm (v := a) (f := (Z 9 (2 * a + 1)).toNat) (by omega) (by omega)).1
  have p0 : 0 ≤ Z 8 (2 * a) → ¬ Z 5 (48 * (a - 1) + (Z 8 (2 * a)).toNat) = -1 := fun z => d1 (by omega)
  have p1 : 0 ≤ Z 8 (2 * a + 1) → ¬ Z 5 (48 * (a - 1) + (Z 8 (2 * a + 1)).toNat) = -1 := fun z => d2 (by omega)
  have r0 : 0 ≤ Z 9 (2 * a) → ¬ Z 5 (48 * a + (Z 9 (2 * a)).toNat) = -1 := fun z => d3 (by omega)
  have r1 : 0 ≤ Z 9 (2 * a + 1) → ¬ Z 5 (48 * a + (Z 9 (2 * a + 1)).toNat) = -1 := fun z => d4 (by omega)
  clear d1 d2 d3 d4
  have e0 : la_s h h := fun j => ⟨fun _ => rfl, fun _ => rfl⟩
  refine AC.mk (by decide) (Nat.le_of_ble_eq_true rfl) ?_
  refine AW.aload_n dL_isText_0 rfl ?_
  refine AW.iload_n dL_isText_1 rfl ?_
  refine AW.aldIE dL_isText_2 J.T.a2 (by omega) (by omega) (by exact V.s.w (a := a) h1 ha) ?_
  refine AW.bipush dL_isText_3 bp_8 (by decide) ?_
  refine AW.irem dL_isText_5 (by omega) ?_
  refine AW.top (y := 0) (by rw [zwd_7 K h1 ha]; exact hw) ?_
  refine AW.istore dL_isText_6 rfl ?_
  refine AW.iload dL_isText_8 rfl ?_
  refine AW.if_neF (tgt := 18) dL_isText_10 rfl (by omega) ?_
  refine AW.bipush dL_isText_13 bp_97 (by decide) ?_
  refine AW.goto (tgt := 75) dL_isText_15 rfl ?_
  refine AW.istore dL_isText_75 rfl ?_
  refine AW.iload dL_isText_77 rfl ?_
  refine AW.if_neF (tgt := 86) dL_isText_79 rfl (by omega) ?_
  refine AW.iconst dL_isText_82 (by decide) ?_
  refine AW.goto (tgt := 108) dL_isText_83 rfl ?_
  refine AW.istore dL_isText_108 rfl ?_
  refine AW.iload dL_isText_110 rfl ?_
  refine AW.if_neF (tgt := 120) dL_isText_112 rfl (by omega) ?_
  refine AW.bipush dL_isText_115 bp_100 (by decide) ?_
  refine AW.goto (tgt := 172) dL_isText_117 rfl ?_
  refine AW.istore dL_isText_172 rfl ?_
  refine AW.locs [(0, vq _), (1, vq _), (2, vq _), (3, vi _), (4, vi _), (5, vi _), (6, vi _), (7, vi _)] ⟨rfl, rfl, rfl, rfl, rfl, rfl, rfl, rfl, trivial⟩ ?_
  refine AW.aload_n dL_isText_174 rfl ?_
  refine AW.iconst dL_isText_175 (by decide) ?_
  refine AW.pcs (pc2 := 176) rfl ?_
  refine AW.iload_n dL_isText_176 rfl ?_
  refine AW.iconst dL_isText_177 (by decide) ?_
  refine AW.callV (as := [vi _, vi _, vi _]) dL_isText_178 rfl rfl rfl okX7_text lkL_61 J.F rfl rfl rfl rfl (leb (by omega)) (leb (by omega)) rfl (t_text J (by omega) (by first | (rw [zs_l hw (by decide) (by decide)]; decide) | (rw [zs_bs (j := 0) hw fn bn (by decide) (by decide) (by decide) (by decide) (by decide)]; decide) | (rw [zs_gt hw fn (by decide) (by decide) (by decide)]; decide) | (rw [zs_b0 hw fn bn (by decide) (by decide) (by decide) (by decide) (by omega)]; omega)) (fun g J e => (AW.k1 ?_)))
  have e0 : la_s _ g := fun j => ⟨fun i => (e j).1 i |>.trans ((e0 j).1 i), fun i => (e j).2 i |>.trans ((e0 j).2 i)⟩
  have V := V.as e
  refine AW.top (y := 97) (by rw [zs_l hw (by decide) (by decide)]; rfl) ?_
  refine AW.iload dL_isText_181 rfl ?_
  refine AW.icmp_neF (tgt := 205) dL_isText_183 rfl (by omega) ?_
  refine AW.aload_n dL_isText_186 rfl ?_
  refine AW.iconst dL_isText_187 (by decide) ?_
  refine AW.iload_n dL_isText_188 rfl ?_
  refine AW.iload dL_isText_189 rfl ?_
  refine AW.iconst dL_isText_191 (by decide) ?_
  refine AW.isubB dL_isText_192 (by omega) ?_
  refine AW.callV (as := [vi _, vi _, vi _]) dL_isText_193 rfl rfl rfl okX7_text lkL_61 J.F rfl rfl rfl rfl (leb (by omega)) (leb (by omega)) rfl (t_text J (by omega) (by first | (rw [zs_l hw (by decide) (by decide)]; decide) | (rw [zs_bs (j := 0) hw fn bn (by decide) (by decide) (by decide) (by decide) (by decide)]; decide) | (rw [zs_gt hw fn (by decide) (by decide) (by decide)]; decide) | (rw [zs_b0 hw fn bn (by decide) (by decide) (by decide) (by decide) (by omega)]; omega)) (fun g J e => (AW.k1 ?_)))
  have e0 : la_s _ g := fun j => ⟨fun i => (e j).1 i |>.trans ((e0 j).1 i), fun i => (e j).2 i |>.trans ((e0 j).2 i)⟩
  have V := V.as e
  refine AW.top (y := 100) (by rw [zs_l hw (by decide) (by decide)]; rfl) ?_
  refine AW.iload dL_isText_196 rfl ?_
  refine AW.icmp_neF (tgt := 205) dL_isText_198 rfl (by omega) ?_
  refine AW.iconst dL_isText_201 (by decide) ?_
  refine AW.goto (tgt := 206) dL_isText_202 rfl ?_
  refine AW.istore dL_isText_206 rfl ?_
  refine AW.iconst dL_isText_208 (by decide) ?_
  refine AW.istore dL_isText_209 rfl ?_
  refine AW.iload dL_isText_211 rfl ?_
  refine AW.iconst dL_isText_213 (by decide) ?_
  refine AW.icmp_geF (tgt := 352) dL_isText_214 rfl (by omega) ?_
  refine AW.iload dL_isText_217 rfl ?_
  refine AW.if_eqF (tgt := 352) dL_isText_219 rfl (by omega) ?_
  refine AW.pcs (pc2 := 222) rfl ?_
  refine AW.iload dL_isText_222 rfl ?_
  refine AW.iconst dL_isText_224 (by decide) ?_
  refine AW.icmp_neT (tgt := 251) dL_isText_225 rfl (by omega) ?_
  refine AW.locs [(0, vq _), (1, vq _), (2, vq _), (3, vi _), (4, vi _), (5, vi _), (6, vi _), (7, vi _), (8, vi _), (9, vi _)] ⟨rfl, rfl, rfl, rfl, rfl, rfl, rfl, rfl, rfl, rfl, trivial⟩ ?_
  refine AW.aload_n dL_isText_251 rfl ?_
  refine AW.iload_n dL_isText_252 rfl ?_
  refine AW.iload dL_isText_253 rfl ?_
  refine AW.iconst dL_isText_255 (by decide) ?_
  refine AW.icmp_geF (tgt := 263) dL_isText_256 rfl (by omega) ?_
  refine AW.iconst dL_isText_259 (by decide) ?_
  refine AW.goto (tgt := 264) dL_isText_260 rfl ?_
  refine AW.iload dL_isText_264 rfl ?_
  refine AW.iconst dL_isText_266 (by decide) ?_
  refine AW.irem dL_isText_267 (by omega) ?_
  refine AW.callS (as := [vq _, vi _, vi _, vi _]) dL_isText_268 rfl rfl rfl okL_side lkL_86 rfl rfl rfl (leb (by omega)) (leb (by omega)) rfl (kL_side J.T V.s K h1 ha (by omega) (by decide) (AW.k1 ?_))
  refine AW.top (by first | exact zsd_10 | exact zsd_11 | exact zsd_00 | exact zsd_01) ?_
  refine AW.istore dL_isText_271 rfl ?_
  refine AW.iload dL_isText_273 rfl ?_
  refine AW.if_ltT (tgt := 346) dL_isText_275 rfl (by omega) ?_
  refine AW.locs [(0, vq _), (1, vq _), (2, vq _), (3, vi _), (4, vi _), (5, vi _), (6, vi _), (7, vi _), (8, vi _), (9, vi _), (10, vi _)] ⟨rfl, rfl, rfl, rfl, rfl, rfl, rfl, rfl, rfl, rfl, rfl, trivial⟩ ?_
  refine AW.iincB dL_isText_346 rfl rfl (by omega) ?_
  refine AW.goto (tgt := 211) dL_isText_349 rfl ?_
  refine AW.iload dL_isText_211 rfl ?_
  refine AW.iconst dL_isText_213 (by decide) ?_
  refine AW.icmp_geF (tgt := 352) dL_isText_214 rfl (by omega) ?_
  refine AW.iload dL_isText_217 rfl ?_
  refine AW.if_eqF (tgt := 352) dL_isText_219 rfl (by omega) ?_
  refine AW.pcs (pc2 := 222) rfl ?_
  refine AW.iload dL_isText_222 rfl ?_
  refine AW.iconst dL_isText_224 (by decide) ?_
  refine AW.icmp_neT (tgt := 251) dL_isText_225 rfl (by omega) ?_
  refine AW.locs [(0, vq _), (1, vq _), (2, vq _), (3, vi _), (4, vi _), (5, vi _), (6, vi _), (7, vi _), (8, vi _), (9, vi _), (10, vi _)] ⟨rfl, rfl, rfl, rfl, rfl, rfl, rfl, rfl, rfl, rfl, rfl, trivial⟩ ?_
  refine AW.aload_n dL_isText_251 rfl ?_
  refine AW.iload_n dL_isText_252 rfl ?_
  refine AW.iload dL_isText_253 rfl ?_
  refine AW.iconst dL_isText_255 (by decide) ?_
  refine AW.icmp_geF (tgt := 263) dL_isText_256 rfl (by omega) ?_
  refine AW.iconst dL_isText_259 (by decide) ?_
  refine AW.goto (tgt := 264) dL_isText_260 rfl ?_
  refine AW.iload dL_isText_264 rfl ?_
  refine AW.iconst dL_isText_266 (by decide) ?_
  refine AW.irem dL_isText_267 (by omega) ?_
  refine AW.callS (as := [vq _, vi _, vi _, vi _]) dL_isText_268 rfl rfl rfl okL_side lkL_86 rfl rfl rfl (leb (by omega)) (leb (by omega)) rfl (kL_side J.T V.s K h1 ha (by omega) (by decide) (AW.k1 ?_))
  refine AW.top (by first | exact zsd_10 | exact zsd_11 | exact zsd_00 | exact zsd_01) ?_
  refine AW.istore dL_isText_271 rfl ?_
  refine AW.iload dL_isText_273 rfl ?_
  refine AW.if_ltT (tgt := 346) dL_isText_275 rfl (by omega) ?_
  refine AW.locs [(0, vq _), (1, vq _), (2, vq _), (3, vi _), (4, vi _), (5, vi _), (6, vi _), (7, vi _), (8, vi _), (9, vi _), (10, vi _)] ⟨rfl, rfl, rfl, rfl, rfl, rfl, rfl, rfl, rfl, rfl, rfl, trivial⟩ ?_
  refine AW.iincB dL_isText_346 rfl rfl (by omega) ?_
  refine AW.goto (tgt := 211) dL_isText_349 rfl ?_
  refine AW.iload dL_isText_211 rfl ?_
  refine AW.iconst dL_isText_213 (by decide) ?_
  refine AW.icmp_geF (tgt := 352) dL_isText_214 rfl (by omega) ?_
  refine AW.iload dL_isText_217 rfl ?_
  refine AW.if_eqF (tgt := 352) dL_isText_219 rfl (by omega) ?_
  refine AW.pcs (pc2 := 222) rfl ?_
  refine AW.iload dL_isText_222 rfl ?_
  refine AW.iconst dL_isText_224 (by decide) ?_
  refine AW.icmp_neF (tgt := 251) dL_isText_225 rfl (by omega) ?_
  refine AW.aload_n dL_isText_228 rfl ?_
  refine AW.iconst dL_isText_229 (by decide) ?_
  refine AW.iload_n dL_isText_230 rfl ?_
  refine AW.iload dL_isText_231 rfl ?_
  refine AW.callV (as := [vi _, vi _, vi _]) dL_isText_233 rfl rfl rfl okX7_text lkL_61 J.F rfl rfl rfl rfl (leb (by omega)) (leb (by omega)) rfl (t_text J (by omega) (by first | (rw [zs_l hw (by decide) (by decide)]; decide) | (rw [zs_bs (j := 0) hw fn bn (by decide) (by decide) (by decide) (by decide) (by decide)]; decide) | (rw [zs_gt hw fn (by decide) (by decide) (by decide)]; decide) | (rw [zs_b0 hw fn bn (by decide) (by decide) (by decide) (by decide) (by omega)]; omega)) (fun g J e => (AW.k1 ?_)))
  have e0 : la_s _ g := fun j => ⟨fun i => (e j).1 i |>.trans ((e0 j).1 i), fun i => (e j).2 i |>.trans ((e0 j).2 i)⟩
  have V := V.as e
  refine AW.top (y := 62) (zs_gt hw fn (by decide) (by decide) (by decide)) ?_
  refine AW.bipush dL_isText_236 bp_62 (by decide) ?_
  refine AW.icmp_neF (tgt := 245) dL_isText_238 rfl (by omega) ?_
  refine AW.iconst dL_isText_241 (by decide) ?_
  refine AW.goto (tgt := 246) dL_isText_242 rfl ?_
  refine AW.istore dL_isText_246 rfl ?_
  refine AW.iincB dL_isText_248 rfl rfl (by omega) ?_
  refine AW.locs [(0, vq _), (1, vq _), (2, vq _), (3, vi _), (4, vi _), (5, vi _), (6, vi _), (7, vi _), (8, vi _), (9, vi _), (10, vi _)] ⟨rfl, rfl, rfl, rfl, rfl, rfl, rfl, rfl, rfl, rfl, rfl, trivial⟩ ?_
  refine AW.aload_n dL_isText_251 rfl ?_
  refine AW.iload_n dL_isText_252 rfl ?_
  refine AW.iload dL_isText_253 rfl ?_
  refine AW.iconst dL_isText_255 (by decide) ?_
  refine AW.icmp_geT (tgt := 263) dL_isText_256 rfl (by omega) ?_
  refine AW.iconst dL_isText_263 (by decide) ?_
  refine AW.iload dL_isText_264 rfl ?_
  refine AW.iconst dL_isText_266 (by decide) ?_
  refine AW.irem dL_isText_267 (by omega) ?_
  refine AW.callS (as := [vq _, vi _, vi _, vi _]) dL_isText_268 rfl rfl rfl okL_side lkL_86 rfl rfl rfl (leb (by omega)) (leb (by omega)) rfl (kL_side J.T V.s K h1 ha (by omega) (by decide) (AW.k1 ?_))
  refine AW.top (by first | exact zsd_10 | exact zsd_11 | exact zsd_00 | exact zsd_01) ?_
  refine AW.pcs (pc2 := 271) rfl ?_
  refine AW.istore dL_isText_271 rfl ?_
  refine AW.iload dL_isText_273 rfl ?_
  refine AW.if_ltF (tgt := 346) dL_isText_275 rfl (by omega) ?_
  refine AW.iload dL_isText_278 rfl ?_
  refine AW.if_eqF (tgt := 346) dL_isText_280 rfl (by omega) ?_
  refine AW.aload_n dL_isText_283 rfl ?_
  refine AW.iconst dL_isText_284 (by decide) ?_
  refine AW.iload_n dL_isText_285 rfl ?_
  refine AW.iload dL_isText_286 rfl ?_
  refine AW.callV (as := [vi _, vi _, vi _]) dL_isText_288 rfl rfl rfl okX7_text lkL_61 J.F rfl rfl rfl rfl (leb (by omega)) (leb (by omega)) rfl (t_text J (by omega) (by first | (rw [zs_l hw (by decide) (by decide)]; decide) | (rw [zs_bs (j := 0) hw fn bn (by decide) (by decide) (by decide) (by decide) (by decide)]; decide) | (rw [zs_gt hw fn (by decide) (by decide) (by decide)]; decide) | (rw [zs_b0 hw fn bn (by decide) (by decide) (by decide) (by decide) (by omega)]; omega)) (fun g J e => (AW.k1 ?_)))
  have e0 : la_s _ g := fun j => ⟨fun i => (e j).1 i |>.trans ((e0 j).1 i), fun i => (e j).2 i |>.trans ((e0 j).2 i)⟩
  have V := V.as e
  refine AW.top (y := 32) (by first | exact zs_bs (j := 0) hw fn bn (by decide) (by decide) (by decide) (by decide) (by decide)) ?_
  refine AW.bipush dL_isText_291 bp_32 (by decide) ?_
  refine AW.icmp_neF (tgt := 340) dL_isText_293 rfl (by omega) ?_
  refine AW.aload_n dL_isText_296 rfl ?_
  refine AW.iconst dL_isText_297 (by decide) ?_
  refine AW.iload_n dL_isText_298 rfl ?_
  refine AW.iload dL_isText_299 rfl ?_
  refine AW.iconst dL_isText_301 (by decide) ?_
  refine AW.iaddB dL_isText_302 (by omega) ?_
  refine AW.callV (as := [vi _, vi _, vi _]) dL_isText_303 rfl rfl rfl okX7_text lkL_61 J.F rfl rfl rfl rfl (leb (by omega)) (leb (by omega)) rfl (t_text J (by omega) (by first | (rw [zs_l hw (by decide) (by decide)]; decide) | (rw [zs_bs (j := 0) hw fn bn (by decide) (by decide) (by decide) (by decide) (by decide)]; decide) | (rw [zs_gt hw fn (by decide) (by decide) (by decide)]; decide) | (rw [zs_b0 hw fn bn (by decide) (by decide) (by decide) (by decide) (by omega)]; omega)) (fun g J e => (AW.k1 ?_)))
  have e0 : la_s _ g := fun j => ⟨fun i => (e j).1 i |>.trans ((e0 j).1 i), fun i => (e j).2 i |>.trans ((e0 j).2 i)⟩
  have V := V.as e
  refine AW.bipush dL_isText_306 bp_97 (by decide) ?_
  refine AW.aload_n dL_isText_308 rfl ?_
  refine AW.iload dL_isText_309 rfl ?_
  refine AW.iconst dL_isText_311 (by decide) ?_
  refine AW.icmp_geT (tgt := 321) dL_isText_312 rfl (by omega) ?_
  refine AW.pcs (pc2 := 321) rfl ?_
  refine AW.iload_n dL_isText_321 rfl ?_
  refine AW.iload dL_isText_322 rfl ?_
  refine AW.top (Int.toNat_of_nonneg (by omega)).symm ?_
  refine AW.callS (as := [vq _, vi _, vi _]) dL_isText_324 rfl rfl rfl okL_state lkL_79 rfl rfl rfl (leb (by omega)) (leb (by omega)) rfl (kL_stZ J.T V.s K (by omega) (by omega) (AW.k1 ?_))
  refine AW.bipush dL_isText_327 bp_32 (by decide) ?_
  refine AW.irem dL_isText_329 (by omega) ?_
  refine AW.top (zdg_n K (by omega) (by omega)).1 ?_
  refine AW.iaddB dL_isText_330 (by omega) ?_
  refine AW.iconst dL_isText_331 (by decide) ?_
  refine AW.isubB dL_isText_332 (by omega) ?_
  refine AW.icmp_neF (tgt := 340) dL_isText_333 rfl (by first | (rw [zs_b0 hw fn bn (by decide) (by decide) (by decide) (by decide) (by omega)]; omega)) ?_
  refine AW.iconst dL_isText_336 (by decide) ?_
  refine AW.goto (tgt := 341) dL_isText_337 rfl ?_
  refine AW.istore dL_isText_341 rfl ?_
  refine AW.iincB dL_isText_343 rfl rfl (by omega) ?_
  refine AW.locs [(0, vq _), (1, vq _), (2, vq _), (3, vi _), (4, vi _), (5, vi _), (6, vi _), (7, vi _), (8, vi _), (9, vi _), (10, vi _)] ⟨rfl, rfl, rfl, rfl, rfl, rfl, rfl, rfl, rfl, rfl, rfl, trivial⟩ ?_
  refine AW.iincB dL_isText_346 rfl rfl (by omega) ?_
  refine AW.goto (tgt := 211) dL_isText_349 rfl ?_
  refine AW.iload dL_isText_211 rfl ?_
  refine AW.iconst dL_isText_213 (by decide) ?_
  refine AW.icmp_geF (tgt := 352) dL_isText_214 rfl (by omega) ?_
  refine AW.iload dL_isText_217 rfl ?_
  refine AW.if_eqF (tgt := 352) dL_isText_219 rfl (by omega) ?_
  refine AW.iload dL_isText_222 rfl ?_
  refine AW.iconst dL_isText_224 (by decide) ?_
  refine AW.icmp_neT (tgt := 251) dL_isText_225 rfl (by omega) ?_
  refine AW.locs [(0, vq _), (1, vq _), (2, vq _), (3, vi _), (4, vi _), (5, vi _), (6, vi _), (7, vi _), (8, vi _), (9, vi _), (10, vi _)] ⟨rfl, rfl, rfl, rfl, rfl, rfl, rfl, rfl, rfl, rfl, rfl, trivial⟩ ?_
  refine AW.aload_n dL_isText_251 rfl ?_
  refine AW.pcs (pc2 := 252) rfl ?_
  refine AW.iload_n dL_isText_252 rfl ?_
  refine AW.iload dL_isText_253 rfl ?_
  refine AW.iconst dL_isText_255 (by decide) ?_
  refine AW.icmp_geT (tgt := 263) dL_isText_256 rfl (by omega) ?_
  refine AW.iconst dL_isText_263 (by decide) ?_
  refine AW.iload dL_isText_264 rfl ?_
  refine AW.iconst dL_isText_266 (by decide) ?_
  refine AW.irem dL_isText_267 (by omega) ?_
  refine AW.callS (as := [vq _, vi _, vi _, vi _]) dL_isText_268 rfl rfl rfl okL_side lkL_86 rfl rfl rfl (leb (by omega)) (leb (by omega)) rfl (kL_side J.T V.s K h1 ha (by omega) (by decide) (AW.k1 ?_))
  refine AW.top (by first | exact zsd_10 | exact zsd_11 | exact zsd_00 | exact zsd_01) ?_
  refine AW.istore dL_isText_271 rfl ?_
  refine AW.iload dL_isText_273 rfl ?_
  refine AW.if_ltT (tgt := 346) dL_isText_275 rfl (by omega) ?_
  refine AW.locs [(0, vq _), (1, vq _), (2, vq _), (3, vi _), (4, vi _), (5, vi _), (6, vi _), (7, vi _), (8, vi _), (9, vi _), (10, vi _)] ⟨rfl, rfl, rfl, rfl, rfl, rfl, rfl, rfl, rfl, rfl, rfl, trivial⟩ ?_
  refine AW.iincB dL_isText_346 rfl rfl (by omega) ?_
  refine AW.goto (tgt := 211) dL_isText_349 rfl ?_
  refine AW.iload dL_isText_211 rfl ?_
  refine AW.iconst dL_isText_213 (by decide) ?_
  refine AW.icmp_geT (tgt := 352) dL_isText_214 rfl (by omega) ?_
  refine AW.iload dL_isText_352 rfl ?_
  refine AW.if_eqF (tgt := 390) dL_isText_354 rfl (by omega) ?_
  refine AW.aload_n dL_isText_357 rfl ?_
  refine AW.iconst dL_isText_358 (by decide) ?_
  refine AW.iconst dL_isText_359 (by decide) ?_
  refine AW.iload_n dL_isText_360 rfl ?_
  refine AW.iload dL_isText_361 rfl ?_
  refine AW.pcs (pc2 := 363) rfl ?_
  refine AW.callSH (as := [vq _, vi _, vi _, vi _, vi _]) dL_isText_363 rfl rfl rfl okL_asks lkL_119 rfl rfl rfl (by omega) (by omega) rfl (q_textX J (fun z => z.2 (zs_e hw fn bn (by decide) (by decide) (by decide) (by decide))) (fun g J e => (AW.k1 ?_)))
  have e0 : la_s _ g := fun j => ⟨fun i => (e j).1 i |>.trans ((e0 j).1 i), fun i => (e j).2 i |>.trans ((e0 j).2 i)⟩
  refine AW.sipush dL_isText_366 sp_m300 (by decide) ?_
  refine AW.icmp_neF (tgt := 390) dL_isText_369 rfl (by omega) ?_
  refine AW.aload_n dL_isText_372 rfl ?_
  refine AW.iconst dL_isText_373 (by decide) ?_
  refine AW.iconst dL_isText_374 (by decide) ?_
  refine AW.iload_n dL_isText_375 rfl ?_
  refine AW.iconst dL_isText_376 (by decide) ?_
  refine AW.callSH (as := [vq _, vi _, vi _, vi _, vi _]) dL_isText_377 rfl rfl rfl okL_asks lkL_119 rfl rfl rfl (by omega) (by omega) rfl (q_textX J (fun z => z.2 (zs_n (by decide))) (fun g J e => (AW.k1 ?_)))
  have e0 : la_s _ g := fun j => ⟨fun i => (e j).1 i |>.trans ((e0 j).1 i), fun i => (e j).2 i |>.trans ((e0 j).2 i)⟩
  refine AW.sipush dL_isText_380 sp_m300 (by decide) ?_
  refine AW.icmp_neF (tgt := 390) dL_isText_383 rfl (by omega) ?_
  refine AW.iconst dL_isText_386 (by decide) ?_
  refine AW.goto (tgt := 391) dL_isText_387 rfl ?_
  refine AW.zret dL_isText_391 rfl ?_ ?_
  · omega
  exact k g _ J e0
set_option maxHeartbeats 4000000 in
theorem kL_isText1 (J : IV L h Z c b) (V : JV h Z) (h1 : 1 ≤ a) (ha : (a : Int) ≤ Z 1 0) (hw : Z 7 a = 1) (k : ∀ g b', IV L g Z c b' → la_s h g → Q g (.inl (some (vi 1)))) : AC mL_isText fL_isText loL_isText 60 480 h [vr mF, vr (la 1), vr (la 2), vi (a : Int)] Q := by
  have K := J.K
  have b1 := K.b1
  have b2 := K.b2
  obtain ⟨⟨q1, q2, q3, q4⟩, s, d1, d2, d3, d4⟩ := K.p h1 ha
  unfold StK at s
  have fn : zfn Z (24 * 0 + (a : Int)) = 1 := by unfold zfn; rw [zfr0_n, zfr1_n]; (repeat' split) <;> omega
  have bn : zbn Z (24 * 0 + (a : Int)) = 1 := by unfold zbn; rw [zbe0_n, zbe1_n]; (repeat' split) <;> omega
  have sg : (0 ≤ Z 8 (2 * a) ∨ Z 8 (2 * a) = -1) ∧ (0 ≤ Z 8 (2 * a + 1) ∨ Z 8 (2 * a + 1) = -1) := by omega
  have s := fun _ : Unit => s
  have g0 : 0 ≤ Z 8 (2 * a) ∧ 0 ≤ Z 9 (2 * a) ∧ Z 8 (2 * a + 1) = -1 ∧ Z 9 (2 * a + 1) = -1 := by have := s (); omega
  have n0 := (K.nm (v := a - 1) (f := (Z 8 (2 * a)).toNat) (by omega) (by omega)).1
  have n1 := (K.nm (v := a - 1) (f := (Z 8 (2 * a + 1)).toNat) (by omega) (by omega)).1
  have m0 := (K.nm (v := a) (f := (Z 9 (2 * a)).toNat) (by omega) (by omega)).1
  have m1 := (K.nm (v := a) (f := (Z 9 (2 * a + 1)).toNat) (by omega) (by omega)).1
  have p0 : 0 ≤ Z 8 (2 * a) → ¬ Z 5 (48 * (a - 1) + (Z 8 (2 * a)).toNat) = -1 := fun z => d1 (by omega)
  have p1 : 0 ≤ Z 8 (2 * a + 1) → ¬ Z 5 (48 * (a - 1) + (Z 8 (2 * a + 1)).toNat) = -1 := fun z => d2 (by omega)
  have r0 : 0 ≤ Z 9 (2 * a) → ¬ Z 5 (48 * a + (Z 9 (2 * a)).toNat) = -1 := fun z => d3 (by omega)
  have r1 : 0 ≤ Z 9 (2 * a + 1) → ¬ Z 5 (48 * a + (Z 9 (2 * a + 1)).toNat) = -1 := fun z => d4 (by omega)
  clear d1 d2 d3 d4
  have e0 : la_s h h := fun j => ⟨fun _ => rfl, fun _ => rfl⟩
  refine AC.mk (by decide) (Nat.le_of_ble_eq_true rfl) ?_
  refine AW.aload_n dL_isText_0 rfl ?_
  refine AW.iload_n dL_isText_1 rfl ?_
  refine AW.aldIE dL_isText_2 J.T.a2 (by omega) (by omega) (by exact V.s.w (a := a) h1 ha) ?_
  refine AW.bipush dL_isText_3 bp_8 (by decide) ?_
  refine AW.irem dL_isText_5 (by omega) ?_
  refine AW.top (y := 1) (by rw [zwd_7 K h1 ha]; exact hw) ?_
  refine AW.istore dL_isText_6 rfl ?_
  refine AW.iload dL_isText_8 rfl ?_
  refine AW.if_neT (tgt := 18) dL_isText_10 rfl (by omega) ?_
  refine AW.iload dL_isText_18 rfl ?_
  refine AW.iconst dL_isText_20 (by decide) ?_
  refine AW.icmp_neF (tgt := 29) dL_isText_21 rfl (by omega) ?_
  refine AW.bipush dL_isText_24 bp_114 (by decide) ?_
  refine AW.goto (tgt := 75) dL_isText_26 rfl ?_
  refine AW.istore dL_isText_75 rfl ?_
  refine AW.iload dL_isText_77 rfl ?_
  refine AW.if_neT (tgt := 86) dL_isText_79 rfl (by omega) ?_
  refine AW.iload dL_isText_86 rfl ?_
  refine AW.iconst dL_isText_88 (by decide) ?_
  refine AW.icmp_neF (tgt := 97) dL_isText_89 rfl (by omega) ?_
  refine AW.bipush dL_isText_92 bp_6 (by decide) ?_
  refine AW.goto (tgt := 108) dL_isText_94 rfl ?_
  refine AW.istore dL_isText_108 rfl ?_
  refine AW.iload dL_isText_110 rfl ?_
  refine AW.pcs (pc2 := 112) rfl ?_
  refine AW.if_neT (tgt := 120) dL_isText_112 rfl (by omega) ?_
  refine AW.iload dL_isText_120 rfl ?_
  refine AW.iconst dL_isText_122 (by decide) ?_
  refine AW.icmp_neF (tgt := 131) dL_isText_123 rfl (by omega) ?_
  refine AW.bipush dL_isText_126 bp_101 (by decide) ?_
  refine AW.goto (tgt := 172) dL_isText_128 rfl ?_
  refine AW.istore dL_isText_172 rfl ?_
  refine AW.locs [(0, vq _), (1, vq _), (2, vq _), (3, vi _), (4, vi _), (5, vi _), (6, vi _), (7, vi _)] ⟨rfl, rfl, rfl, rfl, rfl, rfl, rfl, rfl, trivial⟩ ?_
  refine AW.aload_n dL_isText_174 rfl ?_
  refine AW.iconst dL_isText_175 (by decide) ?_
  refine AW.iload_n dL_isText_176 rfl ?_
  refine AW.iconst dL_isText_177 (by decide) ?_
  refine AW.callV (as := [vi _, vi _, vi _]) dL_isText_178 rfl rfl rfl okX7_text lkL_61 J.F rfl rfl rfl rfl (leb (by omega)) (leb (by omega)) rfl (t_text J (by omega) (by first | (rw [zs_l hw (by decide) (by decide)]; decide) | (rw [zs_fs (j := 0) hw fn (by decide) (by decide) (by decide) (by decide)]; decide) | (rw [zs_bs (j := 0) hw fn bn (by decide) (by decide) (by decide) (by decide) (by decide)]; decide) | (rw [zs_gt hw fn (by decide) (by decide) (by decide)]; decide) | (rw [zs_f0 hw fn (by decide) (by decide) (by decide) h1 (by omega)]; omega) | (rw [zs_b0 hw fn bn (by decide) (by decide) (by decide) (by decide) (by omega)]; omega)) (fun g J e => (AW.k1 ?_)))
  have e0 : la_s _ g := fun j => ⟨fun i => (e j).1 i |>.trans ((e0 j).1 i), fun i => (e j).2 i |>.trans ((e0 j).2 i)⟩
  have V := V.as e
  refine AW.top (y := 114) (by rw [zs_l hw (by decide) (by decide)]; rfl) ?_
  refine AW.iload dL_isText_181 rfl ?_
  refine AW.icmp_neF (tgt := 205) dL_isText_183 rfl (by omega) ?_
  refine AW.aload_n dL_isText_186 rfl ?_
  refine AW.iconst dL_isText_187 (by decide) ?_
  refine AW.iload_n dL_isText_188 rfl ?_
  refine AW.iload dL_isText_189 rfl ?_
  refine AW.iconst dL_isText_191 (by decide) ?_
  refine AW.isubB dL_isText_192 (by omega) ?_
  refine AW.callV (as := [vi _, vi _, vi _]) dL_isText_193 rfl rfl rfl okX7_text lkL_61 J.F rfl rfl rfl rfl (leb (by omega)) (leb (by omega)) rfl (t_text J (by omega) (by first | (rw [zs_l hw (by decide) (by decide)]; decide) | (rw [zs_fs (j := 0) hw fn (by decide) (by decide) (by decide) (by decide)]; decide) | (rw [zs_bs (j := 0) hw fn bn (by decide) (by decide) (by decide) (by decide) (by decide)]; decide) | (rw [zs_gt hw fn (by decide) (by decide) (by decide)]; decide) | (rw [zs_f0 hw fn (by decide) (by decide) (by decide) h1 (by omega)]; omega) | (rw [zs_b0 hw fn bn (by decide) (by decide) (by decide) (by decide) (by omega)]; omega)) (fun g J e => (AW.k1 ?_)))
  have e0 : la_s _ g := fun j => ⟨fun i => (e j).1 i |>.trans ((e0 j).1 i), fun i => (e j).2 i |>.trans ((e0 j).2 i)⟩
  have V := V.as e
  refine AW.top (y := 101) (by rw [zs_l hw (by decide) (by decide)]; rfl) ?_
  refine AW.iload dL_isText_196 rfl ?_
  refine AW.icmp_neF (tgt := 205) dL_isText_198 rfl (by omega) ?_
  refine AW.iconst dL_isText_201 (by decide) ?_
  refine AW.pcs (pc2 := 202) rfl ?_
  refine AW.goto (tgt := 206) dL_isText_202 rfl ?_
  refine AW.istore dL_isText_206 rfl ?_
  refine AW.iconst dL_isText_208 (by decide) ?_
  refine AW.istore dL_isText_209 rfl ?_
  refine AW.iload dL_isText_211 rfl ?_
  refine AW.iconst dL_isText_213 (by decide) ?_
  refine AW.icmp_geF (tgt := 352) dL_isText_214 rfl (by omega) ?_
  refine AW.iload dL_isText_217 rfl ?_
  refine AW.if_eqF (tgt := 352) dL_isText_219 rfl (by omega) ?_
  refine AW.iload dL_isText_222 rfl ?_
  refine AW.iconst dL_isText_224 (by decide) ?_
  refine AW.icmp_neT (tgt := 251) dL_isText_225 rfl (by omega) ?_
  refine AW.locs [(0, vq _), (1, vq _), (2, vq _), (3, vi _), (4, vi _), (5, vi _), (6, vi _), (7, vi _), (8, vi _), (9, vi _)] ⟨rfl, rfl, rfl, rfl, rfl, rfl, rfl, rfl, rfl, rfl, trivial⟩ ?_
  refine AW.aload_n dL_isText_251 rfl ?_
  refine AW.iload_n dL_isText_252 rfl ?_
  refine AW.iload dL_isText_253 rfl ?_
  refine AW.iconst dL_isText_255 (by decide) ?_
  refine AW.icmp_geF (tgt := 263) dL_isText_256 rfl (by omega) ?_
  refine AW.iconst dL_isText_259 (by decide) ?_
  refine AW.goto (tgt := 264) dL_isText_260 rfl ?_
  refine AW.iload dL_isText_264 rfl ?_
  refine AW.iconst dL_isText_266 (by decide) ?_
  refine AW.irem dL_isText_267 (by omega) ?_
  refine AW.callS (as := [vq _, vi _, vi _, vi _]) dL_isText_268 rfl rfl rfl okL_side lkL_86 rfl rfl rfl (leb (by omega)) (leb (by omega)) rfl (kL_side J.T V.s K h1 ha (by omega) (by decide) (AW.k1 ?_))
  refine AW.top (by first | exact zsd_10 | exact zsd_11 | exact zsd_00 | exact zsd_01) ?_
  refine AW.istore dL_isText_271 rfl ?_
  refine AW.pcs (pc2 := 273) rfl ?_
  refine AW.iload dL_isText_273 rfl ?_
  refine AW.if_ltF (tgt := 346) dL_isText_275 rfl (by omega) ?_
  refine AW.iload dL_isText_278 rfl ?_
  refine AW.if_eqF (tgt := 346) dL_isText_280 rfl (by omega) ?_
  refine AW.aload_n dL_isText_283 rfl ?_
  refine AW.iconst dL_isText_284 (by decide) ?_
  refine AW.iload_n dL_isText_285 rfl ?_
  refine AW.iload dL_isText_286 rfl ?_
  refine AW.callV (as := [vi _, vi _, vi _]) dL_isText_288 rfl rfl rfl okX7_text lkL_61 J.F rfl rfl rfl rfl (leb (by omega)) (leb (by omega)) rfl (t_text J (by omega) (by first | (rw [zs_l hw (by decide) (by decide)]; decide) | (rw [zs_fs (j := 0) hw fn (by decide) (by decide) (by decide) (by decide)]; decide) | (rw [zs_bs (j := 0) hw fn bn (by decide) (by decide) (by decide) (by decide) (by decide)]; decide) | (rw [zs_gt hw fn (by decide) (by decide) (by decide)]; decide) | (rw [zs_f0 hw fn (by decide) (by decide) (by decide) h1 (by omega)]; omega) | (rw [zs_b0 hw fn bn (by decide) (by decide) (by decide) (by decide) (by omega)]; omega)) (fun g J e => (AW.k1 ?_)))
  have e0 : la_s _ g := fun j => ⟨fun i => (e j).1 i |>.trans ((e0 j).1 i), fun i => (e j).2 i |>.trans ((e0 j).2 i)⟩
  have V := V.as e
  refine AW.top (y := 32) (by first | exact zs_fs (j := 0) hw fn (by decide) (by decide) (by decide) (by decide) | exact zs_bs (j := 0) hw fn bn (by decide) (by decide) (by decide) (by decide) (by decide)) ?_
  refine AW.bipush dL_isText_291 bp_32 (by decide) ?_
  refine AW.icmp_neF (tgt := 340) dL_isText_293 rfl (by omega) ?_
  refine AW.aload_n dL_isText_296 rfl ?_
  refine AW.iconst dL_isText_297 (by decide) ?_
  refine AW.iload_n dL_isText_298 rfl ?_
  refine AW.iload dL_isText_299 rfl ?_
  refine AW.iconst dL_isText_301 (by decide) ?_
  refine AW.iaddB dL_isText_302 (by omega) ?_
  refine AW.callV (as := [vi _, vi _, vi _]) dL_isText_303 rfl rfl rfl okX7_text lkL_61 J.F rfl rfl rfl rfl (leb (by omega)) (leb (by omega)) rfl (t_text J (by omega) (by first | (rw [zs_l hw (by decide) (by decide)]; decide) | (rw [zs_fs (j := 0) hw fn (by decide) (by decide) (by decide) (by decide)]; decide) | (rw [zs_bs (j := 0) hw fn bn (by decide) (by decide) (by decide) (by decide) (by decide)]; decide) | (rw [zs_gt hw fn (by decide) (by decide) (by decide)]; decide) | (rw [zs_f0 hw fn (by decide) (by decide) (by decide) h1 (by omega)]; omega) | (rw [zs_b0 hw fn bn (by decide) (by decide) (by decide) (by decide) (by omega)]; omega)) (fun g J e => (AW.k1 ?_)))
  have e0 : la_s _ g := fun j => ⟨fun i => (e j).1 i |>.trans ((e0 j).1 i), fun i => (e j).2 i |>.trans ((e0 j).2 i)⟩
  have V := V.as e
  refine AW.bipush dL_isText_306 bp_97 (by decide) ?_
  refine AW.aload_n dL_isText_308 rfl ?_
  refine AW.iload dL_isText_309 rfl ?_
  refine AW.iconst dL_isText_311 (by decide) ?_
  refine AW.icmp_geF (tgt := 321) dL_isText_312 rfl (by omega) ?_
  refine AW.iload_n dL_isText_315 rfl ?_
  refine AW.pcs (pc2 := 316) rfl ?_
  refine AW.iconst dL_isText_316 (by decide) ?_
  refine AW.isubB dL_isText_317 (by omega) ?_
  refine AW.top (y := ((a - 1 : Nat) : Int)) (by omega) ?_
  refine AW.goto (tgt := 322) dL_isText_318 rfl ?_
  refine AW.iload dL_isText_322 rfl ?_
  refine AW.top (Int.toNat_of_nonneg (by omega)).symm ?_
  refine AW.callS (as := [vq _, vi _, vi _]) dL_isText_324 rfl rfl rfl okL_state lkL_79 rfl rfl rfl (leb (by omega)) (leb (by omega)) rfl (kL_stZ J.T V.s K (by omega) (by omega) (AW.k1 ?_))
  refine AW.bipush dL_isText_327 bp_32 (by decide) ?_
  refine AW.irem dL_isText_329 (by omega) ?_
  refine AW.top (zdg_n K (by omega) (by omega)).1 ?_
  refine AW.iaddB dL_isText_330 (by omega) ?_
  refine AW.iconst dL_isText_331 (by decide) ?_
  refine AW.isubB dL_isText_332 (by omega) ?_
  refine AW.icmp_neF (tgt := 340) dL_isText_333 rfl (by first | (rw [zs_f0 hw fn (by decide) (by decide) (by decide) h1 (by omega)]; omega) | (rw [zs_b0 hw fn bn (by decide) (by decide) (by decide) (by decide) (by omega)]; omega)) ?_
  refine AW.iconst dL_isText_336 (by decide) ?_
  refine AW.goto (tgt := 341) dL_isText_337 rfl ?_
  refine AW.istore dL_isText_341 rfl ?_
  refine AW.iincB dL_isText_343 rfl rfl (by omega) ?_
  refine AW.locs [(0, vq _), (1, vq _), (2, vq _), (3, vi _), (4, vi _), (5, vi _), (6, vi _), (7, vi _), (8, vi _), (9, vi _), (10, vi _)] ⟨rfl, rfl, rfl, rfl, rfl, rfl, rfl, rfl, rfl, rfl, rfl, trivial⟩ ?_
  refine AW.iincB dL_isText_346 rfl rfl (by omega) ?_
  refine AW.goto (tgt := 211) dL_isText_349 rfl ?_
  refine AW.iload dL_isText_211 rfl ?_
  refine AW.iconst dL_isText_213 (by decide) ?_
  refine AW.icmp_geF (tgt := 352) dL_isText_214 rfl (by omega) ?_
  refine AW.iload dL_isText_217 rfl ?_
  refine AW.if_eqF (tgt := 352) dL_isText_219 rfl (by omega) ?_
  refine AW.iload dL_isText_222 rfl ?_
  refine AW.iconst dL_isText_224 (by decide) ?_
  refine AW.pcs (pc2 := 225) rfl ?_
  refine AW.icmp_neT (tgt := 251) dL_isText_225 rfl (by omega) ?_
  refine AW.locs [(0, vq _), (1, vq _), (2, vq _), (3, vi _), (4, vi _), (5, vi _), (6, vi _), (7, vi _), (8, vi _), (9, vi _), (10, vi _)] ⟨rfl, rfl, rfl, rfl, rfl, rfl, rfl, rfl, rfl, rfl, rfl, trivial⟩ ?_
  refine AW.aload_n dL_isText_251 rfl ?_
  refine AW.iload_n dL_isText_252 rfl ?_
  refine AW.iload dL_isText_253 rfl ?_
  refine AW.iconst dL_isText_255 (by decide) ?_
  refine AW.icmp_geF (tgt := 263) dL_isText_256 rfl (by omega) ?_
  refine AW.iconst dL_isText_259 (by decide) ?_
  refine AW.goto (tgt := 264) dL_isText_260 rfl ?_
  refine AW.iload dL_isText_264 rfl ?_
  refine AW.iconst dL_isText_266 (by decide) ?_
  refine AW.irem dL_isText_267 (by omega) ?_
  refine AW.callS (as := [vq _, vi _, vi _, vi _]) dL_isText_268 rfl rfl rfl okL_side lkL_86 rfl rfl rfl (leb (by omega)) (leb (by omega)) rfl (kL_side J.T V.s K h1 ha (by omega) (by decide) (AW.k1 ?_))
  refine AW.top (by first | exact zsd_10 | exact zsd_11 | exact zsd_00 | exact zsd_01) ?_
  refine AW.istore dL_isText_271 rfl ?_
  refine AW.iload dL_isText_273 rfl ?_
  refine AW.if_ltT (tgt := 346) dL_isText_275 rfl (by omega) ?_
  refine AW.locs [(0, vq _), (1, vq _), (2, vq _), (3, vi _), (4, vi _), (5, vi _), (6, vi _), (7, vi _), (8, vi _), (9, vi _), (10, vi _)] ⟨rfl, rfl, rfl, rfl, rfl, rfl, rfl, rfl, rfl, rfl, rfl, trivial⟩ ?_
  refine AW.iincB dL_isText_346 rfl rfl (by omega) ?_
  refine AW.goto (tgt := 211) dL_isText_349 rfl ?_
  refine AW.iload dL_isText_211 rfl ?_
  refine AW.iconst dL_isText_213 (by decide) ?_
  refine AW.icmp_geF (tgt := 352) dL_isText_214 rfl (by omega) ?_
  refine AW.iload dL_isText_217 rfl ?_
  refine AW.if_eqF (tgt := 352) dL_isText_219 rfl (by omega) ?_
  refine AW.iload dL_isText_222 rfl ?_
  refine AW.iconst dL_isText_224 (by decide) ?_
  refine AW.pcs (pc2 := 225) rfl ?_
  refine AW.icmp_neF (tgt := 251) dL_isText_225 rfl (by omega) ?_
  refine AW.aload_n dL_isText_228 rfl ?_
  refine AW.iconst dL_isText_229 (by decide) ?_
  refine AW.iload_n dL_isText_230 rfl ?_
  refine AW.iload dL_isText_231 rfl ?_
  refine AW.callV (as := [vi _, vi _, vi _]) dL_isText_233 rfl rfl rfl okX7_text lkL_61 J.F rfl rfl rfl rfl (leb (by omega)) (leb (by omega)) rfl (t_text J (by omega) (by first | (rw [zs_l hw (by decide) (by decide)]; decide) | (rw [zs_fs (j := 0) hw fn (by decide) (by decide) (by decide) (by decide)]; decide) | (rw [zs_bs (j := 0) hw fn bn (by decide) (by decide) (by decide) (by decide) (by decide)]; decide) | (rw [zs_gt hw fn (by decide) (by decide) (by decide)]; decide) | (rw [zs_f0 hw fn (by decide) (by decide) (by decide) h1 (by omega)]; omega) | (rw [zs_b0 hw fn bn (by decide) (by decide) (by decide) (by decide) (by omega)]; omega)) (fun g J e => (AW.k1 ?_)))
  have e0 : la_s _ g := fun j => ⟨fun i => (e j).1 i |>.trans ((e0 j).1 i), fun i => (e j).2 i |>.trans ((e0 j).2 i)⟩
  have V := V.as e
  refine AW.top (y := 62) (zs_gt hw fn (by decide) (by decide) (by decide)) ?_
  refine AW.bipush dL_isText_236 bp_62 (by decide) ?_
  refine AW.icmp_neF (tgt := 245) dL_isText_238 rfl (by omega) ?_
  refine AW.iconst dL_isText_241 (by decide) ?_
  refine AW.goto (tgt := 246) dL_isText_242 rfl ?_
  refine AW.istore dL_isText_246 rfl ?_
  refine AW.iincB dL_isText_248 rfl rfl (by omega) ?_
  refine AW.locs [(0, vq _), (1, vq _), (2, vq _), (3, vi _), (4, vi _), (5, vi _), (6, vi _), (7, vi _), (8, vi _), (9, vi _), (10, vi _)] ⟨rfl, rfl, rfl, rfl, rfl, rfl, rfl, rfl, rfl, rfl, rfl, trivial⟩ ?_
  refine AW.aload_n dL_isText_251 rfl ?_
  refine AW.iload_n dL_isText_252 rfl ?_
  refine AW.iload dL_isText_253 rfl ?_
  refine AW.iconst dL_isText_255 (by decide) ?_
  refine AW.icmp_geT (tgt := 263) dL_isText_256 rfl (by omega) ?_
  refine AW.iconst dL_isText_263 (by decide) ?_
  refine AW.iload dL_isText_264 rfl ?_
  refine AW.iconst dL_isText_266 (by decide) ?_
  refine AW.irem dL_isText_267 (by omega) ?_
  refine AW.callS (as := [vq _, vi _, vi _, vi _]) dL_isText_268 rfl rfl rfl okL_side lkL_86 rfl rfl rfl (leb (by omega)) (leb (by omega)) rfl (kL_side J.T V.s K h1 ha (by omega) (by decide) (AW.k1 ?_))
  refine AW.top (by first | exact zsd_10 | exact zsd_11 | exact zsd_00 | exact zsd_01) ?_
  refine AW.istore dL_isText_271 rfl ?_
  refine AW.iload dL_isText_273 rfl ?_
  refine AW.pcs (pc2 := 275) rfl ?_
  refine AW.if_ltF (tgt := 346) dL_isText_275 rfl (by omega) ?_
  refine AW.iload dL_isText_278 rfl ?_
  refine AW.if_eqF (tgt := 346) dL_isText_280 rfl (by omega) ?_
  refine AW.aload_n dL_isText_283 rfl ?_
  refine AW.iconst dL_isText_284 (by decide) ?_
  refine AW.iload_n dL_isText_285 rfl ?_
  refine AW.iload dL_isText_286 rfl ?_
  refine AW.callV (as := [vi _, vi _, vi _]) dL_isText_288 rfl rfl rfl okX7_text lkL_61 J.F rfl rfl rfl rfl (leb (by omega)) (leb (by omega)) rfl (t_text J (by omega) (by first | (rw [zs_l hw (by decide) (by decide)]; decide) | (rw [zs_fs (j := 0) hw fn (by decide) (by decide) (by decide) (by decide)]; decide) | (rw [zs_bs (j := 0) hw fn bn (by decide) (by decide) (by decide) (by decide) (by decide)]; decide) | (rw [zs_gt hw fn (by decide) (by decide) (by decide)]; decide) | (rw [zs_f0 hw fn (by decide) (by decide) (by decide) h1 (by omega)]; omega) | (rw [zs_b0 hw fn bn (by decide) (by decide) (by decide) (by decide) (by omega)]; omega)) (fun g J e => (AW.k1 ?_)))
  have e0 : la_s _ g := fun j => ⟨fun i => (e j).1 i |>.trans ((e0 j).1 i), fun i => (e j).2 i |>.trans ((e0 j).2 i)⟩
  have V := V.as e
  refine AW.top (y := 32) (by first | exact zs_fs (j := 0) hw fn (by decide) (by decide) (by decide) (by decide) | exact zs_bs (j := 0) hw fn bn (by decide) (by decide) (by decide) (by decide) (by decide)) ?_
  refine AW.bipush dL_isText_291 bp_32 (by decide) ?_
  refine AW.icmp_neF (tgt := 340) dL_isText_293 rfl (by omega) ?_
  refine AW.aload_n dL_isText_296 rfl ?_
  refine AW.iconst dL_isText_297 (by decide) ?_
  refine AW.iload_n dL_isText_298 rfl ?_
  refine AW.iload dL_isText_299 rfl ?_
  refine AW.iconst dL_isText_301 (by decide) ?_
  refine AW.iaddB dL_isText_302 (by omega) ?_
  refine AW.callV (as := [vi _, vi _, vi _]) dL_isText_303 rfl rfl rfl okX7_text lkL_61 J.F rfl rfl rfl rfl (leb (by omega)) (leb (by omega)) rfl (t_text J (by omega) (by first | (rw [zs_l hw (by decide) (by decide)]; decide) | (rw [zs_fs (j := 0) hw fn (by decide) (by decide) (by decide) (by decide)]; decide) | (rw [zs_bs (j := 0) hw fn bn (by decide) (by decide) (by decide) (by decide) (by decide)]; decide) | (rw [zs_gt hw fn (by decide) (by decide) (by decide)]; decide) | (rw [zs_f0 hw fn (by decide) (by decide) (by decide) h1 (by omega)]; omega) | (rw [zs_b0 hw fn bn (by decide) (by decide) (by decide) (by decide) (by omega)]; omega)) (fun g J e => (AW.k1 ?_)))
  have e0 : la_s _ g := fun j => ⟨fun i => (e j).1 i |>.trans ((e0 j).1 i), fun i => (e j).2 i |>.trans ((e0 j).2 i)⟩
  have V := V.as e
  refine AW.bipush dL_isText_306 bp_97 (by decide) ?_
  refine AW.aload_n dL_isText_308 rfl ?_
  refine AW.iload dL_isText_309 rfl ?_
  refine AW.iconst dL_isText_311 (by decide) ?_
  refine AW.icmp_geT (tgt := 321) dL_isText_312 rfl (by omega) ?_
  refine AW.iload_n dL_isText_321 rfl ?_
  refine AW.iload dL_isText_322 rfl ?_
  refine AW.top (Int.toNat_of_nonneg (by omega)).symm ?_
  refine AW.pcs (pc2 := 324) rfl ?_
  refine AW.callS (as := [vq _, vi _, vi _]) dL_isText_324 rfl rfl rfl okL_state lkL_79 rfl rfl rfl (leb (by omega)) (leb (by omega)) rfl (kL_stZ J.T V.s K (by omega) (by omega) (AW.k1 ?_))
  refine AW.bipush dL_isText_327 bp_32 (by decide) ?_
  refine AW.irem dL_isText_329 (by omega) ?_
  refine AW.top (zdg_n K (by omega) (by omega)).1 ?_
  refine AW.iaddB dL_isText_330 (by omega) ?_
  refine AW.iconst dL_isText_331 (by decide) ?_
  refine AW.isubB dL_isText_332 (by omega) ?_
  refine AW.icmp_neF (tgt := 340) dL_isText_333 rfl (by first | (rw [zs_f0 hw fn (by decide) (by decide) (by decide) h1 (by omega)]; omega) | (rw [zs_b0 hw fn bn (by decide) (by decide) (by decide) (by decide) (by omega)]; omega)) ?_
  refine AW.iconst dL_isText_336 (by decide) ?_
  refine AW.goto (tgt := 341) dL_isText_337 rfl ?_
  refine AW.istore dL_isText_341 rfl ?_
  refine AW.iincB dL_isText_343 rfl rfl (by omega) ?_
  refine AW.locs [(0, vq _), (1, vq _), (2, vq _), (3, vi _), (4, vi _), (5, vi _), (6, vi _), (7, vi _), (8, vi _), (9, vi _), (10, vi _)] ⟨rfl, rfl, rfl, rfl, rfl, rfl, rfl, rfl, rfl, rfl, rfl, trivial⟩ ?_
  refine AW.iincB dL_isText_346 rfl rfl (by omega) ?_
  refine AW.goto (tgt := 211) dL_isText_349 rfl ?_
  refine AW.iload dL_isText_211 rfl ?_
  refine AW.iconst dL_isText_213 (by decide) ?_
  refine AW.icmp_geF (tgt := 352) dL_isText_214 rfl (by omega) ?_
  refine AW.iload dL_isText_217 rfl ?_
  refine AW.if_eqF (tgt := 352) dL_isText_219 rfl (by omega) ?_
  refine AW.iload dL_isText_222 rfl ?_
  refine AW.iconst dL_isText_224 (by decide) ?_
  refine AW.icmp_neT (tgt := 251) dL_isText_225 rfl (by omega) ?_
  refine AW.locs [(0, vq _), (1, vq _), (2, vq _), (3, vi _), (4, vi _), (5, vi _), (6, vi _), (7, vi _), (8, vi _), (9, vi _), (10, vi _)] ⟨rfl, rfl, rfl, rfl, rfl, rfl, rfl, rfl, rfl, rfl, rfl, trivial⟩ ?_
  refine AW.aload_n dL_isText_251 rfl ?_
  refine AW.iload_n dL_isText_252 rfl ?_
  refine AW.iload dL_isText_253 rfl ?_
  refine AW.pcs (pc2 := 255) rfl ?_
  refine AW.iconst dL_isText_255 (by decide) ?_
  refine AW.icmp_geT (tgt := 263) dL_isText_256 rfl (by omega) ?_
  refine AW.iconst dL_isText_263 (by decide) ?_
  refine AW.iload dL_isText_264 rfl ?_
  refine AW.iconst dL_isText_266 (by decide) ?_
  refine AW.irem dL_isText_267 (by omega) ?_
  refine AW.callS (as := [vq _, vi _, vi _, vi _]) dL_isText_268 rfl rfl rfl okL_side lkL_86 rfl rfl rfl (leb (by omega)) (leb (by omega)) rfl (kL_side J.T V.s K h1 ha (by omega) (by decide) (AW.k1 ?_))
  refine AW.top (by first | exact zsd_10 | exact zsd_11 | exact zsd_00 | exact zsd_01) ?_
  refine AW.istore dL_isText_271 rfl ?_
  refine AW.iload dL_isText_273 rfl ?_
  refine AW.if_ltT (tgt := 346) dL_isText_275 rfl (by omega) ?_
  refine AW.locs [(0, vq _), (1, vq _), (2, vq _), (3, vi _), (4, vi _), (5, vi _), (6, vi _), (7, vi _), (8, vi _), (9, vi _), (10, vi _)] ⟨rfl, rfl, rfl, rfl, rfl, rfl, rfl, rfl, rfl, rfl, rfl, trivial⟩ ?_
  refine AW.iincB dL_isText_346 rfl rfl (by omega) ?_
  refine AW.goto (tgt := 211) dL_isText_349 rfl ?_
  refine AW.iload dL_isText_211 rfl ?_
  refine AW.iconst dL_isText_213 (by decide) ?_
  refine AW.icmp_geT (tgt := 352) dL_isText_214 rfl (by omega) ?_
  refine AW.iload dL_isText_352 rfl ?_
  refine AW.if_eqF (tgt := 390) dL_isText_354 rfl (by omega) ?_
  refine AW.aload_n dL_isText_357 rfl ?_
  refine AW.iconst dL_isText_358 (by decide) ?_
  refine AW.iconst dL_isText_359 (by decide) ?_
  refine AW.iload_n dL_isText_360 rfl ?_
  refine AW.iload dL_isText_361 rfl ?_
  refine AW.callSH (as := [vq _, vi _, vi _, vi _, vi _]) dL_isText_363 rfl rfl rfl okL_asks lkL_119 rfl rfl rfl (by omega) (by omega) rfl (q_textX J (fun z => z.2 (zs_e hw fn bn (by decide) (by decide) (by decide) (by decide))) (fun g J e => (AW.k1 ?_)))
  have e0 : la_s _ g := fun j => ⟨fun i => (e j).1 i |>.trans ((e0 j).1 i), fun i => (e j).2 i |>.trans ((e0 j).2 i)⟩
  refine AW.sipush dL_isText_366 sp_m300 (by decide) ?_
  refine AW.pcs (pc2 := 369) rfl ?_
  refine AW.icmp_neF (tgt := 390) dL_isText_369 rfl (by omega) ?_
  refine AW.aload_n dL_isText_372 rfl ?_
  refine AW.iconst dL_isText_373 (by decide) ?_
  refine AW.iconst dL_isText_374 (by decide) ?_
  refine AW.iload_n dL_isText_375 rfl ?_
  refine AW.iconst dL_isText_376 (by decide) ?_
  refine AW.callSH (as := [vq _, vi _, vi _, vi _, vi _]) dL_isText_377 rfl rfl rfl okL_asks lkL_119 rfl rfl rfl (by omega) (by omega) rfl (q_textX J (fun z => z.2 (zs_n (by decide))) (fun g J e => (AW.k1 ?_)))
  have e0 : la_s _ g := fun j => ⟨fun i => (e j).1 i |>.trans ((e0 j).1 i), fun i => (e j).2 i |>.trans ((e0 j).2 i)⟩
  refine AW.sipush dL_isText_380 sp_m300 (by decide) ?_
  refine AW.icmp_neF (tgt := 390) dL_isText_383 rfl (by omega) ?_
  refine AW.iconst dL_isText_386 (by decide) ?_
  refine AW.goto (tgt := 391) dL_isText_387 rfl ?_
  refine AW.zret dL_isText_391 rfl ?_ ?_
  · omega
  exact k g _ J e0
set_option maxHeartbeats 4000000 in
theorem kL_isText2 (J : IV L h Z c b) (V : JV h Z) (h1 : 1 ≤ a) (ha : (a : Int) ≤ Z 1 0) (hw : Z 7 a = 2) (k : ∀ g b', IV L g Z c b' → la_s h g → Q g (.inl (some (vi 1)))) : AC mL_isText fL_isText loL_isText 60 480 h [vr mF, vr (la 1), vr (la 2), vi (a : Int)] Q := by
  have K := J.K
  have b1 := K.b1
  have b2 := K.b2
  obtain ⟨⟨q1, q2, q3, q4⟩, s, d1, d2, d3, d4⟩ := K.p h1 ha
  unfold StK at s
  have fn : zfn Z (24 * 0 + (a : Int)) = 1 := by unfold zfn; rw [zfr0_n, zfr1_n]; (repeat' split) <;> omega
  have bn : zbn Z (24 * 0 + (a : Int)) = 1 := by unfold zbn; rw [zbe0_n, zbe1_n]; (repeat' split) <;> omega
  have sg : (0 ≤ Z 8 (2 * a) ∨ Z 8 (2 * a) = -1) ∧ (0 ≤ Z 8 (2 * a + 1) ∨ Z 8 (2 * a + 1) = -1) := by omega
  have s := fun _ : Unit => s
  have g0 : 0 ≤ Z 8 (2 * a) ∧ 0 ≤ Z 9 (2 * a) ∧ Z 8 (2 * a + 1) = -1 ∧ Z 9 (2 * a + 1) = -1 := by have := s (); omega
  have n0 := (K.nm (v := a - 1) (f := (Z 8 (2 * a)).toNat) (by omega) (by omega)).1
  have n1 := (K.nm (v := a - 1) (f := (Z 8 (2 * a + 1)).toNat) (by omega) (by omega)).1
  have m0 := (K.nm (v := a) (f := (Z 9 (2 * a)).toNat) (by omega) (by omega)).1
  have m1 := (K.nm (v := a) (f := (Z 9 (2 * a + 1)).toNat) (by omega) (by omega)).1
  have p0 : 0 ≤ Z 8 (2 * a) → ¬ Z 5 (48 * (a - 1) + (Z 8 (2 * a)).toNat) = -1 := fun z => d1 (by omega)
  have p1 : 0 ≤ Z 8 (2 * a + 1) → ¬ Z 5 (48 * (a - 1) + (Z 8 (2 * a + 1)).toNat) = -1 := fun z => d2 (by omega)
  have r0 : 0 ≤ Z 9 (2 * a) → ¬ Z 5 (48 * a + (Z 9 (2 * a)).toNat) = -1 := fun z => d3 (by omega)
  have r1 : 0 ≤ Z 9 (2 * a + 1) → ¬ Z 5 (48 * a + (Z 9 (2 * a + 1)).toNat) = -1 := fun z => d4 (by omega)
  clear d1 d2 d3 d4
  have e0 : la_s h h := fun j => ⟨fun _ => rfl, fun _ => rfl⟩
  refine AC.mk (by decide) (Nat.le_of_ble_eq_true rfl) ?_
  refine AW.aload_n dL_isText_0 rfl ?_
  refine AW.iload_n dL_isText_1 rfl ?_
  refine AW.aldIE dL_isText_2 J.T.a2 (by omega) (by omega) (by exact V.s.w (a := a) h1 ha) ?_
  refine AW.bipush dL_isText_3 bp_8 (by decide) ?_
  refine AW.irem dL_isText_5 (by omega) ?_
  refine AW.top (y := 2) (by rw [zwd_7 K h1 ha]; exact hw) ?_
  refine AW.istore dL_isText_6 rfl ?_
  refine AW.iload dL_isText_8 rfl ?_
  refine AW.if_neT (tgt := 18) dL_isText_10 rfl (by omega) ?_
  refine AW.iload dL_isText_18 rfl ?_
  refine AW.iconst dL_isText_20 (by decide) ?_
  refine AW.icmp_neT (tgt := 29) dL_isText_21 rfl (by omega) ?_
  refine AW.iload dL_isText_29 rfl ?_
  refine AW.iconst dL_isText_31 (by decide) ?_
  refine AW.icmp_neF (tgt := 40) dL_isText_32 rfl (by omega) ?_
  refine AW.bipush dL_isText_35 bp_116 (by decide) ?_
  refine AW.goto (tgt := 75) dL_isText_37 rfl ?_
  refine AW.istore dL_isText_75 rfl ?_
  refine AW.iload dL_isText_77 rfl ?_
  refine AW.if_neT (tgt := 86) dL_isText_79 rfl (by omega) ?_
  refine AW.iload dL_isText_86 rfl ?_
  refine AW.iconst dL_isText_88 (by decide) ?_
  refine AW.icmp_neT (tgt := 97) dL_isText_89 rfl (by omega) ?_
  refine AW.iload dL_isText_97 rfl ?_
  refine AW.pcs (pc2 := 99) rfl ?_
  refine AW.iconst dL_isText_99 (by decide) ?_
  refine AW.icmp_neT (tgt := 107) dL_isText_100 rfl (by omega) ?_
  refine AW.iconst dL_isText_107 (by decide) ?_
  refine AW.istore dL_isText_108 rfl ?_
  refine AW.iload dL_isText_110 rfl ?_
  refine AW.if_neT (tgt := 120) dL_isText_112 rfl (by omega) ?_
  refine AW.iload dL_isText_120 rfl ?_
  refine AW.iconst dL_isText_122 (by decide) ?_
  refine AW.icmp_neT (tgt := 131) dL_isText_123 rfl (by omega) ?_
  refine AW.iload dL_isText_131 rfl ?_
  refine AW.iconst dL_isText_133 (by decide) ?_
  refine AW.icmp_eqT (tgt := 143) dL_isText_134 rfl (by omega) ?_
  refine AW.bipush dL_isText_143 bp_110 (by decide) ?_
  refine AW.goto (tgt := 172) dL_isText_145 rfl ?_
  refine AW.istore dL_isText_172 rfl ?_
  refine AW.locs [(0, vq _), (1, vq _), (2, vq _), (3, vi _), (4, vi _), (5, vi _), (6, vi _), (7, vi _)] ⟨rfl, rfl, rfl, rfl, rfl, rfl, rfl, rfl, trivial⟩ ?_
  refine AW.aload_n dL_isText_174 rfl ?_
  refine AW.iconst dL_isText_175 (by decide) ?_
  refine AW.iload_n dL_isText_176 rfl ?_
  refine AW.iconst dL_isText_177 (by decide) ?_
  refine AW.callV (as := [vi _, vi _, vi _]) dL_isText_178 rfl rfl rfl okX7_text lkL_61 J.F rfl rfl rfl rfl (leb (by omega)) (leb (by omega)) rfl (t_text J (by omega) (by first | (rw [zs_l hw (by decide) (by decide)]; decide) | (rw [zs_fs (j := 0) hw fn (by decide) (by decide) (by decide) (by decide)]; decide) | (rw [zs_bs (j := 0) hw fn bn (by decide) (by decide) (by decide) (by decide) (by decide)]; decide) | (rw [zs_gt hw fn (by decide) (by decide) (by decide)]; decide) | (rw [zs_f0 hw fn (by decide) (by decide) (by decide) h1 (by omega)]; omega) | (rw [zs_b0 hw fn bn (by decide) (by decide) (by decide) (by decide) (by omega)]; omega)) (fun g J e => (AW.k1 ?_)))
  have e0 : la_s _ g := fun j => ⟨fun i => (e j).1 i |>.trans ((e0 j).1 i), fun i => (e j).2 i |>.trans ((e0 j).2 i)⟩
  have V := V.as e
  refine AW.top (y := 116) (by rw [zs_l hw (by decide) (by decide)]; rfl) ?_
  refine AW.iload dL_isText_181 rfl ?_
  refine AW.icmp_neF (tgt := 205) dL_isText_183 rfl (by omega) ?_
  refine AW.aload_n dL_isText_186 rfl ?_
  refine AW.iconst dL_isText_187 (by decide) ?_
  refine AW.pcs (pc2 := 188) rfl ?_
  refine AW.iload_n dL_isText_188 rfl ?_
  refine AW.iload dL_isText_189 rfl ?_
  refine AW.iconst dL_isText_191 (by decide) ?_
  refine AW.isubB dL_isText_192 (by omega) ?_
  refine AW.callV (as := [vi _, vi _, vi _]) dL_isText_193 rfl rfl rfl okX7_text lkL_61 J.F rfl rfl rfl rfl (leb (by omega)) (leb (by omega)) rfl (t_text J (by omega) (by first | (rw [zs_l hw (by decide) (by decide)]; decide) | (rw [zs_fs (j := 0) hw fn (by decide) (by decide) (by decide) (by decide)]; decide) | (rw [zs_bs (j := 0) hw fn bn (by decide) (by decide) (by decide) (by decide) (by decide)]; decide) | (rw [zs_gt hw fn (by decide) (by decide) (by decide)]; decide) | (rw [zs_f0 hw fn (by decide) (by decide) (by decide) h1 (by omega)]; omega) | (rw [zs_b0 hw fn bn (by decide) (by decide) (by decide) (by decide) (by omega)]; omega)) (fun g J e => (AW.k1 ?_)))
  have e0 : la_s _ g := fun j => ⟨fun i => (e j).1 i |>.trans ((e0 j).1 i), fun i => (e j).2 i |>.trans ((e0 j).2 i)⟩
  have V := V.as e
  refine AW.top (y := 110) (by rw [zs_l hw (by decide) (by decide)]; rfl) ?_
  refine AW.iload dL_isText_196 rfl ?_
  refine AW.icmp_neF (tgt := 205) dL_isText_198 rfl (by omega) ?_
  refine AW.iconst dL_isText_201 (by decide) ?_
  refine AW.goto (tgt := 206) dL_isText_202 rfl ?_
  refine AW.istore dL_isText_206 rfl ?_
  refine AW.iconst dL_isText_208 (by decide) ?_
  refine AW.istore dL_isText_209 rfl ?_
  refine AW.iload dL_isText_211 rfl ?_
  refine AW.iconst dL_isText_213 (by decide) ?_
  refine AW.icmp_geF (tgt := 352) dL_isText_214 rfl (by omega) ?_
  refine AW.iload dL_isText_217 rfl ?_
  refine AW.if_eqF (tgt := 352) dL_isText_219 rfl (by omega) ?_
  refine AW.iload dL_isText_222 rfl ?_
  refine AW.iconst dL_isText_224 (by decide) ?_
  refine AW.icmp_neT (tgt := 251) dL_isText_225 rfl (by omega) ?_
  refine AW.locs [(0, vq _), (1, vq _), (2, vq _), (3, vi _), (4, vi _), (5, vi _), (6, vi _), (7, vi _), (8, vi _), (9, vi _)] ⟨rfl, rfl, rfl, rfl, rfl, rfl, rfl, rfl, rfl, rfl, trivial⟩ ?_
  refine AW.aload_n dL_isText_251 rfl ?_
  refine AW.iload_n dL_isText_252 rfl ?_
  refine AW.iload dL_isText_253 rfl ?_
  refine AW.iconst dL_isText_255 (by decide) ?_
  refine AW.pcs (pc2 := 256) rfl ?_
  refine AW.icmp_geF (tgt := 263) dL_isText_256 rfl (by omega) ?_
  refine AW.iconst dL_isText_259 (by decide) ?_
  refine AW.goto (tgt := 264) dL_isText_260 rfl ?_
  refine AW.iload dL_isText_264 rfl ?_
  refine AW.iconst dL_isText_266 (by decide) ?_
  refine AW.irem dL_isText_267 (by omega) ?_
  refine AW.callS (as := [vq _, vi _, vi _, vi _]) dL_isText_268 rfl rfl rfl okL_side lkL_86 rfl rfl rfl (leb (by omega)) (leb (by omega)) rfl (kL_side J.T V.s K h1 ha (by omega) (by decide) (AW.k1 ?_))
  refine AW.top (by first | exact zsd_10 | exact zsd_11 | exact zsd_00 | exact zsd_01) ?_
  refine AW.istore dL_isText_271 rfl ?_
  refine AW.iload dL_isText_273 rfl ?_
  refine AW.if_ltF (tgt := 346) dL_isText_275 rfl (by omega) ?_
  refine AW.iload dL_isText_278 rfl ?_
  refine AW.if_eqF (tgt := 346) dL_isText_280 rfl (by omega) ?_
  refine AW.aload_n dL_isText_283 rfl ?_
  refine AW.iconst dL_isText_284 (by decide) ?_
  refine AW.iload_n dL_isText_285 rfl ?_
  refine AW.iload dL_isText_286 rfl ?_
  refine AW.callV (as := [vi _, vi _, vi _]) dL_isText_288 rfl rfl rfl okX7_text lkL_61 J.F rfl rfl rfl rfl (leb (by omega)) (leb (by omega)) rfl (t_text J (by omega) (by first | (rw [zs_l hw (by decide) (by decide)]; decide) | (rw [zs_fs (j := 0) hw fn (by decide) (by decide) (by decide) (by decide)]; decide) | (rw [zs_bs (j := 0) hw fn bn (by decide) (by decide) (by decide) (by decide) (by decide)]; decide) | (rw [zs_gt hw fn (by decide) (by decide) (by decide)]; decide) | (rw [zs_f0 hw fn (by decide) (by decide) (by decide) h1 (by omega)]; omega) | (rw [zs_b0 hw fn bn (by decide) (by decide) (by decide) (by decide) (by omega)]; omega)) (fun g J e => (AW.k1 ?_)))
  have e0 : la_s _ g := fun j => ⟨fun i => (e j).1 i |>.trans ((e0 j).1 i), fun i => (e j).2 i |>.trans ((e0 j).2 i)⟩
  have V := V.as e
  refine AW.top (y := 32) (by first | exact zs_fs (j := 0) hw fn (by decide) (by decide) (by decide) (by decide) | exact zs_bs (j := 0) hw fn bn (by decide) (by decide) (by decide) (by decide) (by decide)) ?_
  refine AW.bipush dL_isText_291 bp_32 (by decide) ?_
  refine AW.icmp_neF (tgt := 340) dL_isText_293 rfl (by omega) ?_
  refine AW.aload_n dL_isText_296 rfl ?_
  refine AW.iconst dL_isText_297 (by decide) ?_
  refine AW.iload_n dL_isText_298 rfl ?_
  refine AW.iload dL_isText_299 rfl ?_
  refine AW.iconst dL_isText_301 (by decide) ?_
  refine AW.pcs (pc2 := 302) rfl ?_
  refine AW.iaddB dL_isText_302 (by omega) ?_
  refine AW.callV (as := [vi _, vi _, vi _]) dL_isText_303 rfl rfl rfl okX7_text lkL_61 J.F rfl rfl rfl rfl (leb (by omega)) (leb (by omega)) rfl (t_text J (by omega) (by first | (rw [zs_l hw (by decide) (by decide)]; decide) | (rw [zs_fs (j := 0) hw fn (by decide) (by decide) (by decide) (by decide)]; decide) | (rw [zs_bs (j := 0) hw fn bn (by decide) (by decide) (by decide) (by decide) (by decide)]; decide) | (rw [zs_gt hw fn (by decide) (by decide) (by decide)]; decide) | (rw [zs_f0 hw fn (by decide) (by decide) (by decide) h1 (by omega)]; omega) | (rw [zs_b0 hw fn bn (by decide) (by decide) (by decide) (by decide) (by omega)]; omega)) (fun g J e => (AW.k1 ?_)))
  have e0 : la_s _ g := fun j => ⟨fun i => (e j).1 i |>.trans ((e0 j).1 i), fun i => (e j).2 i |>.trans ((e0 j).2 i)⟩
  have V := V.as e
  refine AW.bipush dL_isText_306 bp_97 (by decide) ?_
  refine AW.aload_n dL_isText_308 rfl ?_
  refine AW.iload dL_isText_309 rfl ?_
  refine AW.iconst dL_isText_311 (by decide) ?_
  refine AW.icmp_geF (tgt := 321) dL_isText_312 rfl (by omega) ?_
  refine AW.iload_n dL_isText_315 rfl ?_
  refine AW.iconst dL_isText_316 (by decide) ?_
  refine AW.isubB dL_isText_317 (by omega) ?_
  refine AW.top (y := ((a - 1 : Nat) : Int)) (by omega) ?_
  refine AW.goto (tgt := 322) dL_isText_318 rfl ?_
  refine AW.iload dL_isText_322 rfl ?_
  refine AW.top (Int.toNat_of_nonneg (by omega)).symm ?_
  refine AW.callS (as := [vq _, vi _, vi _]) dL_isText_324 rfl rfl rfl okL_state lkL_79 rfl rfl rfl (leb (by omega)) (leb (by omega)) rfl (kL_stZ J.T V.s K (by omega) (by omega) (AW.k1 ?_))
  refine AW.bipush dL_isText_327 bp_32 (by decide) ?_
  refine AW.irem dL_isText_329 (by omega) ?_
  refine AW.top (zdg_n K (by omega) (by omega)).1 ?_
  refine AW.iaddB dL_isText_330 (by omega) ?_
  refine AW.iconst dL_isText_331 (by decide) ?_
  refine AW.isubB dL_isText_332 (by omega) ?_
  refine AW.icmp_neF (tgt := 340) dL_isText_333 rfl (by first | (rw [zs_f0 hw fn (by decide) (by decide) (by decide) h1 (by omega)]; omega) | (rw [zs_b0 hw fn bn (by decide) (by decide) (by decide) (by decide) (by omega)]; omega)) ?_
  refine AW.iconst dL_isText_336 (by decide) ?_
  refine AW.goto (tgt := 341) dL_isText_337 rfl ?_
  refine AW.istore dL_isText_341 rfl ?_
  refine AW.iincB dL_isText_343 rfl rfl (by omega) ?_
  refine AW.locs [(0, vq _), (1, vq _), (2, vq _), (3, vi _), (4, vi _), (5, vi _), (6, vi _), (7, vi _), (8, vi _), (9, vi _), (10, vi _)] ⟨rfl, rfl, rfl, rfl, rfl, rfl, rfl, rfl, rfl, rfl, rfl, trivial⟩ ?_
  refine AW.iincB dL_isText_346 rfl rfl (by omega) ?_
  refine AW.pcs (pc2 := 349) rfl ?_
  refine AW.goto (tgt := 211) dL_isText_349 rfl ?_
  refine AW.iload dL_isText_211 rfl ?_
  refine AW.iconst dL_isText_213 (by decide) ?_
  refine AW.icmp_geF (tgt := 352) dL_isText_214 rfl (by omega) ?_
  refine AW.iload dL_isText_217 rfl ?_
  refine AW.if_eqF (tgt := 352) dL_isText_219 rfl (by omega) ?_
  refine AW.iload dL_isText_222 rfl ?_
  refine AW.iconst dL_isText_224 (by decide) ?_
  refine AW.icmp_neT (tgt := 251) dL_isText_225 rfl (by omega) ?_
  refine AW.locs [(0, vq _), (1, vq _), (2, vq _), (3, vi _), (4, vi _), (5, vi _), (6, vi _), (7, vi _), (8, vi _), (9, vi _), (10, vi _)] ⟨rfl, rfl, rfl, rfl, rfl, rfl, rfl, rfl, rfl, rfl, rfl, trivial⟩ ?_
  refine AW.aload_n dL_isText_251 rfl ?_
  refine AW.iload_n dL_isText_252 rfl ?_
  refine AW.iload dL_isText_253 rfl ?_
  refine AW.iconst dL_isText_255 (by decide) ?_
  refine AW.icmp_geF (tgt := 263) dL_isText_256 rfl (by omega) ?_
  refine AW.iconst dL_isText_259 (by decide) ?_
  refine AW.goto (tgt := 264) dL_isText_260 rfl ?_
  refine AW.iload dL_isText_264 rfl ?_
  refine AW.iconst dL_isText_266 (by decide) ?_
  refine AW.irem dL_isText_267 (by omega) ?_
  refine AW.callS (as := [vq _, vi _, vi _, vi _]) dL_isText_268 rfl rfl rfl okL_side lkL_86 rfl rfl rfl (leb (by omega)) (leb (by omega)) rfl (kL_side J.T V.s K h1 ha (by omega) (by decide) (AW.k1 ?_))
  refine AW.top (by first | exact zsd_10 | exact zsd_11 | exact zsd_00 | exact zsd_01) ?_
  refine AW.istore dL_isText_271 rfl ?_
  refine AW.iload dL_isText_273 rfl ?_
  refine AW.if_ltT (tgt := 346) dL_isText_275 rfl (by omega) ?_
  refine AW.locs [(0, vq _), (1, vq _), (2, vq _), (3, vi _), (4, vi _), (5, vi _), (6, vi _), (7, vi _), (8, vi _), (9, vi _), (10, vi _)] ⟨rfl, rfl, rfl, rfl, rfl, rfl, rfl, rfl, rfl, rfl, rfl, trivial⟩ ?_
  refine AW.iincB dL_isText_346 rfl rfl (by omega) ?_
  refine AW.pcs (pc2 := 349) rfl ?_
  refine AW.goto (tgt := 211) dL_isText_349 rfl ?_
  refine AW.iload dL_isText_211 rfl ?_
  refine AW.iconst dL_isText_213 (by decide) ?_
  refine AW.icmp_geF (tgt := 352) dL_isText_214 rfl (by omega) ?_
  refine AW.iload dL_isText_217 rfl ?_
  refine AW.if_eqF (tgt := 352) dL_isText_219 rfl (by omega) ?_
  refine AW.iload dL_isText_222 rfl ?_
  refine AW.iconst dL_isText_224 (by decide) ?_
  refine AW.icmp_neF (tgt := 251) dL_isText_225 rfl (by omega) ?_
  refine AW.aload_n dL_isText_228 rfl ?_
  refine AW.iconst dL_isText_229 (by decide) ?_
  refine AW.iload_n dL_isText_230 rfl ?_
  refine AW.iload dL_isText_231 rfl ?_
  refine AW.callV (as := [vi _, vi _, vi _]) dL_isText_233 rfl rfl rfl okX7_text lkL_61 J.F rfl rfl rfl rfl (leb (by omega)) (leb (by omega)) rfl (t_text J (by omega) (by first | (rw [zs_l hw (by decide) (by decide)]; decide) | (rw [zs_fs (j := 0) hw fn (by decide) (by decide) (by decide) (by decide)]; decide) | (rw [zs_bs (j := 0) hw fn bn (by decide) (by decide) (by decide) (by decide) (by decide)]; decide) | (rw [zs_gt hw fn (by decide) (by decide) (by decide)]; decide) | (rw [zs_f0 hw fn (by decide) (by decide) (by decide) h1 (by omega)]; omega) | (rw [zs_b0 hw fn bn (by decide) (by decide) (by decide) (by decide) (by omega)]; omega)) (fun g J e => (AW.k1 ?_)))
  have e0 : la_s _ g := fun j => ⟨fun i => (e j).1 i |>.trans ((e0 j).1 i), fun i => (e j).2 i |>.trans ((e0 j).2 i)⟩
  have V := V.as e
  refine AW.top (y := 62) (zs_gt hw fn (by decide) (by decide) (by decide)) ?_
  refine AW.bipush dL_isText_236 bp_62 (by decide) ?_
  refine AW.icmp_neF (tgt := 245) dL_isText_238 rfl (by omega) ?_
  refine AW.iconst dL_isText_241 (by decide) ?_
  refine AW.goto (tgt := 246) dL_isText_242 rfl ?_
  refine AW.istore dL_isText_246 rfl ?_
  refine AW.iincB dL_isText_248 rfl rfl (by omega) ?_
  refine AW.locs [(0, vq _), (1, vq _), (2, vq _), (3, vi _), (4, vi _), (5, vi _), (6, vi _), (7, vi _), (8, vi _), (9, vi _), (10, vi _)] ⟨rfl, rfl, rfl, rfl, rfl, rfl, rfl, rfl, rfl, rfl, rfl, trivial⟩ ?_
  refine AW.aload_n dL_isText_251 rfl ?_
  refine AW.iload_n dL_isText_252 rfl ?_
  refine AW.iload dL_isText_253 rfl ?_
  refine AW.iconst dL_isText_255 (by decide) ?_
  refine AW.pcs (pc2 := 256) rfl ?_
  refine AW.icmp_geT (tgt := 263) dL_isText_256 rfl (by omega) ?_
  refine AW.iconst dL_isText_263 (by decide) ?_
  refine AW.iload dL_isText_264 rfl ?_
  refine AW.iconst dL_isText_266 (by decide) ?_
  refine AW.irem dL_isText_267 (by omega) ?_
  refine AW.callS (as := [vq _, vi _, vi _, vi _]) dL_isText_268 rfl rfl rfl okL_side lkL_86 rfl rfl rfl (leb (by omega)) (leb (by omega)) rfl (kL_side J.T V.s K h1 ha (by omega) (by decide) (AW.k1 ?_))
  refine AW.top (by first | exact zsd_10 | exact zsd_11 | exact zsd_00 | exact zsd_01) ?_
  refine AW.istore dL_isText_271 rfl ?_
  refine AW.iload dL_isText_273 rfl ?_
  refine AW.if_ltF (tgt := 346) dL_isText_275 rfl (by omega) ?_
  refine AW.iload dL_isText_278 rfl ?_
  refine AW.if_eqF (tgt := 346) dL_isText_280 rfl (by omega) ?_
  refine AW.aload_n dL_isText_283 rfl ?_
  refine AW.iconst dL_isText_284 (by decide) ?_
  refine AW.iload_n dL_isText_285 rfl ?_
  refine AW.iload dL_isText_286 rfl ?_
  refine AW.callV (as := [vi _, vi _, vi _]) dL_isText_288 rfl rfl rfl okX7_text lkL_61 J.F rfl rfl rfl rfl (leb (by omega)) (leb (by omega)) rfl (t_text J (by omega) (by first | (rw [zs_l hw (by decide) (by decide)]; decide) | (rw [zs_fs (j := 0) hw fn (by decide) (by decide) (by decide) (by decide)]; decide) | (rw [zs_bs (j := 0) hw fn bn (by decide) (by decide) (by decide) (by decide) (by decide)]; decide) | (rw [zs_gt hw fn (by decide) (by decide) (by decide)]; decide) | (rw [zs_f0 hw fn (by decide) (by decide) (by decide) h1 (by omega)]; omega) | (rw [zs_b0 hw fn bn (by decide) (by decide) (by decide) (by decide) (by omega)]; omega)) (fun g J e => (AW.k1 ?_)))
  have e0 : la_s _ g := fun j => ⟨fun i => (e j).1 i |>.trans ((e0 j).1 i), fun i => (e j).2 i |>.trans ((e0 j).2 i)⟩
  have V := V.as e
  refine AW.top (y := 32) (by first | exact zs_fs (j := 0) hw fn (by decide) (by decide) (by decide) (by decide) | exact zs_bs (j := 0) hw fn bn (by decide) (by decide) (by decide) (by decide) (by decide)) ?_
  refine AW.bipush dL_isText_291 bp_32 (by decide) ?_
  refine AW.icmp_neF (tgt := 340) dL_isText_293 rfl (by omega) ?_
  refine AW.aload_n dL_isText_296 rfl ?_
  refine AW.iconst dL_isText_297 (by decide) ?_
  refine AW.iload_n dL_isText_298 rfl ?_
  refine AW.iload dL_isText_299 rfl ?_
  refine AW.iconst dL_isText_301 (by decide) ?_
  refine AW.iaddB dL_isText_302 (by omega) ?_
  refine AW.pcs (pc2 := 303) rfl ?_
  refine AW.callV (as := [vi _, vi _, vi _]) dL_isText_303 rfl rfl rfl okX7_text lkL_61 J.F rfl rfl rfl rfl (leb (by omega)) (leb (by omega)) rfl (t_text J (by omega) (by first | (rw [zs_l hw (by decide) (by decide)]; decide) | (rw [zs_fs (j := 0) hw fn (by decide) (by decide) (by decide) (by decide)]; decide) | (rw [zs_bs (j := 0) hw fn bn (by decide) (by decide) (by decide) (by decide) (by decide)]; decide) | (rw [zs_gt hw fn (by decide) (by decide) (by decide)]; decide) | (rw [zs_f0 hw fn (by decide) (by decide) (by decide) h1 (by omega)]; omega) | (rw [zs_b0 hw fn bn (by decide) (by decide) (by decide) (by decide) (by omega)]; omega)) (fun g J e => (AW.k1 ?_)))
  have e0 : la_s _ g := fun j => ⟨fun i => (e j).1 i |>.trans ((e0 j).1 i), fun i => (e j).2 i |>.trans ((e0 j).2 i)⟩
  have V := V.as e
  refine AW.bipush dL_isText_306 bp_97 (by decide) ?_
  refine AW.aload_n dL_isText_308 rfl ?_
  refine AW.iload dL_isText_309 rfl ?_
  refine AW.iconst dL_isText_311 (by decide) ?_
  refine AW.icmp_geT (tgt := 321) dL_isText_312 rfl (by omega) ?_
  refine AW.iload_n dL_isText_321 rfl ?_
  refine AW.iload dL_isText_322 rfl ?_
  refine AW.top (Int.toNat_of_nonneg (by omega)).symm ?_
  refine AW.callS (as := [vq _, vi _, vi _]) dL_isText_324 rfl rfl rfl okL_state lkL_79 rfl rfl rfl (leb (by omega)) (leb (by omega)) rfl (kL_stZ J.T V.s K (by omega) (by omega) (AW.k1 ?_))
  refine AW.bipush dL_isText_327 bp_32 (by decide) ?_
  refine AW.irem dL_isText_329 (by omega) ?_
  refine AW.top (zdg_n K (by omega) (by omega)).1 ?_
  refine AW.iaddB dL_isText_330 (by omega) ?_
  refine AW.iconst dL_isText_331 (by decide) ?_
  refine AW.isubB dL_isText_332 (by omega) ?_
  refine AW.icmp_neF (tgt := 340) dL_isText_333 rfl (by first | (rw [zs_f0 hw fn (by decide) (by decide) (by decide) h1 (by omega)]; omega) | (rw [zs_b0 hw fn bn (by decide) (by decide) (by decide) (by decide) (by omega)]; omega)) ?_
  refine AW.iconst dL_isText_336 (by decide) ?_
  refine AW.goto (tgt := 341) dL_isText_337 rfl ?_
  refine AW.istore dL_isText_341 rfl ?_
  refine AW.iincB dL_isText_343 rfl rfl (by omega) ?_
  refine AW.locs [(0, vq _), (1, vq _), (2, vq _), (3, vi _), (4, vi _), (5, vi _), (6, vi _), (7, vi _), (8, vi _), (9, vi _), (10, vi _)] ⟨rfl, rfl, rfl, rfl, rfl, rfl, rfl, rfl, rfl, rfl, rfl, trivial⟩ ?_
  refine AW.iincB dL_isText_346 rfl rfl (by omega) ?_
  refine AW.goto (tgt := 211) dL_isText_349 rfl ?_
  refine AW.iload dL_isText_211 rfl ?_
  refine AW.iconst dL_isText_213 (by decide) ?_
  refine AW.icmp_geF (tgt := 352) dL_isText_214 rfl (by omega) ?_
  refine AW.pcs (pc2 := 217) rfl ?_
  refine AW.iload dL_isText_217 rfl ?_
  refine AW.if_eqF (tgt := 352) dL_isText_219 rfl (by omega) ?_
  refine AW.iload dL_isText_222 rfl ?_
  refine AW.iconst dL_isText_224 (by decide) ?_
  refine AW.icmp_neT (tgt := 251) dL_isText_225 rfl (by omega) ?_
  refine AW.locs [(0, vq _), (1, vq _), (2, vq _), (3, vi _), (4, vi _), (5, vi _), (6, vi _), (7, vi _), (8, vi _), (9, vi _), (10, vi _)] ⟨rfl, rfl, rfl, rfl, rfl, rfl, rfl, rfl, rfl, rfl, rfl, trivial⟩ ?_
  refine AW.aload_n dL_isText_251 rfl ?_
  refine AW.iload_n dL_isText_252 rfl ?_
  refine AW.iload dL_isText_253 rfl ?_
  refine AW.iconst dL_isText_255 (by decide) ?_
  refine AW.icmp_geT (tgt := 263) dL_isText_256 rfl (by omega) ?_
  refine AW.iconst dL_isText_263 (by decide) ?_
  refine AW.iload dL_isText_264 rfl ?_
  refine AW.iconst dL_isText_266 (by decide) ?_
  refine AW.irem dL_isText_267 (by omega) ?_
  refine AW.callS (as := [vq _, vi _, vi _, vi _]) dL_isText_268 rfl rfl rfl okL_side lkL_86 rfl rfl rfl (leb (by omega)) (leb (by omega)) rfl (kL_side J.T V.s K h1 ha (by omega) (by decide) (AW.k1 ?_))
  refine AW.top (by first | exact zsd_10 | exact zsd_11 | exact zsd_00 | exact zsd_01) ?_
  refine AW.istore dL_isText_271 rfl ?_
  refine AW.iload dL_isText_273 rfl ?_
  refine AW.if_ltT (tgt := 346) dL_isText_275 rfl (by omega) ?_
  refine AW.locs [(0, vq _), (1, vq _), (2, vq _), (3, vi _), (4, vi _), (5, vi _), (6, vi _), (7, vi _), (8, vi _), (9, vi _), (10, vi _)] ⟨rfl, rfl, rfl, rfl, rfl, rfl, rfl, rfl, rfl, rfl, rfl, trivial⟩ ?_
  refine AW.iincB dL_isText_346 rfl rfl (by omega) ?_
  refine AW.goto (tgt := 211) dL_isText_349 rfl ?_
  refine AW.iload dL_isText_211 rfl ?_
  refine AW.iconst dL_isText_213 (by decide) ?_
  refine AW.icmp_geT (tgt := 352) dL_isText_214 rfl (by omega) ?_
  refine AW.iload dL_isText_352 rfl ?_
  refine AW.pcs (pc2 := 354) rfl ?_
  refine AW.if_eqF (tgt := 390) dL_isText_354 rfl (by omega) ?_
  refine AW.aload_n dL_isText_357 rfl ?_
  refine AW.iconst dL_isText_358 (by decide) ?_
  refine AW.iconst dL_isText_359 (by decide) ?_
  refine AW.iload_n dL_isText_360 rfl ?_
  refine AW.iload dL_isText_361 rfl ?_
  refine AW.callSH (as := [vq _, vi _, vi _, vi _, vi _]) dL_isText_363 rfl rfl rfl okL_asks lkL_119 rfl rfl rfl (by omega) (by omega) rfl (q_textX J (fun z => z.2 (zs_e hw fn bn (by decide) (by decide) (by decide) (by decide))) (fun g J e => (AW.k1 ?_)))
  have e0 : la_s _ g := fun j => ⟨fun i => (e j).1 i |>.trans ((e0 j).1 i), fun i => (e j).2 i |>.trans ((e0 j).2 i)⟩
  refine AW.sipush dL_isText_366 sp_m300 (by decide) ?_
  refine AW.icmp_neF (tgt := 390) dL_isText_369 rfl (by omega) ?_
  refine AW.aload_n dL_isText_372 rfl ?_
  refine AW.iconst dL_isText_373 (by decide) ?_
  refine AW.iconst dL_isText_374 (by decide) ?_
  refine AW.iload_n dL_isText_375 rfl ?_
  refine AW.iconst dL_isText_376 (by decide) ?_
  refine AW.callSH (as := [vq _, vi _, vi _, vi _, vi _]) dL_isText_377 rfl rfl rfl okL_asks lkL_119 rfl rfl rfl (by omega) (by omega) rfl (q_textX J (fun z => z.2 (zs_n (by decide))) (fun g J e => (AW.k1 ?_)))
  have e0 : la_s _ g := fun j => ⟨fun i => (e j).1 i |>.trans ((e0 j).1 i), fun i => (e j).2 i |>.trans ((e0 j).2 i)⟩
  refine AW.sipush dL_isText_380 sp_m300 (by decide) ?_
  refine AW.icmp_neF (tgt := 390) dL_isText_383 rfl (by omega) ?_
  refine AW.iconst dL_isText_386 (by decide) ?_
  refine AW.goto (tgt := 391) dL_isText_387 rfl ?_
  refine AW.zret dL_isText_391 rfl ?_ ?_
  · omega
  exact k g _ J e0
set_option maxHeartbeats 4000000 in
theorem kL_isText3 (J : IV L h Z c b) (V : JV h Z) (h1 : 1 ≤ a) (ha : (a : Int) ≤ Z 1 0) (hw : Z 7 a = 3) (k : ∀ g b', IV L g Z c b' → la_s h g → Q g (.inl (some (vi 1)))) : AC mL_isText fL_isText loL_isText 60 480 h [vr mF, vr (la 1), vr (la 2), vi (a : Int)] Q := by
  have K := J.K
  have b1 := K.b1
  have b2 := K.b2
  obtain ⟨⟨q1, q2, q3, q4⟩, s, d1, d2, d3, d4⟩ := K.p h1 ha
  unfold StK at s
  have fn : zfn Z (24 * 0 + (a : Int)) = 1 := by unfold zfn; rw [zfr0_n, zfr1_n]; (repeat' split) <;> omega
  have bn : zbn Z (24 * 0 + (a : Int)) = 2 := by unfold zbn; rw [zbe0_n, zbe1_n]; (repeat' split) <;> omega
  have sg : (0 ≤ Z 8 (2 * a) ∨ Z 8 (2 * a) = -1) ∧ (0 ≤ Z 8 (2 * a + 1) ∨ Z 8 (2 * a + 1) = -1) := by omega
  have s := fun _ : Unit => s
  have g0 : 0 ≤ Z 8 (2 * a) ∧ 0 ≤ Z 9 (2 * a) ∧ 0 ≤ Z 9 (2 * a + 1) ∧ Z 8 (2 * a + 1) = -1 := by have := s (); omega
  have n0 := (K.nm (v := a - 1) (f := (Z 8 (2 * a)).toNat) (by omega) (by omega)).1
  have n1 := (K.nm (v := a - 1) (f := (Z 8 (2 * a + 1)).toNat) (by omega) (by omega)).1
  have m0 := (K.nm (v := a) (f := (Z 9 (2 * a)).toNat) (by omega) (by omega)).1
  have m1 := (K.nm (v := a) (f := (Z 9 (2 * a + 1)).toNat) (by omega) (by omega)).1
  have p0 : 0 ≤ Z 8 (2 * a) → ¬ Z 5 (48 * (a - 1) + (Z 8 (2 * a)).toNat) = -1 := fun z => d1 (by omega)
  have p1 : 0 ≤ Z 8 (2 * a + 1) → ¬ Z 5 (48 * (a - 1) + (Z 8 (2 * a + 1)).toNat) = -1 := fun z => d2 (by omega)
  have r0 : 0 ≤ Z 9 (2 * a) → ¬ Z 5 (48 * a + (Z 9 (2 * a)).toNat) = -1 := fun z => d3 (by omega)
  have r1 : 0 ≤ Z 9 (2 * a + 1) → ¬ Z 5 (48 * a + (Z 9 (2 * a + 1)).toNat) = -1 := fun z => d4 (by omega)
  clear d1 d2 d3 d4
  have e0 : la_s h h := fun j => ⟨fun _ => rfl, fun _ => rfl⟩
  refine AC.mk (by decide) (Nat.le_of_ble_eq_true rfl) ?_
  refine AW.aload_n dL_isText_0 rfl ?_
  refine AW.iload_n dL_isText_1 rfl ?_
  refine AW.aldIE dL_isText_2 J.T.a2 (by omega) (by omega) (by exact V.s.w (a := a) h1 ha) ?_
  refine AW.bipush dL_isText_3 bp_8 (by decide) ?_
  refine AW.irem dL_isText_5 (by omega) ?_
  refine AW.top (y := 3) (by rw [zwd_7 K h1 ha]; exact hw) ?_
  refine AW.istore dL_isText_6 rfl ?_
  refine AW.iload dL_isText_8 rfl ?_
  refine AW.if_neT (tgt := 18) dL_isText_10 rfl (by omega) ?_
  refine AW.iload dL_isText_18 rfl ?_
  refine AW.iconst dL_isText_20 (by decide) ?_
  refine AW.icmp_neT (tgt := 29) dL_isText_21 rfl (by omega) ?_
  refine AW.iload dL_isText_29 rfl ?_
  refine AW.iconst dL_isText_31 (by decide) ?_
  refine AW.icmp_neT (tgt := 40) dL_isText_32 rfl (by omega) ?_
  refine AW.iload dL_isText_40 rfl ?_
  refine AW.iconst dL_isText_42 (by decide) ?_
  refine AW.icmp_neF (tgt := 51) dL_isText_43 rfl (by omega) ?_
  refine AW.bipush dL_isText_46 bp_115 (by decide) ?_
  refine AW.goto (tgt := 75) dL_isText_48 rfl ?_
  refine AW.istore dL_isText_75 rfl ?_
  refine AW.iload dL_isText_77 rfl ?_
  refine AW.if_neT (tgt := 86) dL_isText_79 rfl (by omega) ?_
  refine AW.iload dL_isText_86 rfl ?_
  refine AW.pcs (pc2 := 88) rfl ?_
  refine AW.iconst dL_isText_88 (by decide) ?_
  refine AW.icmp_neT (tgt := 97) dL_isText_89 rfl (by omega) ?_
  refine AW.iload dL_isText_97 rfl ?_
  refine AW.iconst dL_isText_99 (by decide) ?_
  refine AW.icmp_neF (tgt := 107) dL_isText_100 rfl (by omega) ?_
  refine AW.iconst dL_isText_103 (by decide) ?_
  refine AW.goto (tgt := 108) dL_isText_104 rfl ?_
  refine AW.istore dL_isText_108 rfl ?_
  refine AW.iload dL_isText_110 rfl ?_
  refine AW.if_neT (tgt := 120) dL_isText_112 rfl (by omega) ?_
  refine AW.iload dL_isText_120 rfl ?_
  refine AW.iconst dL_isText_122 (by decide) ?_
  refine AW.icmp_neT (tgt := 131) dL_isText_123 rfl (by omega) ?_
  refine AW.iload dL_isText_131 rfl ?_
  refine AW.iconst dL_isText_133 (by decide) ?_
  refine AW.icmp_eqF (tgt := 143) dL_isText_134 rfl (by omega) ?_
  refine AW.iload dL_isText_137 rfl ?_
  refine AW.iconst dL_isText_139 (by decide) ?_
  refine AW.icmp_neT (tgt := 148) dL_isText_140 rfl (by omega) ?_
  refine AW.iload dL_isText_148 rfl ?_
  refine AW.iconst dL_isText_150 (by decide) ?_
  refine AW.icmp_neF (tgt := 159) dL_isText_151 rfl (by omega) ?_
  refine AW.bipush dL_isText_154 bp_116 (by decide) ?_
  refine AW.goto (tgt := 172) dL_isText_156 rfl ?_
  refine AW.pcs (pc2 := 172) rfl ?_
  refine AW.istore dL_isText_172 rfl ?_
  refine AW.locs [(0, vq _), (1, vq _), (2, vq _), (3, vi _), (4, vi _), (5, vi _), (6, vi _), (7, vi _)] ⟨rfl, rfl, rfl, rfl, rfl, rfl, rfl, rfl, trivial⟩ ?_
  refine AW.aload_n dL_isText_174 rfl ?_
  refine AW.iconst dL_isText_175 (by decide) ?_
  refine AW.iload_n dL_isText_176 rfl ?_
  refine AW.iconst dL_isText_177 (by decide) ?_
  refine AW.callV (as := [vi _, vi _, vi _]) dL_isText_178 rfl rfl rfl okX7_text lkL_61 J.F rfl rfl rfl rfl (leb (by omega)) (leb (by omega)) rfl (t_text J (by omega) (by first | (rw [zs_l hw (by decide) (by decide)]; decide) | (rw [zs_fs (j := 0) hw fn (by decide) (by decide) (by decide) (by decide)]; decide) | (rw [zs_bs (j := 0) hw fn bn (by decide) (by decide) (by decide) (by decide) (by decide)]; decide) | (rw [zs_bs (j := 1) hw fn bn (by decide) (by decide) (by decide) (by decide) (by decide)]; decide) | (rw [zs_gt hw fn (by decide) (by decide) (by decide)]; decide) | (rw [zs_f0 hw fn (by decide) (by decide) (by decide) h1 (by omega)]; omega) | (rw [zs_b0 hw fn bn (by decide) (by decide) (by decide) (by decide) (by omega)]; omega) | (rw [zs_b1 hw fn bn (by decide) (by decide) (by decide) (by decide) (by omega)]; omega)) (fun g J e => (AW.k1 ?_)))
  have e0 : la_s _ g := fun j => ⟨fun i => (e j).1 i |>.trans ((e0 j).1 i), fun i => (e j).2 i |>.trans ((e0 j).2 i)⟩
  have V := V.as e
  refine AW.top (y := 115) (by rw [zs_l hw (by decide) (by decide)]; rfl) ?_
  refine AW.iload dL_isText_181 rfl ?_
  refine AW.icmp_neF (tgt := 205) dL_isText_183 rfl (by omega) ?_
  refine AW.aload_n dL_isText_186 rfl ?_
  refine AW.iconst dL_isText_187 (by decide) ?_
  refine AW.iload_n dL_isText_188 rfl ?_
  refine AW.iload dL_isText_189 rfl ?_
  refine AW.iconst dL_isText_191 (by decide) ?_
  refine AW.isubB dL_isText_192 (by omega) ?_
  refine AW.callV (as := [vi _, vi _, vi _]) dL_isText_193 rfl rfl rfl okX7_text lkL_61 J.F rfl rfl rfl rfl (leb (by omega)) (leb (by omega)) rfl (t_text J (by omega) (by first | (rw [zs_l hw (by decide) (by decide)]; decide) | (rw [zs_fs (j := 0) hw fn (by decide) (by decide) (by decide) (by decide)]; decide) | (rw [zs_bs (j := 0) hw fn bn (by decide) (by decide) (by decide) (by decide) (by decide)]; decide) | (rw [zs_bs (j := 1) hw fn bn (by decide) (by decide) (by decide) (by decide) (by decide)]; decide) | (rw [zs_gt hw fn (by decide) (by decide) (by decide)]; decide) | (rw [zs_f0 hw fn (by decide) (by decide) (by decide) h1 (by omega)]; omega) | (rw [zs_b0 hw fn bn (by decide) (by decide) (by decide) (by decide) (by omega)]; omega) | (rw [zs_b1 hw fn bn (by decide) (by decide) (by decide) (by decide) (by omega)]; omega)) (fun g J e => (AW.k1 ?_)))
  have e0 : la_s _ g := fun j => ⟨fun i => (e j).1 i |>.trans ((e0 j).1 i), fun i => (e j).2 i |>.trans ((e0 j).2 i)⟩
  have V := V.as e
  refine AW.top (y := 116) (by rw [zs_l hw (by decide) (by decide)]; rfl) ?_
  refine AW.iload dL_isText_196 rfl ?_
  refine AW.icmp_neF (tgt := 205) dL_isText_198 rfl (by omega) ?_
  refine AW.iconst dL_isText_201 (by decide) ?_
  refine AW.goto (tgt := 206) dL_isText_202 rfl ?_
  refine AW.istore dL_isText_206 rfl ?_
  refine AW.iconst dL_isText_208 (by decide) ?_
  refine AW.istore dL_isText_209 rfl ?_
  refine AW.iload dL_isText_211 rfl ?_
  refine AW.iconst dL_isText_213 (by decide) ?_
  refine AW.pcs (pc2 := 214) rfl ?_
  refine AW.icmp_geF (tgt := 352) dL_isText_214 rfl (by omega) ?_
  refine AW.iload dL_isText_217 rfl ?_
  refine AW.if_eqF (tgt := 352) dL_isText_219 rfl (by omega) ?_
  refine AW.iload dL_isText_222 rfl ?_
  refine AW.iconst dL_isText_224 (by decide) ?_
  refine AW.icmp_neT (tgt := 251) dL_isText_225 rfl (by omega) ?_
  refine AW.locs [(0, vq _), (1, vq _), (2, vq _), (3, vi _), (4, vi _), (5, vi _), (6, vi _), (7, vi _), (8, vi _), (9, vi _)] ⟨rfl, rfl, rfl, rfl, rfl, rfl, rfl, rfl, rfl, rfl, trivial⟩ ?_
  refine AW.aload_n dL_isText_251 rfl ?_
  refine AW.iload_n dL_isText_252 rfl ?_
  refine AW.iload dL_isText_253 rfl ?_
  refine AW.iconst dL_isText_255 (by decide) ?_
  refine AW.icmp_geF (tgt := 263) dL_isText_256 rfl (by omega) ?_
  refine AW.iconst dL_isText_259 (by decide) ?_
  refine AW.goto (tgt := 264) dL_isText_260 rfl ?_
  refine AW.iload dL_isText_264 rfl ?_
  refine AW.iconst dL_isText_266 (by decide) ?_
  refine AW.irem dL_isText_267 (by omega) ?_
  refine AW.callS (as := [vq _, vi _, vi _, vi _]) dL_isText_268 rfl rfl rfl okL_side lkL_86 rfl rfl rfl (leb (by omega)) (leb (by omega)) rfl (kL_side J.T V.s K h1 ha (by omega) (by decide) (AW.k1 ?_))
  refine AW.top (by first | exact zsd_10 | exact zsd_11 | exact zsd_00 | exact zsd_01) ?_
  refine AW.istore dL_isText_271 rfl ?_
  refine AW.iload dL_isText_273 rfl ?_
  refine AW.if_ltF (tgt := 346) dL_isText_275 rfl (by omega) ?_
  refine AW.iload dL_isText_278 rfl ?_
  refine AW.if_eqF (tgt := 346) dL_isText_280 rfl (by omega) ?_
  refine AW.aload_n dL_isText_283 rfl ?_
  refine AW.iconst dL_isText_284 (by decide) ?_
  refine AW.pcs (pc2 := 285) rfl ?_
  refine AW.iload_n dL_isText_285 rfl ?_
  refine AW.iload dL_isText_286 rfl ?_
  refine AW.callV (as := [vi _, vi _, vi _]) dL_isText_288 rfl rfl rfl okX7_text lkL_61 J.F rfl rfl rfl rfl (leb (by omega)) (leb (by omega)) rfl (t_text J (by omega) (by first | (rw [zs_l hw (by decide) (by decide)]; decide) | (rw [zs_fs (j := 0) hw fn (by decide) (by decide) (by decide) (by decide)]; decide) | (rw [zs_bs (j := 0) hw fn bn (by decide) (by decide) (by decide) (by decide) (by decide)]; decide) | (rw [zs_bs (j := 1) hw fn bn (by decide) (by decide) (by decide) (by decide) (by decide)]; decide) | (rw [zs_gt hw fn (by decide) (by decide) (by decide)]; decide) | (rw [zs_f0 hw fn (by decide) (by decide) (by decide) h1 (by omega)]; omega) | (rw [zs_b0 hw fn bn (by decide) (by decide) (by decide) (by decide) (by omega)]; omega) | (rw [zs_b1 hw fn bn (by decide) (by decide) (by decide) (by decide) (by omega)]; omega)) (fun g J e => (AW.k1 ?_)))
  have e0 : la_s _ g := fun j => ⟨fun i => (e j).1 i |>.trans ((e0 j).1 i), fun i => (e j).2 i |>.trans ((e0 j).2 i)⟩
  have V := V.as e
  refine AW.top (y := 32) (by first | exact zs_fs (j := 0) hw fn (by decide) (by decide) (by decide) (by decide) | exact zs_bs (j := 0) hw fn bn (by decide) (by decide) (by decide) (by decide) (by decide) | exact zs_bs (j := 1) hw fn bn (by decide) (by decide) (by decide) (by decide) (by decide)) ?_
  refine AW.bipush dL_isText_291 bp_32 (by decide) ?_
  refine AW.icmp_neF (tgt := 340) dL_isText_293 rfl (by omega) ?_
  refine AW.aload_n dL_isText_296 rfl ?_
  refine AW.iconst dL_isText_297 (by decide) ?_
  refine AW.iload_n dL_isText_298 rfl ?_
  refine AW.iload dL_isText_299 rfl ?_
  refine AW.iconst dL_isText_301 (by decide) ?_
  refine AW.iaddB dL_isText_302 (by omega) ?_
  refine AW.callV (as := [vi _, vi _, vi _]) dL_isText_303 rfl rfl rfl okX7_text lkL_61 J.F rfl rfl rfl rfl (leb (by omega)) (leb (by omega)) rfl (t_text J (by omega) (by first | (rw [zs_l hw (by decide) (by decide)]; decide) | (rw [zs_fs (j := 0) hw fn (by decide) (by decide) (by decide) (by decide)]; decide) | (rw [zs_bs (j := 0) hw fn bn (by decide) (by decide) (by decide) (by decide) (by decide)]; decide) | (rw [zs_bs (j := 1) hw fn bn (by decide) (by decide) (by decide) (by decide) (by decide)]; decide) | (rw [zs_gt hw fn (by decide) (by decide) (by decide)]; decide) | (rw [zs_f0 hw fn (by decide) (by decide) (by decide) h1 (by omega)]; omega) | (rw [zs_b0 hw fn bn (by decide) (by decide) (by decide) (by decide) (by omega)]; omega) | (rw [zs_b1 hw fn bn (by decide) (by decide) (by decide) (by decide) (by omega)]; omega)) (fun g J e => (AW.k1 ?_)))
  have e0 : la_s _ g := fun j => ⟨fun i => (e j).1 i |>.trans ((e0 j).1 i), fun i => (e j).2 i |>.trans ((e0 j).2 i)⟩
  have V := V.as e
  refine AW.bipush dL_isText_306 bp_97 (by decide) ?_
  refine AW.aload_n dL_isText_308 rfl ?_
  refine AW.iload dL_isText_309 rfl ?_
  refine AW.iconst dL_isText_311 (by decide) ?_
  refine AW.icmp_geF (tgt := 321) dL_isText_312 rfl (by omega) ?_
  refine AW.iload_n dL_isText_315 rfl ?_
  refine AW.iconst dL_isText_316 (by decide) ?_
  refine AW.isubB dL_isText_317 (by omega) ?_
  refine AW.top (y := ((a - 1 : Nat) : Int)) (by omega) ?_
  refine AW.goto (tgt := 322) dL_isText_318 rfl ?_
  refine AW.iload dL_isText_322 rfl ?_
  refine AW.top (Int.toNat_of_nonneg (by omega)).symm ?_
  refine AW.callS (as := [vq _, vi _, vi _]) dL_isText_324 rfl rfl rfl okL_state lkL_79 rfl rfl rfl (leb (by omega)) (leb (by omega)) rfl (kL_stZ J.T V.s K (by omega) (by omega) (AW.k1 ?_))
  refine AW.bipush dL_isText_327 bp_32 (by decide) ?_
  refine AW.pcs (pc2 := 329) rfl ?_
  refine AW.irem dL_isText_329 (by omega) ?_
  refine AW.top (zdg_n K (by omega) (by omega)).1 ?_
  refine AW.iaddB dL_isText_330 (by omega) ?_
  refine AW.iconst dL_isText_331 (by decide) ?_
  refine AW.isubB dL_isText_332 (by omega) ?_
  refine AW.icmp_neF (tgt := 340) dL_isText_333 rfl (by first | (rw [zs_f0 hw fn (by decide) (by decide) (by decide) h1 (by omega)]; omega) | (rw [zs_b0 hw fn bn (by decide) (by decide) (by decide) (by decide) (by omega)]; omega) | (rw [zs_b1 hw fn bn (by decide) (by decide) (by decide) (by decide) (by omega)]; omega)) ?_
  refine AW.iconst dL_isText_336 (by decide) ?_
  refine AW.goto (tgt := 341) dL_isText_337 rfl ?_
  refine AW.istore dL_isText_341 rfl ?_
  refine AW.iincB dL_isText_343 rfl rfl (by omega) ?_
  refine AW.locs [(0, vq _), (1, vq _), (2, vq _), (3, vi _), (4, vi _), (5, vi _), (6, vi _), (7, vi _), (8, vi _), (9, vi _), (10, vi _)] ⟨rfl, rfl, rfl, rfl, rfl, rfl, rfl, rfl, rfl, rfl, rfl, trivial⟩ ?_
  refine AW.iincB dL_isText_346 rfl rfl (by omega) ?_
  refine AW.goto (tgt := 211) dL_isText_349 rfl ?_
  refine AW.iload dL_isText_211 rfl ?_
  refine AW.iconst dL_isText_213 (by decide) ?_
  refine AW.icmp_geF (tgt := 352) dL_isText_214 rfl (by omega) ?_
  refine AW.iload dL_isText_217 rfl ?_
  refine AW.if_eqF (tgt := 352) dL_isText_219 rfl (by omega) ?_
  refine AW.iload dL_isText_222 rfl ?_
  refine AW.iconst dL_isText_224 (by decide) ?_
  refine AW.icmp_neT (tgt := 251) dL_isText_225 rfl (by omega) ?_
  refine AW.locs [(0, vq _), (1, vq _), (2, vq _), (3, vi _), (4, vi _), (5, vi _), (6, vi _), (7, vi _), (8, vi _), (9, vi _), (10, vi _)] ⟨rfl, rfl, rfl, rfl, rfl, rfl, rfl, rfl, rfl, rfl, rfl, trivial⟩ ?_
  refine AW.aload_n dL_isText_251 rfl ?_
  refine AW.iload_n dL_isText_252 rfl ?_
  refine AW.iload dL_isText_253 rfl ?_
  refine AW.iconst dL_isText_255 (by decide) ?_
  refine AW.icmp_geF (tgt := 263) dL_isText_256 rfl (by omega) ?_
  refine AW.pcs (pc2 := 259) rfl ?_
  refine AW.iconst dL_isText_259 (by decide) ?_
  refine AW.goto (tgt := 264) dL_isText_260 rfl ?_
  refine AW.iload dL_isText_264 rfl ?_
  refine AW.iconst dL_isText_266 (by decide) ?_
  refine AW.irem dL_isText_267 (by omega) ?_
  refine AW.callS (as := [vq _, vi _, vi _, vi _]) dL_isText_268 rfl rfl rfl okL_side lkL_86 rfl rfl rfl (leb (by omega)) (leb (by omega)) rfl (kL_side J.T V.s K h1 ha (by omega) (by decide) (AW.k1 ?_))
  refine AW.top (by first | exact zsd_10 | exact zsd_11 | exact zsd_00 | exact zsd_01) ?_
  refine AW.istore dL_isText_271 rfl ?_
  refine AW.iload dL_isText_273 rfl ?_
  refine AW.if_ltT (tgt := 346) dL_isText_275 rfl (by omega) ?_
  refine AW.locs [(0, vq _), (1, vq _), (2, vq _), (3, vi _), (4, vi _), (5, vi _), (6, vi _), (7, vi _), (8, vi _), (9, vi _), (10, vi _)] ⟨rfl, rfl, rfl, rfl, rfl, rfl, rfl, rfl, rfl, rfl, rfl, trivial⟩ ?_
  refine AW.iincB dL_isText_346 rfl rfl (by omega) ?_
  refine AW.goto (tgt := 211) dL_isText_349 rfl ?_
  refine AW.iload dL_isText_211 rfl ?_
  refine AW.iconst dL_isText_213 (by decide) ?_
  refine AW.icmp_geF (tgt := 352) dL_isText_214 rfl (by omega) ?_
  refine AW.iload dL_isText_217 rfl ?_
  refine AW.if_eqF (tgt := 352) dL_isText_219 rfl (by omega) ?_
  refine AW.iload dL_isText_222 rfl ?_
  refine AW.iconst dL_isText_224 (by decide) ?_
  refine AW.icmp_neF (tgt := 251) dL_isText_225 rfl (by omega) ?_
  refine AW.aload_n dL_isText_228 rfl ?_
  refine AW.iconst dL_isText_229 (by decide) ?_
  refine AW.iload_n dL_isText_230 rfl ?_
  refine AW.iload dL_isText_231 rfl ?_
  refine AW.callV (as := [vi _, vi _, vi _]) dL_isText_233 rfl rfl rfl okX7_text lkL_61 J.F rfl rfl rfl rfl (leb (by omega)) (leb (by omega)) rfl (t_text J (by omega) (by first | (rw [zs_l hw (by decide) (by decide)]; decide) | (rw [zs_fs (j := 0) hw fn (by decide) (by decide) (by decide) (by decide)]; decide) | (rw [zs_bs (j := 0) hw fn bn (by decide) (by decide) (by decide) (by decide) (by decide)]; decide) | (rw [zs_bs (j := 1) hw fn bn (by decide) (by decide) (by decide) (by decide) (by decide)]; decide) | (rw [zs_gt hw fn (by decide) (by decide) (by decide)]; decide) | (rw [zs_f0 hw fn (by decide) (by decide) (by decide) h1 (by omega)]; omega) | (rw [zs_b0 hw fn bn (by decide) (by decide) (by decide) (by decide) (by omega)]; omega) | (rw [zs_b1 hw fn bn (by decide) (by decide) (by decide) (by decide) (by omega)]; omega)) (fun g J e => (AW.k1 ?_)))
  have e0 : la_s _ g := fun j => ⟨fun i => (e j).1 i |>.trans ((e0 j).1 i), fun i => (e j).2 i |>.trans ((e0 j).2 i)⟩
  have V := V.as e
  refine AW.top (y := 62) (zs_gt hw fn (by decide) (by decide) (by decide)) ?_
  refine AW.pcs (pc2 := 236) rfl ?_
  refine AW.bipush dL_isText_236 bp_62 (by decide) ?_
  refine AW.icmp_neF (tgt := 245) dL_isText_238 rfl (by omega) ?_
  refine AW.iconst dL_isText_241 (by decide) ?_
  refine AW.goto (tgt := 246) dL_isText_242 rfl ?_
  refine AW.istore dL_isText_246 rfl ?_
  refine AW.iincB dL_isText_248 rfl rfl (by omega) ?_
  refine AW.locs [(0, vq _), (1, vq _), (2, vq _), (3, vi _), (4, vi _), (5, vi _), (6, vi _), (7, vi _), (8, vi _), (9, vi _), (10, vi _)] ⟨rfl, rfl, rfl, rfl, rfl, rfl, rfl, rfl, rfl, rfl, rfl, trivial⟩ ?_
  refine AW.aload_n dL_isText_251 rfl ?_
  refine AW.iload_n dL_isText_252 rfl ?_
  refine AW.iload dL_isText_253 rfl ?_
  refine AW.iconst dL_isText_255 (by decide) ?_
  refine AW.icmp_geT (tgt := 263) dL_isText_256 rfl (by omega) ?_
  refine AW.iconst dL_isText_263 (by decide) ?_
  refine AW.iload dL_isText_264 rfl ?_
  refine AW.iconst dL_isText_266 (by decide) ?_
  refine AW.irem dL_isText_267 (by omega) ?_
  refine AW.callS (as := [vq _, vi _, vi _, vi _]) dL_isText_268 rfl rfl rfl okL_side lkL_86 rfl rfl rfl (leb (by omega)) (leb (by omega)) rfl (kL_side J.T V.s K h1 ha (by omega) (by decide) (AW.k1 ?_))
  refine AW.top (by first | exact zsd_10 | exact zsd_11 | exact zsd_00 | exact zsd_01) ?_
  refine AW.istore dL_isText_271 rfl ?_
  refine AW.iload dL_isText_273 rfl ?_
  refine AW.if_ltF (tgt := 346) dL_isText_275 rfl (by omega) ?_
  refine AW.iload dL_isText_278 rfl ?_
  refine AW.if_eqF (tgt := 346) dL_isText_280 rfl (by omega) ?_
  refine AW.aload_n dL_isText_283 rfl ?_
  refine AW.iconst dL_isText_284 (by decide) ?_
  refine AW.iload_n dL_isText_285 rfl ?_
  refine AW.pcs (pc2 := 286) rfl ?_
  refine AW.iload dL_isText_286 rfl ?_
  refine AW.callV (as := [vi _, vi _, vi _]) dL_isText_288 rfl rfl rfl okX7_text lkL_61 J.F rfl rfl rfl rfl (leb (by omega)) (leb (by omega)) rfl (t_text J (by omega) (by first | (rw [zs_l hw (by decide) (by decide)]; decide) | (rw [zs_fs (j := 0) hw fn (by decide) (by decide) (by decide) (by decide)]; decide) | (rw [zs_bs (j := 0) hw fn bn (by decide) (by decide) (by decide) (by decide) (by decide)]; decide) | (rw [zs_bs (j := 1) hw fn bn (by decide) (by decide) (by decide) (by decide) (by decide)]; decide) | (rw [zs_gt hw fn (by decide) (by decide) (by decide)]; decide) | (rw [zs_f0 hw fn (by decide) (by decide) (by decide) h1 (by omega)]; omega) | (rw [zs_b0 hw fn bn (by decide) (by decide) (by decide) (by decide) (by omega)]; omega) | (rw [zs_b1 hw fn bn (by decide) (by decide) (by decide) (by decide) (by omega)]; omega)) (fun g J e => (AW.k1 ?_)))
  have e0 : la_s _ g := fun j => ⟨fun i => (e j).1 i |>.trans ((e0 j).1 i), fun i => (e j).2 i |>.trans ((e0 j).2 i)⟩
  have V := V.as e
  refine AW.top (y := 32) (by first | exact zs_fs (j := 0) hw fn (by decide) (by decide) (by decide) (by decide) | exact zs_bs (j := 0) hw fn bn (by decide) (by decide) (by decide) (by decide) (by decide) | exact zs_bs (j := 1) hw fn bn (by decide) (by decide) (by decide) (by decide) (by decide)) ?_
  refine AW.bipush dL_isText_291 bp_32 (by decide) ?_
  refine AW.icmp_neF (tgt := 340) dL_isText_293 rfl (by omega) ?_
  refine AW.aload_n dL_isText_296 rfl ?_
  refine AW.iconst dL_isText_297 (by decide) ?_
  refine AW.iload_n dL_isText_298 rfl ?_
  refine AW.iload dL_isText_299 rfl ?_
  refine AW.iconst dL_isText_301 (by decide) ?_
  refine AW.iaddB dL_isText_302 (by omega) ?_
  refine AW.callV (as := [vi _, vi _, vi _]) dL_isText_303 rfl rfl rfl okX7_text lkL_61 J.F rfl rfl rfl rfl (leb (by omega)) (leb (by omega)) rfl (t_text J (by omega) (by first | (rw [zs_l hw (by decide) (by decide)]; decide) | (rw [zs_fs (j := 0) hw fn (by decide) (by decide) (by decide) (by decide)]; decide) | (rw [zs_bs (j := 0) hw fn bn (by decide) (by decide) (by decide) (by decide) (by decide)]; decide) | (rw [zs_bs (j := 1) hw fn bn (by decide) (by decide) (by decide) (by decide) (by decide)]; decide) | (rw [zs_gt hw fn (by decide) (by decide) (by decide)]; decide) | (rw [zs_f0 hw fn (by decide) (by decide) (by decide) h1 (by omega)]; omega) | (rw [zs_b0 hw fn bn (by decide) (by decide) (by decide) (by decide) (by omega)]; omega) | (rw [zs_b1 hw fn bn (by decide) (by decide) (by decide) (by decide) (by omega)]; omega)) (fun g J e => (AW.k1 ?_)))
  have e0 : la_s _ g := fun j => ⟨fun i => (e j).1 i |>.trans ((e0 j).1 i), fun i => (e j).2 i |>.trans ((e0 j).2 i)⟩
  have V := V.as e
  refine AW.bipush dL_isText_306 bp_97 (by decide) ?_
  refine AW.aload_n dL_isText_308 rfl ?_
  refine AW.iload dL_isText_309 rfl ?_
  refine AW.iconst dL_isText_311 (by decide) ?_
  refine AW.icmp_geT (tgt := 321) dL_isText_312 rfl (by omega) ?_
  refine AW.iload_n dL_isText_321 rfl ?_
  refine AW.iload dL_isText_322 rfl ?_
  refine AW.top (Int.toNat_of_nonneg (by omega)).symm ?_
  refine AW.callS (as := [vq _, vi _, vi _]) dL_isText_324 rfl rfl rfl okL_state lkL_79 rfl rfl rfl (leb (by omega)) (leb (by omega)) rfl (kL_stZ J.T V.s K (by omega) (by omega) (AW.k1 ?_))
  refine AW.bipush dL_isText_327 bp_32 (by decide) ?_
  refine AW.irem dL_isText_329 (by omega) ?_
  refine AW.top (zdg_n K (by omega) (by omega)).1 ?_
  refine AW.iaddB dL_isText_330 (by omega) ?_
  refine AW.iconst dL_isText_331 (by decide) ?_
  refine AW.isubB dL_isText_332 (by omega) ?_
  refine AW.pcs (pc2 := 333) rfl ?_
  refine AW.icmp_neF (tgt := 340) dL_isText_333 rfl (by first | (rw [zs_f0 hw fn (by decide) (by decide) (by decide) h1 (by omega)]; omega) | (rw [zs_b0 hw fn bn (by decide) (by decide) (by decide) (by decide) (by omega)]; omega) | (rw [zs_b1 hw fn bn (by decide) (by decide) (by decide) (by decide) (by omega)]; omega)) ?_
  refine AW.iconst dL_isText_336 (by decide) ?_
  refine AW.goto (tgt := 341) dL_isText_337 rfl ?_
  refine AW.istore dL_isText_341 rfl ?_
  refine AW.iincB dL_isText_343 rfl rfl (by omega) ?_
  refine AW.locs [(0, vq _), (1, vq _), (2, vq _), (3, vi _), (4, vi _), (5, vi _), (6, vi _), (7, vi _), (8, vi _), (9, vi _), (10, vi _)] ⟨rfl, rfl, rfl, rfl, rfl, rfl, rfl, rfl, rfl, rfl, rfl, trivial⟩ ?_
  refine AW.iincB dL_isText_346 rfl rfl (by omega) ?_
  refine AW.goto (tgt := 211) dL_isText_349 rfl ?_
  refine AW.iload dL_isText_211 rfl ?_
  refine AW.iconst dL_isText_213 (by decide) ?_
  refine AW.icmp_geF (tgt := 352) dL_isText_214 rfl (by omega) ?_
  refine AW.iload dL_isText_217 rfl ?_
  refine AW.if_eqF (tgt := 352) dL_isText_219 rfl (by omega) ?_
  refine AW.iload dL_isText_222 rfl ?_
  refine AW.iconst dL_isText_224 (by decide) ?_
  refine AW.icmp_neT (tgt := 251) dL_isText_225 rfl (by omega) ?_
  refine AW.locs [(0, vq _), (1, vq _), (2, vq _), (3, vi _), (4, vi _), (5, vi _), (6, vi _), (7, vi _), (8, vi _), (9, vi _), (10, vi _)] ⟨rfl, rfl, rfl, rfl, rfl, rfl, rfl, rfl, rfl, rfl, rfl, trivial⟩ ?_
  refine AW.aload_n dL_isText_251 rfl ?_
  refine AW.iload_n dL_isText_252 rfl ?_
  refine AW.iload dL_isText_253 rfl ?_
  refine AW.iconst dL_isText_255 (by decide) ?_
  refine AW.icmp_geT (tgt := 263) dL_isText_256 rfl (by omega) ?_
  refine AW.iconst dL_isText_263 (by decide) ?_
  refine AW.iload dL_isText_264 rfl ?_
  refine AW.iconst dL_isText_266 (by decide) ?_
  refine AW.irem dL_isText_267 (by omega) ?_
  refine AW.pcs (pc2 := 268) rfl ?_
  refine AW.callS (as := [vq _, vi _, vi _, vi _]) dL_isText_268 rfl rfl rfl okL_side lkL_86 rfl rfl rfl (leb (by omega)) (leb (by omega)) rfl (kL_side J.T V.s K h1 ha (by omega) (by decide) (AW.k1 ?_))
  refine AW.top (by first | exact zsd_10 | exact zsd_11 | exact zsd_00 | exact zsd_01) ?_
  refine AW.istore dL_isText_271 rfl ?_
  refine AW.iload dL_isText_273 rfl ?_
  refine AW.if_ltF (tgt := 346) dL_isText_275 rfl (by omega) ?_
  refine AW.iload dL_isText_278 rfl ?_
  refine AW.if_eqF (tgt := 346) dL_isText_280 rfl (by omega) ?_
  refine AW.aload_n dL_isText_283 rfl ?_
  refine AW.iconst dL_isText_284 (by decide) ?_
  refine AW.iload_n dL_isText_285 rfl ?_
  refine AW.iload dL_isText_286 rfl ?_
  refine AW.callV (as := [vi _, vi _, vi _]) dL_isText_288 rfl rfl rfl okX7_text lkL_61 J.F rfl rfl rfl rfl (leb (by omega)) (leb (by omega)) rfl (t_text J (by omega) (by first | (rw [zs_l hw (by decide) (by decide)]; decide) | (rw [zs_fs (j := 0) hw fn (by decide) (by decide) (by decide) (by decide)]; decide) | (rw [zs_bs (j := 0) hw fn bn (by decide) (by decide) (by decide) (by decide) (by decide)]; decide) | (rw [zs_bs (j := 1) hw fn bn (by decide) (by decide) (by decide) (by decide) (by decide)]; decide) | (rw [zs_gt hw fn (by decide) (by decide) (by decide)]; decide) | (rw [zs_f0 hw fn (by decide) (by decide) (by decide) h1 (by omega)]; omega) | (rw [zs_b0 hw fn bn (by decide) (by decide) (by decide) (by decide) (by omega)]; omega) | (rw [zs_b1 hw fn bn (by decide) (by decide) (by decide) (by decide) (by omega)]; omega)) (fun g J e => (AW.k1 ?_)))
  have e0 : la_s _ g := fun j => ⟨fun i => (e j).1 i |>.trans ((e0 j).1 i), fun i => (e j).2 i |>.trans ((e0 j).2 i)⟩
  have V := V.as e
  refine AW.top (y := 32) (by first | exact zs_fs (j := 0) hw fn (by decide) (by decide) (by decide) (by decide) | exact zs_bs (j := 0) hw fn bn (by decide) (by decide) (by decide) (by decide) (by decide) | exact zs_bs (j := 1) hw fn bn (by decide) (by decide) (by decide) (by decide) (by decide)) ?_
  refine AW.bipush dL_isText_291 bp_32 (by decide) ?_
  refine AW.icmp_neF (tgt := 340) dL_isText_293 rfl (by omega) ?_
  refine AW.aload_n dL_isText_296 rfl ?_
  refine AW.iconst dL_isText_297 (by decide) ?_
  refine AW.iload_n dL_isText_298 rfl ?_
  refine AW.iload dL_isText_299 rfl ?_
  refine AW.iconst dL_isText_301 (by decide) ?_
  refine AW.iaddB dL_isText_302 (by omega) ?_
  refine AW.callV (as := [vi _, vi _, vi _]) dL_isText_303 rfl rfl rfl okX7_text lkL_61 J.F rfl rfl rfl rfl (leb (by omega)) (leb (by omega)) rfl (t_text J (by omega) (by first | (rw [zs_l hw (by decide) (by decide)]; decide) | (rw [zs_fs (j := 0) hw fn (by decide) (by decide) (by decide) (by decide)]; decide) | (rw [zs_bs (j := 0) hw fn bn (by decide) (by decide) (by decide) (by decide) (by decide)]; decide) | (rw [zs_bs (j := 1) hw fn bn (by decide) (by decide) (by decide) (by decide) (by decide)]; decide) | (rw [zs_gt hw fn (by decide) (by decide) (by decide)]; decide) | (rw [zs_f0 hw fn (by decide) (by decide) (by decide) h1 (by omega)]; omega) | (rw [zs_b0 hw fn bn (by decide) (by decide) (by decide) (by decide) (by omega)]; omega) | (rw [zs_b1 hw fn bn (by decide) (by decide) (by decide) (by decide) (by omega)]; omega)) (fun g J e => (AW.k1 ?_)))
  have e0 : la_s _ g := fun j => ⟨fun i => (e j).1 i |>.trans ((e0 j).1 i), fun i => (e j).2 i |>.trans ((e0 j).2 i)⟩
  have V := V.as e
  refine AW.bipush dL_isText_306 bp_97 (by decide) ?_
  refine AW.aload_n dL_isText_308 rfl ?_
  refine AW.iload dL_isText_309 rfl ?_
  refine AW.iconst dL_isText_311 (by decide) ?_
  refine AW.pcs (pc2 := 312) rfl ?_
  refine AW.icmp_geT (tgt := 321) dL_isText_312 rfl (by omega) ?_
  refine AW.iload_n dL_isText_321 rfl ?_
  refine AW.iload dL_isText_322 rfl ?_
  refine AW.top (Int.toNat_of_nonneg (by omega)).symm ?_
  refine AW.callS (as := [vq _, vi _, vi _]) dL_isText_324 rfl rfl rfl okL_state lkL_79 rfl rfl rfl (leb (by omega)) (leb (by omega)) rfl (kL_stZ J.T V.s K (by omega) (by omega) (AW.k1 ?_))
  refine AW.bipush dL_isText_327 bp_32 (by decide) ?_
  refine AW.irem dL_isText_329 (by omega) ?_
  refine AW.top (zdg_n K (by omega) (by omega)).1 ?_
  refine AW.iaddB dL_isText_330 (by omega) ?_
  refine AW.iconst dL_isText_331 (by decide) ?_
  refine AW.isubB dL_isText_332 (by omega) ?_
  refine AW.icmp_neF (tgt := 340) dL_isText_333 rfl (by first | (rw [zs_f0 hw fn (by decide) (by decide) (by decide) h1 (by omega)]; omega) | (rw [zs_b0 hw fn bn (by decide) (by decide) (by decide) (by decide) (by omega)]; omega) | (rw [zs_b1 hw fn bn (by decide) (by decide) (by decide) (by decide) (by omega)]; omega)) ?_
  refine AW.iconst dL_isText_336 (by decide) ?_
  refine AW.goto (tgt := 341) dL_isText_337 rfl ?_
  refine AW.istore dL_isText_341 rfl ?_
  refine AW.iincB dL_isText_343 rfl rfl (by omega) ?_
  refine AW.locs [(0, vq _), (1, vq _), (2, vq _), (3, vi _), (4, vi _), (5, vi _), (6, vi _), (7, vi _), (8, vi _), (9, vi _), (10, vi _)] ⟨rfl, rfl, rfl, rfl, rfl, rfl, rfl, rfl, rfl, rfl, rfl, trivial⟩ ?_
  refine AW.iincB dL_isText_346 rfl rfl (by omega) ?_
  refine AW.goto (tgt := 211) dL_isText_349 rfl ?_
  refine AW.iload dL_isText_211 rfl ?_
  refine AW.iconst dL_isText_213 (by decide) ?_
  refine AW.icmp_geT (tgt := 352) dL_isText_214 rfl (by omega) ?_
  refine AW.iload dL_isText_352 rfl ?_
  refine AW.if_eqF (tgt := 390) dL_isText_354 rfl (by omega) ?_
  refine AW.aload_n dL_isText_357 rfl ?_
  refine AW.iconst dL_isText_358 (by decide) ?_
  refine AW.iconst dL_isText_359 (by decide) ?_
  refine AW.pcs (pc2 := 360) rfl ?_
  refine AW.iload_n dL_isText_360 rfl ?_
  refine AW.iload dL_isText_361 rfl ?_
  refine AW.callSH (as := [vq _, vi _, vi _, vi _, vi _]) dL_isText_363 rfl rfl rfl okL_asks lkL_119 rfl rfl rfl (by omega) (by omega) rfl (q_textX J (fun z => z.2 (zs_e hw fn bn (by decide) (by decide) (by decide) (by decide))) (fun g J e => (AW.k1 ?_)))
  have e0 : la_s _ g := fun j => ⟨fun i => (e j).1 i |>.trans ((e0 j).1 i), fun i => (e j).2 i |>.trans ((e0 j).2 i)⟩
  refine AW.sipush dL_isText_366 sp_m300 (by decide) ?_
  refine AW.icmp_neF (tgt := 390) dL_isText_369 rfl (by omega) ?_
  refine AW.aload_n dL_isText_372 rfl ?_
  refine AW.iconst dL_isText_373 (by decide) ?_
  refine AW.iconst dL_isText_374 (by decide) ?_
  refine AW.iload_n dL_isText_375 rfl ?_
  refine AW.iconst dL_isText_376 (by decide) ?_
  refine AW.callSH (as := [vq _, vi _, vi _, vi _, vi _]) dL_isText_377 rfl rfl rfl okL_asks lkL_119 rfl rfl rfl (by omega) (by omega) rfl (q_textX J (fun z => z.2 (zs_n (by decide))) (fun g J e => (AW.k1 ?_)))
  have e0 : la_s _ g := fun j => ⟨fun i => (e j).1 i |>.trans ((e0 j).1 i), fun i => (e j).2 i |>.trans ((e0 j).2 i)⟩
  refine AW.sipush dL_isText_380 sp_m300 (by decide) ?_
  refine AW.icmp_neF (tgt := 390) dL_isText_383 rfl (by omega) ?_
  refine AW.iconst dL_isText_386 (by decide) ?_
  refine AW.goto (tgt := 391) dL_isText_387 rfl ?_
  refine AW.zret dL_isText_391 rfl ?_ ?_
  · omega
  exact k g _ J e0
set_option maxHeartbeats 4000000 in
theorem kL_isText4 (J : IV L h Z c b) (V : JV h Z) (h1 : 1 ≤ a) (ha : (a : Int) ≤ Z 1 0) (hw : Z 7 a = 4) (k : ∀ g b', IV L g Z c b' → la_s h g → Q g (.inl (some (vi 1)))) : AC mL_isText fL_isText loL_isText 60 480 h [vr mF, vr (la 1), vr (la 2), vi (a : Int)] Q := by
  have K := J.K
  have b1 := K.b1
  have b2 := K.b2
  obtain ⟨⟨q1, q2, q3, q4⟩, s, d1, d2, d3, d4⟩ := K.p h1 ha
  unfold StK at s
  have fn : zfn Z (24 * 0 + (a : Int)) = 2 := by unfold zfn; rw [zfr0_n, zfr1_n]; (repeat' split) <;> omega
  have bn : zbn Z (24 * 0 + (a : Int)) = 1 := by unfold zbn; rw [zbe0_n, zbe1_n]; (repeat' split) <;> omega
  have sg : (0 ≤ Z 8 (2 * a) ∨ Z 8 (2 * a) = -1) ∧ (0 ≤ Z 8 (2 * a + 1) ∨ Z 8 (2 * a + 1) = -1) := by omega
  have s := fun _ : Unit => s
  have g0 : 0 ≤ Z 8 (2 * a) ∧ 0 ≤ Z 8 (2 * a + 1) ∧ 0 ≤ Z 9 (2 * a) ∧ Z 9 (2 * a + 1) = -1 := by have := s (); omega
  have n0 := (K.nm (v := a - 1) (f := (Z 8 (2 * a)).toNat) (by omega) (by omega)).1
  have n1 := (K.nm (v := a - 1) (f := (Z 8 (2 * a + 1)).toNat) (by omega) (by omega)).1
  have m0 := (K.nm (v := a) (f := (Z 9 (2 * a)).toNat) (by omega) (by omega)).1
  have m1 := (K.nm (v := a) (f := (Z 9 (2 * a + 1)).toNat) (by omega) (by omega)).1
  have p0 : 0 ≤ Z 8 (2 * a) → ¬ Z 5 (48 * (a - 1) + (Z 8 (2 * a)).toNat) = -1 := fun z => d1 (by omega)
  have p1 : 0 ≤ Z 8 (2 * a + 1) → ¬ Z 5 (48 * (a - 1) + (Z 8 (2 * a + 1)).toNat) = -1 := fun z => d2 (by omega)
  have r0 : 0 ≤ Z 9 (2 * a) → ¬ Z 5 (48 * a + (Z 9 (2 * a)).toNat) = -1 := fun z => d3 (by omega)
  have r1 : 0 ≤ Z 9 (2 * a + 1) → ¬ Z 5 (48 * a + (Z 9 (2 * a + 1)).toNat) = -1 := fun z => d4 (by omega)
  clear d1 d2 d3 d4
  have e0 : la_s h h := fun j => ⟨fun _ => rfl, fun _ => rfl⟩
  refine AC.mk (by decide) (Nat.le_of_ble_eq_true rfl) ?_
  refine AW.aload_n dL_isText_0 rfl ?_
  refine AW.iload_n dL_isText_1 rfl ?_
  refine AW.aldIE dL_isText_2 J.T.a2 (by omega) (by omega) (by exact V.s.w (a := a) h1 ha) ?_
  refine AW.bipush dL_isText_3 bp_8 (by decide) ?_
  refine AW.irem dL_isText_5 (by omega) ?_
  refine AW.top (y := 4) (by rw [zwd_7 K h1 ha]; exact hw) ?_
  refine AW.istore dL_isText_6 rfl ?_
  refine AW.iload dL_isText_8 rfl ?_
  refine AW.if_neT (tgt := 18) dL_isText_10 rfl (by omega) ?_
  refine AW.iload dL_isText_18 rfl ?_
  refine AW.iconst dL_isText_20 (by decide) ?_
  refine AW.icmp_neT (tgt := 29) dL_isText_21 rfl (by omega) ?_
  refine AW.iload dL_isText_29 rfl ?_
  refine AW.iconst dL_isText_31 (by decide) ?_
  refine AW.icmp_neT (tgt := 40) dL_isText_32 rfl (by omega) ?_
  refine AW.iload dL_isText_40 rfl ?_
  refine AW.iconst dL_isText_42 (by decide) ?_
  refine AW.icmp_neT (tgt := 51) dL_isText_43 rfl (by omega) ?_
  refine AW.iload dL_isText_51 rfl ?_
  refine AW.iconst dL_isText_53 (by decide) ?_
  refine AW.icmp_neF (tgt := 62) dL_isText_54 rfl (by omega) ?_
  refine AW.bipush dL_isText_57 bp_106 (by decide) ?_
  refine AW.goto (tgt := 75) dL_isText_59 rfl ?_
  refine AW.istore dL_isText_75 rfl ?_
  refine AW.pcs (pc2 := 77) rfl ?_
  refine AW.iload dL_isText_77 rfl ?_
  refine AW.if_neT (tgt := 86) dL_isText_79 rfl (by omega) ?_
  refine AW.iload dL_isText_86 rfl ?_
  refine AW.iconst dL_isText_88 (by decide) ?_
  refine AW.icmp_neT (tgt := 97) dL_isText_89 rfl (by omega) ?_
  refine AW.iload dL_isText_97 rfl ?_
  refine AW.iconst dL_isText_99 (by decide) ?_
  refine AW.icmp_neT (tgt := 107) dL_isText_100 rfl (by omega) ?_
  refine AW.iconst dL_isText_107 (by decide) ?_
  refine AW.istore dL_isText_108 rfl ?_
  refine AW.iload dL_isText_110 rfl ?_
  refine AW.if_neT (tgt := 120) dL_isText_112 rfl (by omega) ?_
  refine AW.iload dL_isText_120 rfl ?_
  refine AW.iconst dL_isText_122 (by decide) ?_
  refine AW.icmp_neT (tgt := 131) dL_isText_123 rfl (by omega) ?_
  refine AW.iload dL_isText_131 rfl ?_
  refine AW.iconst dL_isText_133 (by decide) ?_
  refine AW.icmp_eqF (tgt := 143) dL_isText_134 rfl (by omega) ?_
  refine AW.iload dL_isText_137 rfl ?_
  refine AW.iconst dL_isText_139 (by decide) ?_
  refine AW.icmp_neF (tgt := 148) dL_isText_140 rfl (by omega) ?_
  refine AW.bipush dL_isText_143 bp_110 (by decide) ?_
  refine AW.goto (tgt := 172) dL_isText_145 rfl ?_
  refine AW.istore dL_isText_172 rfl ?_
  refine AW.locs [(0, vq _), (1, vq _), (2, vq _), (3, vi _), (4, vi _), (5, vi _), (6, vi _), (7, vi _)] ⟨rfl, rfl, rfl, rfl, rfl, rfl, rfl, rfl, trivial⟩ ?_
  refine AW.pcs (pc2 := 174) rfl ?_
  refine AW.aload_n dL_isText_174 rfl ?_
  refine AW.iconst dL_isText_175 (by decide) ?_
  refine AW.iload_n dL_isText_176 rfl ?_
  refine AW.iconst dL_isText_177 (by decide) ?_
  refine AW.callV (as := [vi _, vi _, vi _]) dL_isText_178 rfl rfl rfl okX7_text lkL_61 J.F rfl rfl rfl rfl (leb (by omega)) (leb (by omega)) rfl (t_text J (by omega) (by first | (rw [zs_l hw (by decide) (by decide)]; decide) | (rw [zs_fs (j := 0) hw fn (by decide) (by decide) (by decide) (by decide)]; decide) | (rw [zs_fs (j := 1) hw fn (by decide) (by decide) (by decide) (by decide)]; decide) | (rw [zs_bs (j := 0) hw fn bn (by decide) (by decide) (by decide) (by decide) (by decide)]; decide) | (rw [zs_gt hw fn (by decide) (by decide) (by decide)]; decide) | (rw [zs_f0 hw fn (by decide) (by decide) (by decide) h1 (by omega)]; omega) | (rw [zs_f1 hw fn (by decide) (by decide) (by decide) h1 (by omega)]; omega) | (rw [zs_b0 hw fn bn (by decide) (by decide) (by decide) (by decide) (by omega)]; omega)) (fun g J e => (AW.k1 ?_)))
  have e0 : la_s _ g := fun j => ⟨fun i => (e j).1 i |>.trans ((e0 j).1 i), fun i => (e j).2 i |>.trans ((e0 j).2 i)⟩
  have V := V.as e
  refine AW.top (y := 106) (by rw [zs_l hw (by decide) (by decide)]; rfl) ?_
  refine AW.iload dL_isText_181 rfl ?_
  refine AW.icmp_neF (tgt := 205) dL_isText_183 rfl (by omega) ?_
  refine AW.aload_n dL_isText_186 rfl ?_
  refine AW.iconst dL_isText_187 (by decide) ?_
  refine AW.iload_n dL_isText_188 rfl ?_
  refine AW.iload dL_isText_189 rfl ?_
  refine AW.iconst dL_isText_191 (by decide) ?_
  refine AW.isubB dL_isText_192 (by omega) ?_
  refine AW.callV (as := [vi _, vi _, vi _]) dL_isText_193 rfl rfl rfl okX7_text lkL_61 J.F rfl rfl rfl rfl (leb (by omega)) (leb (by omega)) rfl (t_text J (by omega) (by first | (rw [zs_l hw (by decide) (by decide)]; decide) | (rw [zs_fs (j := 0) hw fn (by decide) (by decide) (by decide) (by decide)]; decide) | (rw [zs_fs (j := 1) hw fn (by decide) (by decide) (by decide) (by decide)]; decide) | (rw [zs_bs (j := 0) hw fn bn (by decide) (by decide) (by decide) (by decide) (by decide)]; decide) | (rw [zs_gt hw fn (by decide) (by decide) (by decide)]; decide) | (rw [zs_f0 hw fn (by decide) (by decide) (by decide) h1 (by omega)]; omega) | (rw [zs_f1 hw fn (by decide) (by decide) (by decide) h1 (by omega)]; omega) | (rw [zs_b0 hw fn bn (by decide) (by decide) (by decide) (by decide) (by omega)]; omega)) (fun g J e => (AW.k1 ?_)))
  have e0 : la_s _ g := fun j => ⟨fun i => (e j).1 i |>.trans ((e0 j).1 i), fun i => (e j).2 i |>.trans ((e0 j).2 i)⟩
  have V := V.as e
  refine AW.top (y := 110) (by rw [zs_l hw (by decide) (by decide)]; rfl) ?_
  refine AW.iload dL_isText_196 rfl ?_
  refine AW.icmp_neF (tgt := 205) dL_isText_198 rfl (by omega) ?_
  refine AW.iconst dL_isText_201 (by decide) ?_
  refine AW.goto (tgt := 206) dL_isText_202 rfl ?_
  refine AW.istore dL_isText_206 rfl ?_
  refine AW.iconst dL_isText_208 (by decide) ?_
  refine AW.istore dL_isText_209 rfl ?_
  refine AW.iload dL_isText_211 rfl ?_
  refine AW.iconst dL_isText_213 (by decide) ?_
  refine AW.icmp_geF (tgt := 352) dL_isText_214 rfl (by omega) ?_
  refine AW.pcs (pc2 := 217) rfl ?_
  refine AW.iload dL_isText_217 rfl ?_
  refine AW.if_eqF (tgt := 352) dL_isText_219 rfl (by omega) ?_
  refine AW.iload dL_isText_222 rfl ?_
  refine AW.iconst dL_isText_224 (by decide) ?_
  refine AW.icmp_neT (tgt := 251) dL_isText_225 rfl (by omega) ?_
  refine AW.locs [(0, vq _), (1, vq _), (2, vq _), (3, vi _), (4, vi _), (5, vi _), (6, vi _), (7, vi _), (8, vi _), (9, vi _)] ⟨rfl, rfl, rfl, rfl, rfl, rfl, rfl, rfl, rfl, rfl, trivial⟩ ?_
  refine AW.aload_n dL_isText_251 rfl ?_
  refine AW.iload_n dL_isText_252 rfl ?_
  refine AW.iload dL_isText_253 rfl ?_
  refine AW.iconst dL_isText_255 (by decide) ?_
  refine AW.icmp_geF (tgt := 263) dL_isText_256 rfl (by omega) ?_
  refine AW.iconst dL_isText_259 (by decide) ?_
  refine AW.goto (tgt := 264) dL_isText_260 rfl ?_
  refine AW.iload dL_isText_264 rfl ?_
  refine AW.iconst dL_isText_266 (by decide) ?_
  refine AW.irem dL_isText_267 (by omega) ?_
  refine AW.callS (as := [vq _, vi _, vi _, vi _]) dL_isText_268 rfl rfl rfl okL_side lkL_86 rfl rfl rfl (leb (by omega)) (leb (by omega)) rfl (kL_side J.T V.s K h1 ha (by omega) (by decide) (AW.k1 ?_))
  refine AW.top (by first | exact zsd_10 | exact zsd_11 | exact zsd_00 | exact zsd_01) ?_
  refine AW.istore dL_isText_271 rfl ?_
  refine AW.iload dL_isText_273 rfl ?_
  refine AW.if_ltF (tgt := 346) dL_isText_275 rfl (by omega) ?_
  refine AW.iload dL_isText_278 rfl ?_
  refine AW.if_eqF (tgt := 346) dL_isText_280 rfl (by omega) ?_
  refine AW.aload_n dL_isText_283 rfl ?_
  refine AW.iconst dL_isText_284 (by decide) ?_
  refine AW.iload_n dL_isText_285 rfl ?_
  refine AW.pcs (pc2 := 286) rfl ?_
  refine AW.iload dL_isText_286 rfl ?_
  refine AW.callV (as := [vi _, vi _, vi _]) dL_isText_288 rfl rfl rfl okX7_text lkL_61 J.F rfl rfl rfl rfl (leb (by omega)) (leb (by omega)) rfl (t_text J (by omega) (by first | (rw [zs_l hw (by decide) (by decide)]; decide) | (rw [zs_fs (j := 0) hw fn (by decide) (by decide) (by decide) (by decide)]; decide) | (rw [zs_fs (j := 1) hw fn (by decide) (by decide) (by decide) (by decide)]; decide) | (rw [zs_bs (j := 0) hw fn bn (by decide) (by decide) (by decide) (by decide) (by decide)]; decide) | (rw [zs_gt hw fn (by decide) (by decide) (by decide)]; decide) | (rw [zs_f0 hw fn (by decide) (by decide) (by decide) h1 (by omega)]; omega) | (rw [zs_f1 hw fn (by decide) (by decide) (by decide) h1 (by omega)]; omega) | (rw [zs_b0 hw fn bn (by decide) (by decide) (by decide) (by decide) (by omega)]; omega)) (fun g J e => (AW.k1 ?_)))
  have e0 : la_s _ g := fun j => ⟨fun i => (e j).1 i |>.trans ((e0 j).1 i), fun i => (e j).2 i |>.trans ((e0 j).2 i)⟩
  have V := V.as e
  refine AW.top (y := 32) (by first | exact zs_fs (j := 0) hw fn (by decide) (by decide) (by decide) (by decide) | exact zs_fs (j := 1) hw fn (by decide) (by decide) (by decide) (by decide) | exact zs_bs (j := 0) hw fn bn (by decide) (by decide) (by decide) (by decide) (by decide)) ?_
  refine AW.bipush dL_isText_291 bp_32 (by decide) ?_
  refine AW.icmp_neF (tgt := 340) dL_isText_293 rfl (by omega) ?_
  refine AW.aload_n dL_isText_296 rfl ?_
  refine AW.iconst dL_isText_297 (by decide) ?_
  refine AW.iload_n dL_isText_298 rfl ?_
  refine AW.iload dL_isText_299 rfl ?_
  refine AW.iconst dL_isText_301 (by decide) ?_
  refine AW.iaddB dL_isText_302 (by omega) ?_
  refine AW.callV (as := [vi _, vi _, vi _]) dL_isText_303 rfl rfl rfl okX7_text lkL_61 J.F rfl rfl rfl rfl (leb (by omega)) (leb (by omega)) rfl (t_text J (by omega) (by first | (rw [zs_l hw (by decide) (by decide)]; decide) | (rw [zs_fs (j := 0) hw fn (by decide) (by decide) (by decide) (by decide)]; decide) | (rw [zs_fs (j := 1) hw fn (by decide) (by decide) (by decide) (by decide)]; decide) | (rw [zs_bs (j := 0) hw fn bn (by decide) (by decide) (by decide) (by decide) (by decide)]; decide) | (rw [zs_gt hw fn (by decide) (by decide) (by decide)]; decide) | (rw [zs_f0 hw fn (by decide) (by decide) (by decide) h1 (by omega)]; omega) | (rw [zs_f1 hw fn (by decide) (by decide) (by decide) h1 (by omega)]; omega) | (rw [zs_b0 hw fn bn (by decide) (by decide) (by decide) (by decide) (by omega)]; omega)) (fun g J e => (AW.k1 ?_)))
  have e0 : la_s _ g := fun j => ⟨fun i => (e j).1 i |>.trans ((e0 j).1 i), fun i => (e j).2 i |>.trans ((e0 j).2 i)⟩
  have V := V.as e
  refine AW.bipush dL_isText_306 bp_97 (by decide) ?_
  refine AW.aload_n dL_isText_308 rfl ?_
  refine AW.iload dL_isText_309 rfl ?_
  refine AW.iconst dL_isText_311 (by decide) ?_
  refine AW.icmp_geF (tgt := 321) dL_isText_312 rfl (by omega) ?_
  refine AW.iload_n dL_isText_315 rfl ?_
  refine AW.iconst dL_isText_316 (by decide) ?_
  refine AW.isubB dL_isText_317 (by omega) ?_
  refine AW.top (y := ((a - 1 : Nat) : Int)) (by omega) ?_
  refine AW.goto (tgt := 322) dL_isText_318 rfl ?_
  refine AW.iload dL_isText_322 rfl ?_
  refine AW.top (Int.toNat_of_nonneg (by omega)).symm ?_
  refine AW.callS (as := [vq _, vi _, vi _]) dL_isText_324 rfl rfl rfl okL_state lkL_79 rfl rfl rfl (leb (by omega)) (leb (by omega)) rfl (kL_stZ J.T V.s K (by omega) (by omega) (AW.k1 ?_))
  refine AW.bipush dL_isText_327 bp_32 (by decide) ?_
  refine AW.irem dL_isText_329 (by omega) ?_
  refine AW.top (zdg_n K (by omega) (by omega)).1 ?_
  refine AW.pcs (pc2 := 330) rfl ?_
  refine AW.iaddB dL_isText_330 (by omega) ?_
  refine AW.iconst dL_isText_331 (by decide) ?_
  refine AW.isubB dL_isText_332 (by omega) ?_
  refine AW.icmp_neF (tgt := 340) dL_isText_333 rfl (by first | (rw [zs_f0 hw fn (by decide) (by decide) (by decide) h1 (by omega)]; omega) | (rw [zs_f1 hw fn (by decide) (by decide) (by decide) h1 (by omega)]; omega) | (rw [zs_b0 hw fn bn (by decide) (by decide) (by decide) (by decide) (by omega)]; omega)) ?_
  refine AW.iconst dL_isText_336 (by decide) ?_
  refine AW.goto (tgt := 341) dL_isText_337 rfl ?_
  refine AW.istore dL_isText_341 rfl ?_
  refine AW.iincB dL_isText_343 rfl rfl (by omega) ?_
  refine AW.locs [(0, vq _), (1, vq _), (2, vq _), (3, vi _), (4, vi _), (5, vi _), (6, vi _), (7, vi _), (8, vi _), (9, vi _), (10, vi _)] ⟨rfl, rfl, rfl, rfl, rfl, rfl, rfl, rfl, rfl, rfl, rfl, trivial⟩ ?_
  refine AW.iincB dL_isText_346 rfl rfl (by omega) ?_
  refine AW.goto (tgt := 211) dL_isText_349 rfl ?_
  refine AW.iload dL_isText_211 rfl ?_
  refine AW.iconst dL_isText_213 (by decide) ?_
  refine AW.icmp_geF (tgt := 352) dL_isText_214 rfl (by omega) ?_
  refine AW.iload dL_isText_217 rfl ?_
  refine AW.if_eqF (tgt := 352) dL_isText_219 rfl (by omega) ?_
  refine AW.iload dL_isText_222 rfl ?_
  refine AW.iconst dL_isText_224 (by decide) ?_
  refine AW.icmp_neT (tgt := 251) dL_isText_225 rfl (by omega) ?_
  refine AW.locs [(0, vq _), (1, vq _), (2, vq _), (3, vi _), (4, vi _), (5, vi _), (6, vi _), (7, vi _), (8, vi _), (9, vi _), (10, vi _)] ⟨rfl, rfl, rfl, rfl, rfl, rfl, rfl, rfl, rfl, rfl, rfl, trivial⟩ ?_
  refine AW.aload_n dL_isText_251 rfl ?_
  refine AW.iload_n dL_isText_252 rfl ?_
  refine AW.iload dL_isText_253 rfl ?_
  refine AW.iconst dL_isText_255 (by decide) ?_
  refine AW.icmp_geF (tgt := 263) dL_isText_256 rfl (by omega) ?_
  refine AW.iconst dL_isText_259 (by decide) ?_
  refine AW.pcs (pc2 := 260) rfl ?_
  refine AW.goto (tgt := 264) dL_isText_260 rfl ?_
  refine AW.iload dL_isText_264 rfl ?_
  refine AW.iconst dL_isText_266 (by decide) ?_
  refine AW.irem dL_isText_267 (by omega) ?_
  refine AW.callS (as := [vq _, vi _, vi _, vi _]) dL_isText_268 rfl rfl rfl okL_side lkL_86 rfl rfl rfl (leb (by omega)) (leb (by omega)) rfl (kL_side J.T V.s K h1 ha (by omega) (by decide) (AW.k1 ?_))
  refine AW.top (by first | exact zsd_10 | exact zsd_11 | exact zsd_00 | exact zsd_01) ?_
  refine AW.istore dL_isText_271 rfl ?_
  refine AW.iload dL_isText_273 rfl ?_
  refine AW.if_ltF (tgt := 346) dL_isText_275 rfl (by omega) ?_
  refine AW.iload dL_isText_278 rfl ?_
  refine AW.if_eqF (tgt := 346) dL_isText_280 rfl (by omega) ?_
  refine AW.aload_n dL_isText_283 rfl ?_
  refine AW.iconst dL_isText_284 (by decide) ?_
  refine AW.iload_n dL_isText_285 rfl ?_
  refine AW.iload dL_isText_286 rfl ?_
  refine AW.callV (as := [vi _, vi _, vi _]) dL_isText_288 rfl rfl rfl okX7_text lkL_61 J.F rfl rfl rfl rfl (leb (by omega)) (leb (by omega)) rfl (t_text J (by omega) (by first | (rw [zs_l hw (by decide) (by decide)]; decide) | (rw [zs_fs (j := 0) hw fn (by decide) (by decide) (by decide) (by decide)]; decide) | (rw [zs_fs (j := 1) hw fn (by decide) (by decide) (by decide) (by decide)]; decide) | (rw [zs_bs (j := 0) hw fn bn (by decide) (by decide) (by decide) (by decide) (by decide)]; decide) | (rw [zs_gt hw fn (by decide) (by decide) (by decide)]; decide) | (rw [zs_f0 hw fn (by decide) (by decide) (by decide) h1 (by omega)]; omega) | (rw [zs_f1 hw fn (by decide) (by decide) (by decide) h1 (by omega)]; omega) | (rw [zs_b0 hw fn bn (by decide) (by decide) (by decide) (by decide) (by omega)]; omega)) (fun g J e => (AW.k1 ?_)))
  have e0 : la_s _ g := fun j => ⟨fun i => (e j).1 i |>.trans ((e0 j).1 i), fun i => (e j).2 i |>.trans ((e0 j).2 i)⟩
  have V := V.as e
  refine AW.top (y := 32) (by first | exact zs_fs (j := 0) hw fn (by decide) (by decide) (by decide) (by decide) | exact zs_fs (j := 1) hw fn (by decide) (by decide) (by decide) (by decide) | exact zs_bs (j := 0) hw fn bn (by decide) (by decide) (by decide) (by decide) (by decide)) ?_
  refine AW.bipush dL_isText_291 bp_32 (by decide) ?_
  refine AW.icmp_neF (tgt := 340) dL_isText_293 rfl (by omega) ?_
  refine AW.aload_n dL_isText_296 rfl ?_
  refine AW.iconst dL_isText_297 (by decide) ?_
  refine AW.iload_n dL_isText_298 rfl ?_
  refine AW.iload dL_isText_299 rfl ?_
  refine AW.iconst dL_isText_301 (by decide) ?_
  refine AW.iaddB dL_isText_302 (by omega) ?_
  refine AW.callV (as := [vi _, vi _, vi _]) dL_isText_303 rfl rfl rfl okX7_text lkL_61 J.F rfl rfl rfl rfl (leb (by omega)) (leb (by omega)) rfl (t_text J (by omega) (by first | (rw [zs_l hw (by decide) (by decide)]; decide) | (rw [zs_fs (j := 0) hw fn (by decide) (by decide) (by decide) (by decide)]; decide) | (rw [zs_fs (j := 1) hw fn (by decide) (by decide) (by decide) (by decide)]; decide) | (rw [zs_bs (j := 0) hw fn bn (by decide) (by decide) (by decide) (by decide) (by decide)]; decide) | (rw [zs_gt hw fn (by decide) (by decide) (by decide)]; decide) | (rw [zs_f0 hw fn (by decide) (by decide) (by decide) h1 (by omega)]; omega) | (rw [zs_f1 hw fn (by decide) (by decide) (by decide) h1 (by omega)]; omega) | (rw [zs_b0 hw fn bn (by decide) (by decide) (by decide) (by decide) (by omega)]; omega)) (fun g J e => (AW.k1 ?_)))
  have e0 : la_s _ g := fun j => ⟨fun i => (e j).1 i |>.trans ((e0 j).1 i), fun i => (e j).2 i |>.trans ((e0 j).2 i)⟩
  have V := V.as e
  refine AW.pcs (pc2 := 306) rfl ?_
  refine AW.bipush dL_isText_306 bp_97 (by decide) ?_
  refine AW.aload_n dL_isText_308 rfl ?_
  refine AW.iload dL_isText_309 rfl ?_
  refine AW.iconst dL_isText_311 (by decide) ?_
  refine AW.icmp_geF (tgt := 321) dL_isText_312 rfl (by omega) ?_
  refine AW.iload_n dL_isText_315 rfl ?_
  refine AW.iconst dL_isText_316 (by decide) ?_
  refine AW.isubB dL_isText_317 (by omega) ?_
  refine AW.top (y := ((a - 1 : Nat) : Int)) (by omega) ?_
  refine AW.goto (tgt := 322) dL_isText_318 rfl ?_
  refine AW.iload dL_isText_322 rfl ?_
  refine AW.top (Int.toNat_of_nonneg (by omega)).symm ?_
  refine AW.callS (as := [vq _, vi _, vi _]) dL_isText_324 rfl rfl rfl okL_state lkL_79 rfl rfl rfl (leb (by omega)) (leb (by omega)) rfl (kL_stZ J.T V.s K (by omega) (by omega) (AW.k1 ?_))
  refine AW.bipush dL_isText_327 bp_32 (by decide) ?_
  refine AW.irem dL_isText_329 (by omega) ?_
  refine AW.top (zdg_n K (by omega) (by omega)).1 ?_
  refine AW.iaddB dL_isText_330 (by omega) ?_
  refine AW.iconst dL_isText_331 (by decide) ?_
  refine AW.isubB dL_isText_332 (by omega) ?_
  refine AW.icmp_neF (tgt := 340) dL_isText_333 rfl (by first | (rw [zs_f0 hw fn (by decide) (by decide) (by decide) h1 (by omega)]; omega) | (rw [zs_f1 hw fn (by decide) (by decide) (by decide) h1 (by omega)]; omega) | (rw [zs_b0 hw fn bn (by decide) (by decide) (by decide) (by decide) (by omega)]; omega)) ?_
  refine AW.iconst dL_isText_336 (by decide) ?_
  refine AW.goto (tgt := 341) dL_isText_337 rfl ?_
  refine AW.istore dL_isText_341 rfl ?_
  refine AW.iincB dL_isText_343 rfl rfl (by omega) ?_
  refine AW.locs [(0, vq _), (1, vq _), (2, vq _), (3, vi _), (4, vi _), (5, vi _), (6, vi _), (7, vi _), (8, vi _), (9, vi _), (10, vi _)] ⟨rfl, rfl, rfl, rfl, rfl, rfl, rfl, rfl, rfl, rfl, rfl, trivial⟩ ?_
  refine AW.iincB dL_isText_346 rfl rfl (by omega) ?_
  refine AW.goto (tgt := 211) dL_isText_349 rfl ?_
  refine AW.iload dL_isText_211 rfl ?_
  refine AW.pcs (pc2 := 213) rfl ?_
  refine AW.iconst dL_isText_213 (by decide) ?_
  refine AW.icmp_geF (tgt := 352) dL_isText_214 rfl (by omega) ?_
  refine AW.iload dL_isText_217 rfl ?_
  refine AW.if_eqF (tgt := 352) dL_isText_219 rfl (by omega) ?_
  refine AW.iload dL_isText_222 rfl ?_
  refine AW.iconst dL_isText_224 (by decide) ?_
  refine AW.icmp_neF (tgt := 251) dL_isText_225 rfl (by omega) ?_
  refine AW.aload_n dL_isText_228 rfl ?_
  refine AW.iconst dL_isText_229 (by decide) ?_
  refine AW.iload_n dL_isText_230 rfl ?_
  refine AW.iload dL_isText_231 rfl ?_
  refine AW.callV (as := [vi _, vi _, vi _]) dL_isText_233 rfl rfl rfl okX7_text lkL_61 J.F rfl rfl rfl rfl (leb (by omega)) (leb (by omega)) rfl (t_text J (by omega) (by first | (rw [zs_l hw (by decide) (by decide)]; decide) | (rw [zs_fs (j := 0) hw fn (by decide) (by decide) (by decide) (by decide)]; decide) | (rw [zs_fs (j := 1) hw fn (by decide) (by decide) (by decide) (by decide)]; decide) | (rw [zs_bs (j := 0) hw fn bn (by decide) (by decide) (by decide) (by decide) (by decide)]; decide) | (rw [zs_gt hw fn (by decide) (by decide) (by decide)]; decide) | (rw [zs_f0 hw fn (by decide) (by decide) (by decide) h1 (by omega)]; omega) | (rw [zs_f1 hw fn (by decide) (by decide) (by decide) h1 (by omega)]; omega) | (rw [zs_b0 hw fn bn (by decide) (by decide) (by decide) (by decide) (by omega)]; omega)) (fun g J e => (AW.k1 ?_)))
  have e0 : la_s _ g := fun j => ⟨fun i => (e j).1 i |>.trans ((e0 j).1 i), fun i => (e j).2 i |>.trans ((e0 j).2 i)⟩
  have V := V.as e
  refine AW.top (y := 62) (zs_gt hw fn (by decide) (by decide) (by decide)) ?_
  refine AW.bipush dL_isText_236 bp_62 (by decide) ?_
  refine AW.icmp_neF (tgt := 245) dL_isText_238 rfl (by omega) ?_
  refine AW.iconst dL_isText_241 (by decide) ?_
  refine AW.goto (tgt := 246) dL_isText_242 rfl ?_
  refine AW.istore dL_isText_246 rfl ?_
  refine AW.iincB dL_isText_248 rfl rfl (by omega) ?_
  refine AW.locs [(0, vq _), (1, vq _), (2, vq _), (3, vi _), (4, vi _), (5, vi _), (6, vi _), (7, vi _), (8, vi _), (9, vi _), (10, vi _)] ⟨rfl, rfl, rfl, rfl, rfl, rfl, rfl, rfl, rfl, rfl, rfl, trivial⟩ ?_
  refine AW.aload_n dL_isText_251 rfl ?_
  refine AW.iload_n dL_isText_252 rfl ?_
  refine AW.iload dL_isText_253 rfl ?_
  refine AW.iconst dL_isText_255 (by decide) ?_
  refine AW.icmp_geT (tgt := 263) dL_isText_256 rfl (by omega) ?_
  refine AW.iconst dL_isText_263 (by decide) ?_
  refine AW.pcs (pc2 := 264) rfl ?_
  refine AW.iload dL_isText_264 rfl ?_
  refine AW.iconst dL_isText_266 (by decide) ?_
  refine AW.irem dL_isText_267 (by omega) ?_
  refine AW.callS (as := [vq _, vi _, vi _, vi _]) dL_isText_268 rfl rfl rfl okL_side lkL_86 rfl rfl rfl (leb (by omega)) (leb (by omega)) rfl (kL_side J.T V.s K h1 ha (by omega) (by decide) (AW.k1 ?_))
  refine AW.top (by first | exact zsd_10 | exact zsd_11 | exact zsd_00 | exact zsd_01) ?_
  refine AW.istore dL_isText_271 rfl ?_
  refine AW.iload dL_isText_273 rfl ?_
  refine AW.if_ltF (tgt := 346) dL_isText_275 rfl (by omega) ?_
  refine AW.iload dL_isText_278 rfl ?_
  refine AW.if_eqF (tgt := 346) dL_isText_280 rfl (by omega) ?_
  refine AW.aload_n dL_isText_283 rfl ?_
  refine AW.iconst dL_isText_284 (by decide) ?_
  refine AW.iload_n dL_isText_285 rfl ?_
  refine AW.iload dL_isText_286 rfl ?_
  refine AW.callV (as := [vi _, vi _, vi _]) dL_isText_288 rfl rfl rfl okX7_text lkL_61 J.F rfl rfl rfl rfl (leb (by omega)) (leb (by omega)) rfl (t_text J (by omega) (by first | (rw [zs_l hw (by decide) (by decide)]; decide) | (rw [zs_fs (j := 0) hw fn (by decide) (by decide) (by decide) (by decide)]; decide) | (rw [zs_fs (j := 1) hw fn (by decide) (by decide) (by decide) (by decide)]; decide) | (rw [zs_bs (j := 0) hw fn bn (by decide) (by decide) (by decide) (by decide) (by decide)]; decide) | (rw [zs_gt hw fn (by decide) (by decide) (by decide)]; decide) | (rw [zs_f0 hw fn (by decide) (by decide) (by decide) h1 (by omega)]; omega) | (rw [zs_f1 hw fn (by decide) (by decide) (by decide) h1 (by omega)]; omega) | (rw [zs_b0 hw fn bn (by decide) (by decide) (by decide) (by decide) (by omega)]; omega)) (fun g J e => (AW.k1 ?_)))
  have e0 : la_s _ g := fun j => ⟨fun i => (e j).1 i |>.trans ((e0 j).1 i), fun i => (e j).2 i |>.trans ((e0 j).2 i)⟩
  have V := V.as e
  refine AW.top (y := 32) (by first | exact zs_fs (j := 0) hw fn (by decide) (by decide) (by decide) (by decide) | exact zs_fs (j := 1) hw fn (by decide) (by decide) (by decide) (by decide) | exact zs_bs (j := 0) hw fn bn (by decide) (by decide) (by decide) (by decide) (by decide)) ?_
  refine AW.bipush dL_isText_291 bp_32 (by decide) ?_
  refine AW.icmp_neF (tgt := 340) dL_isText_293 rfl (by omega) ?_
  refine AW.aload_n dL_isText_296 rfl ?_
  refine AW.iconst dL_isText_297 (by decide) ?_
  refine AW.iload_n dL_isText_298 rfl ?_
  refine AW.iload dL_isText_299 rfl ?_
  refine AW.iconst dL_isText_301 (by decide) ?_
  refine AW.iaddB dL_isText_302 (by omega) ?_
  refine AW.callV (as := [vi _, vi _, vi _]) dL_isText_303 rfl rfl rfl okX7_text lkL_61 J.F rfl rfl rfl rfl (leb (by omega)) (leb (by omega)) rfl (t_text J (by omega) (by first | (rw [zs_l hw (by decide) (by decide)]; decide) | (rw [zs_fs (j := 0) hw fn (by decide) (by decide) (by decide) (by decide)]; decide) | (rw [zs_fs (j := 1) hw fn (by decide) (by decide) (by decide) (by decide)]; decide) | (rw [zs_bs (j := 0) hw fn bn (by decide) (by decide) (by decide) (by decide) (by decide)]; decide) | (rw [zs_gt hw fn (by decide) (by decide) (by decide)]; decide) | (rw [zs_f0 hw fn (by decide) (by decide) (by decide) h1 (by omega)]; omega) | (rw [zs_f1 hw fn (by decide) (by decide) (by decide) h1 (by omega)]; omega) | (rw [zs_b0 hw fn bn (by decide) (by decide) (by decide) (by decide) (by omega)]; omega)) (fun g J e => (AW.k1 ?_)))
  have e0 : la_s _ g := fun j => ⟨fun i => (e j).1 i |>.trans ((e0 j).1 i), fun i => (e j).2 i |>.trans ((e0 j).2 i)⟩
  have V := V.as e
  refine AW.bipush dL_isText_306 bp_97 (by decide) ?_
  refine AW.pcs (pc2 := 308) rfl ?_
  refine AW.aload_n dL_isText_308 rfl ?_
  refine AW.iload dL_isText_309 rfl ?_
  refine AW.iconst dL_isText_311 (by decide) ?_
  refine AW.icmp_geT (tgt := 321) dL_isText_312 rfl (by omega) ?_
  refine AW.iload_n dL_isText_321 rfl ?_
  refine AW.iload dL_isText_322 rfl ?_
  refine AW.top (Int.toNat_of_nonneg (by omega)).symm ?_
  refine AW.callS (as := [vq _, vi _, vi _]) dL_isText_324 rfl rfl rfl okL_state lkL_79 rfl rfl rfl (leb (by omega)) (leb (by omega)) rfl (kL_stZ J.T V.s K (by omega) (by omega) (AW.k1 ?_))
  refine AW.bipush dL_isText_327 bp_32 (by decide) ?_
  refine AW.irem dL_isText_329 (by omega) ?_
  refine AW.top (zdg_n K (by omega) (by omega)).1 ?_
  refine AW.iaddB dL_isText_330 (by omega) ?_
  refine AW.iconst dL_isText_331 (by decide) ?_
  refine AW.isubB dL_isText_332 (by omega) ?_
  refine AW.icmp_neF (tgt := 340) dL_isText_333 rfl (by first | (rw [zs_f0 hw fn (by decide) (by decide) (by decide) h1 (by omega)]; omega) | (rw [zs_f1 hw fn (by decide) (by decide) (by decide) h1 (by omega)]; omega) | (rw [zs_b0 hw fn bn (by decide) (by decide) (by decide) (by decide) (by omega)]; omega)) ?_
  refine AW.iconst dL_isText_336 (by decide) ?_
  refine AW.goto (tgt := 341) dL_isText_337 rfl ?_
  refine AW.istore dL_isText_341 rfl ?_
  refine AW.iincB dL_isText_343 rfl rfl (by omega) ?_
  refine AW.locs [(0, vq _), (1, vq _), (2, vq _), (3, vi _), (4, vi _), (5, vi _), (6, vi _), (7, vi _), (8, vi _), (9, vi _), (10, vi _)] ⟨rfl, rfl, rfl, rfl, rfl, rfl, rfl, rfl, rfl, rfl, rfl, trivial⟩ ?_
  refine AW.iincB dL_isText_346 rfl rfl (by omega) ?_
  refine AW.goto (tgt := 211) dL_isText_349 rfl ?_
  refine AW.iload dL_isText_211 rfl ?_
  refine AW.iconst dL_isText_213 (by decide) ?_
  refine AW.icmp_geF (tgt := 352) dL_isText_214 rfl (by omega) ?_
  refine AW.iload dL_isText_217 rfl ?_
  refine AW.if_eqF (tgt := 352) dL_isText_219 rfl (by omega) ?_
  refine AW.pcs (pc2 := 222) rfl ?_
  refine AW.iload dL_isText_222 rfl ?_
  refine AW.iconst dL_isText_224 (by decide) ?_
  refine AW.icmp_neT (tgt := 251) dL_isText_225 rfl (by omega) ?_
  refine AW.locs [(0, vq _), (1, vq _), (2, vq _), (3, vi _), (4, vi _), (5, vi _), (6, vi _), (7, vi _), (8, vi _), (9, vi _), (10, vi _)] ⟨rfl, rfl, rfl, rfl, rfl, rfl, rfl, rfl, rfl, rfl, rfl, trivial⟩ ?_
  refine AW.aload_n dL_isText_251 rfl ?_
  refine AW.iload_n dL_isText_252 rfl ?_
  refine AW.iload dL_isText_253 rfl ?_
  refine AW.iconst dL_isText_255 (by decide) ?_
  refine AW.icmp_geT (tgt := 263) dL_isText_256 rfl (by omega) ?_
  refine AW.iconst dL_isText_263 (by decide) ?_
  refine AW.iload dL_isText_264 rfl ?_
  refine AW.iconst dL_isText_266 (by decide) ?_
  refine AW.irem dL_isText_267 (by omega) ?_
  refine AW.callS (as := [vq _, vi _, vi _, vi _]) dL_isText_268 rfl rfl rfl okL_side lkL_86 rfl rfl rfl (leb (by omega)) (leb (by omega)) rfl (kL_side J.T V.s K h1 ha (by omega) (by decide) (AW.k1 ?_))
  refine AW.top (by first | exact zsd_10 | exact zsd_11 | exact zsd_00 | exact zsd_01) ?_
  refine AW.istore dL_isText_271 rfl ?_
  refine AW.iload dL_isText_273 rfl ?_
  refine AW.if_ltT (tgt := 346) dL_isText_275 rfl (by omega) ?_
  refine AW.locs [(0, vq _), (1, vq _), (2, vq _), (3, vi _), (4, vi _), (5, vi _), (6, vi _), (7, vi _), (8, vi _), (9, vi _), (10, vi _)] ⟨rfl, rfl, rfl, rfl, rfl, rfl, rfl, rfl, rfl, rfl, rfl, trivial⟩ ?_
  refine AW.iincB dL_isText_346 rfl rfl (by omega) ?_
  refine AW.goto (tgt := 211) dL_isText_349 rfl ?_
  refine AW.iload dL_isText_211 rfl ?_
  refine AW.iconst dL_isText_213 (by decide) ?_
  refine AW.icmp_geT (tgt := 352) dL_isText_214 rfl (by omega) ?_
  refine AW.iload dL_isText_352 rfl ?_
  refine AW.if_eqF (tgt := 390) dL_isText_354 rfl (by omega) ?_
  refine AW.aload_n dL_isText_357 rfl ?_
  refine AW.pcs (pc2 := 358) rfl ?_
  refine AW.iconst dL_isText_358 (by decide) ?_
  refine AW.iconst dL_isText_359 (by decide) ?_
  refine AW.iload_n dL_isText_360 rfl ?_
  refine AW.iload dL_isText_361 rfl ?_
  refine AW.callSH (as := [vq _, vi _, vi _, vi _, vi _]) dL_isText_363 rfl rfl rfl okL_asks lkL_119 rfl rfl rfl (by omega) (by omega) rfl (q_textX J (fun z => z.2 (zs_e hw fn bn (by decide) (by decide) (by decide) (by decide))) (fun g J e => (AW.k1 ?_)))
  have e0 : la_s _ g := fun j => ⟨fun i => (e j).1 i |>.trans ((e0 j).1 i), fun i => (e j).2 i |>.trans ((e0 j).2 i)⟩
  refine AW.sipush dL_isText_366 sp_m300 (by decide) ?_
  refine AW.icmp_neF (tgt := 390) dL_isText_369 rfl (by omega) ?_
  refine AW.aload_n dL_isText_372 rfl ?_
  refine AW.iconst dL_isText_373 (by decide) ?_
  refine AW.iconst dL_isText_374 (by decide) ?_
  refine AW.iload_n dL_isText_375 rfl ?_
  refine AW.iconst dL_isText_376 (by decide) ?_
  refine AW.callSH (as := [vq _, vi _, vi _, vi _, vi _]) dL_isText_377 rfl rfl rfl okL_asks lkL_119 rfl rfl rfl (by omega) (by omega) rfl (q_textX J (fun z => z.2 (zs_n (by decide))) (fun g J e => (AW.k1 ?_)))
  have e0 : la_s _ g := fun j => ⟨fun i => (e j).1 i |>.trans ((e0 j).1 i), fun i => (e j).2 i |>.trans ((e0 j).2 i)⟩
  refine AW.sipush dL_isText_380 sp_m300 (by decide) ?_
  refine AW.icmp_neF (tgt := 390) dL_isText_383 rfl (by omega) ?_
  refine AW.iconst dL_isText_386 (by decide) ?_
  refine AW.goto (tgt := 391) dL_isText_387 rfl ?_
  refine AW.zret dL_isText_391 rfl ?_ ?_
  · omega
  exact k g _ J e0
set_option maxHeartbeats 4000000 in
theorem kL_isText5 (J : IV L h Z c b) (V : JV h Z) (h1 : 1 ≤ a) (ha : (a : Int) ≤ Z 1 0) (hw : Z 7 a = 5) (k : ∀ g b', IV L g Z c b' → la_s h g → Q g (.inl (some (vi 1)))) : AC mL_isText fL_isText loL_isText 60 480 h [vr mF, vr (la 1), vr (la 2), vi (a : Int)] Q := by
  have K := J.K
  have b1 := K.b1
  have b2 := K.b2
  obtain ⟨⟨q1, q2, q3, q4⟩, s, d1, d2, d3, d4⟩ := K.p h1 ha
  unfold StK at s
  have fn : zfn Z (24 * 0 + (a : Int)) = 1 := by unfold zfn; rw [zfr0_n, zfr1_n]; (repeat' split) <;> omega
  have bn : zbn Z (24 * 0 + (a : Int)) = 0 := by unfold zbn; rw [zbe0_n, zbe1_n]; (repeat' split) <;> omega
  have sg : (0 ≤ Z 8 (2 * a) ∨ Z 8 (2 * a) = -1) ∧ (0 ≤ Z 8 (2 * a + 1) ∨ Z 8 (2 * a + 1) = -1) := by omega
  have s := fun _ : Unit => s
  have g0 : 0 ≤ Z 8 (2 * a) ∧ Z 8 (2 * a + 1) = -1 ∧ Z 9 (2 * a) = -1 ∧ Z 9 (2 * a + 1) = -1 := by have := s (); omega
  have n0 := (K.nm (v := a - 1) (f := (Z 8 (2 * a)).toNat) (by omega) (by omega)).1
  have n1 := (K.nm (v := a - 1) (f := (Z 8 (2 * a + 1)).toNat) (by omega) (by omega)).1
  have m0 := (K.nm (v := a) (f := (Z 9 (2 * a)).toNat) (by omega) (by omega)).1
  have m1 := (K.nm (v := a) (f := (Z 9 (2 * a + 1)).toNat) (by omega) (by omega)).1
  have p0 : 0 ≤ Z 8 (2 * a) → ¬ Z 5 (48 * (a - 1) + (Z 8 (2 * a)).toNat) = -1 := fun z => d1 (by omega)
  have p1 : 0 ≤ Z 8 (2 * a + 1) → ¬ Z 5 (48 * (a - 1) + (Z 8 (2 * a + 1)).toNat) = -1 := fun z => d2 (by omega)
  have r0 : 0 ≤ Z 9 (2 * a) → ¬ Z 5 (48 * a + (Z 9 (2 * a)).toNat) = -1 := fun z => d3 (by omega)
  have r1 : 0 ≤ Z 9 (2 * a + 1) → ¬ Z 5 (48 * a + (Z 9 (2 * a + 1)).toNat) = -1 := fun z => d4 (by omega)
  clear d1 d2 d3 d4
  have e0 : la_s h h := fun j => ⟨fun _ => rfl, fun _ => rfl⟩
  refine AC.mk (by decide) (Nat.le_of_ble_eq_true rfl) ?_
  refine AW.aload_n dL_isText_0 rfl ?_
  refine AW.iload_n dL_isText_1 rfl ?_
  refine AW.aldIE dL_isText_2 J.T.a2 (by omega) (by omega) (by exact V.s.w (a := a) h1 ha) ?_
  refine AW.bipush dL_isText_3 bp_8 (by decide) ?_
  refine AW.irem dL_isText_5 (by omega) ?_
  refine AW.top (y := 5) (by rw [zwd_7 K h1 ha]; exact hw) ?_
  refine AW.istore dL_isText_6 rfl ?_
  refine AW.iload dL_isText_8 rfl ?_
  refine AW.if_neT (tgt := 18) dL_isText_10 rfl (by omega) ?_
  refine AW.iload dL_isText_18 rfl ?_
  refine AW.iconst dL_isText_20 (by decide) ?_
  refine AW.icmp_neT (tgt := 29) dL_isText_21 rfl (by omega) ?_
  refine AW.iload dL_isText_29 rfl ?_
  refine AW.iconst dL_isText_31 (by decide) ?_
  refine AW.icmp_neT (tgt := 40) dL_isText_32 rfl (by omega) ?_
  refine AW.iload dL_isText_40 rfl ?_
  refine AW.iconst dL_isText_42 (by decide) ?_
  refine AW.icmp_neT (tgt := 51) dL_isText_43 rfl (by omega) ?_
  refine AW.iload dL_isText_51 rfl ?_
  refine AW.iconst dL_isText_53 (by decide) ?_
  refine AW.icmp_neT (tgt := 62) dL_isText_54 rfl (by omega) ?_
  refine AW.iload dL_isText_62 rfl ?_
  refine AW.iconst dL_isText_64 (by decide) ?_
  refine AW.icmp_neF (tgt := 73) dL_isText_65 rfl (by omega) ?_
  refine AW.pcs (pc2 := 68) rfl ?_
  refine AW.bipush dL_isText_68 bp_100 (by decide) ?_
  refine AW.goto (tgt := 75) dL_isText_70 rfl ?_
  refine AW.istore dL_isText_75 rfl ?_
  refine AW.iload dL_isText_77 rfl ?_
  refine AW.if_neT (tgt := 86) dL_isText_79 rfl (by omega) ?_
  refine AW.iload dL_isText_86 rfl ?_
  refine AW.iconst dL_isText_88 (by decide) ?_
  refine AW.icmp_neT (tgt := 97) dL_isText_89 rfl (by omega) ?_
  refine AW.iload dL_isText_97 rfl ?_
  refine AW.iconst dL_isText_99 (by decide) ?_
  refine AW.icmp_neT (tgt := 107) dL_isText_100 rfl (by omega) ?_
  refine AW.iconst dL_isText_107 (by decide) ?_
  refine AW.istore dL_isText_108 rfl ?_
  refine AW.iload dL_isText_110 rfl ?_
  refine AW.if_neT (tgt := 120) dL_isText_112 rfl (by omega) ?_
  refine AW.iload dL_isText_120 rfl ?_
  refine AW.iconst dL_isText_122 (by decide) ?_
  refine AW.icmp_neT (tgt := 131) dL_isText_123 rfl (by omega) ?_
  refine AW.iload dL_isText_131 rfl ?_
  refine AW.iconst dL_isText_133 (by decide) ?_
  refine AW.icmp_eqF (tgt := 143) dL_isText_134 rfl (by omega) ?_
  refine AW.iload dL_isText_137 rfl ?_
  refine AW.iconst dL_isText_139 (by decide) ?_
  refine AW.icmp_neT (tgt := 148) dL_isText_140 rfl (by omega) ?_
  refine AW.pcs (pc2 := 148) rfl ?_
  refine AW.iload dL_isText_148 rfl ?_
  refine AW.iconst dL_isText_150 (by decide) ?_
  refine AW.icmp_neT (tgt := 159) dL_isText_151 rfl (by omega) ?_
  refine AW.iload dL_isText_159 rfl ?_
  refine AW.iconst dL_isText_161 (by decide) ?_
  refine AW.icmp_neF (tgt := 170) dL_isText_162 rfl (by omega) ?_
  refine AW.bipush dL_isText_165 bp_112 (by decide) ?_
  refine AW.goto (tgt := 172) dL_isText_167 rfl ?_
  refine AW.istore dL_isText_172 rfl ?_
  refine AW.locs [(0, vq _), (1, vq _), (2, vq _), (3, vi _), (4, vi _), (5, vi _), (6, vi _), (7, vi _)] ⟨rfl, rfl, rfl, rfl, rfl, rfl, rfl, rfl, trivial⟩ ?_
  refine AW.aload_n dL_isText_174 rfl ?_
  refine AW.iconst dL_isText_175 (by decide) ?_
  refine AW.iload_n dL_isText_176 rfl ?_
  refine AW.iconst dL_isText_177 (by decide) ?_
  refine AW.callV (as := [vi _, vi _, vi _]) dL_isText_178 rfl rfl rfl okX7_text lkL_61 J.F rfl rfl rfl rfl (leb (by omega)) (leb (by omega)) rfl (t_text J (by omega) (by first | (rw [zs_l hw (by decide) (by decide)]; decide) | (rw [zs_fs (j := 0) hw fn (by decide) (by decide) (by decide) (by decide)]; decide) | (rw [zs_gt hw fn (by decide) (by decide) (by decide)]; decide) | (rw [zs_f0 hw fn (by decide) (by decide) (by decide) h1 (by omega)]; omega)) (fun g J e => (AW.k1 ?_)))
  have e0 : la_s _ g := fun j => ⟨fun i => (e j).1 i |>.trans ((e0 j).1 i), fun i => (e j).2 i |>.trans ((e0 j).2 i)⟩
  have V := V.as e
  refine AW.top (y := 100) (by rw [zs_l hw (by decide) (by decide)]; rfl) ?_
  refine AW.iload dL_isText_181 rfl ?_
  refine AW.icmp_neF (tgt := 205) dL_isText_183 rfl (by omega) ?_
  refine AW.aload_n dL_isText_186 rfl ?_
  refine AW.iconst dL_isText_187 (by decide) ?_
  refine AW.iload_n dL_isText_188 rfl ?_
  refine AW.iload dL_isText_189 rfl ?_
  refine AW.iconst dL_isText_191 (by decide) ?_
  refine AW.isubB dL_isText_192 (by omega) ?_
  refine AW.callV (as := [vi _, vi _, vi _]) dL_isText_193 rfl rfl rfl okX7_text lkL_61 J.F rfl rfl rfl rfl (leb (by omega)) (leb (by omega)) rfl (t_text J (by omega) (by first | (rw [zs_l hw (by decide) (by decide)]; decide) | (rw [zs_fs (j := 0) hw fn (by decide) (by decide) (by decide) (by decide)]; decide) | (rw [zs_gt hw fn (by decide) (by decide) (by decide)]; decide) | (rw [zs_f0 hw fn (by decide) (by decide) (by decide) h1 (by omega)]; omega)) (fun g J e => (AW.k1 ?_)))
  have e0 : la_s _ g := fun j => ⟨fun i => (e j).1 i |>.trans ((e0 j).1 i), fun i => (e j).2 i |>.trans ((e0 j).2 i)⟩
  have V := V.as e
  refine AW.top (y := 112) (by rw [zs_l hw (by decide) (by decide)]; rfl) ?_
  refine AW.iload dL_isText_196 rfl ?_
  refine AW.pcs (pc2 := 198) rfl ?_
  refine AW.icmp_neF (tgt := 205) dL_isText_198 rfl (by omega) ?_
  refine AW.iconst dL_isText_201 (by decide) ?_
  refine AW.goto (tgt := 206) dL_isText_202 rfl ?_
  refine AW.istore dL_isText_206 rfl ?_
  refine AW.iconst dL_isText_208 (by decide) ?_
  refine AW.istore dL_isText_209 rfl ?_
  refine AW.iload dL_isText_211 rfl ?_
  refine AW.iconst dL_isText_213 (by decide) ?_
  refine AW.icmp_geF (tgt := 352) dL_isText_214 rfl (by omega) ?_
  refine AW.iload dL_isText_217 rfl ?_
  refine AW.if_eqF (tgt := 352) dL_isText_219 rfl (by omega) ?_
  refine AW.iload dL_isText_222 rfl ?_
  refine AW.iconst dL_isText_224 (by decide) ?_
  refine AW.icmp_neT (tgt := 251) dL_isText_225 rfl (by omega) ?_
  refine AW.locs [(0, vq _), (1, vq _), (2, vq _), (3, vi _), (4, vi _), (5, vi _), (6, vi _), (7, vi _), (8, vi _), (9, vi _)] ⟨rfl, rfl, rfl, rfl, rfl, rfl, rfl, rfl, rfl, rfl, trivial⟩ ?_
  refine AW.aload_n dL_isText_251 rfl ?_
  refine AW.iload_n dL_isText_252 rfl ?_
  refine AW.iload dL_isText_253 rfl ?_
  refine AW.iconst dL_isText_255 (by decide) ?_
  refine AW.icmp_geF (tgt := 263) dL_isText_256 rfl (by omega) ?_
  refine AW.iconst dL_isText_259 (by decide) ?_
  refine AW.goto (tgt := 264) dL_isText_260 rfl ?_
  refine AW.iload dL_isText_264 rfl ?_
  refine AW.iconst dL_isText_266 (by decide) ?_
  refine AW.irem dL_isText_267 (by omega) ?_
  refine AW.pcs (pc2 := 268) rfl ?_
  refine AW.callS (as := [vq _, vi _, vi _, vi _]) dL_isText_268 rfl rfl rfl okL_side lkL_86 rfl rfl rfl (leb (by omega)) (leb (by omega)) rfl (kL_side J.T V.s K h1 ha (by omega) (by decide) (AW.k1 ?_))
  refine AW.top (by first | exact zsd_10 | exact zsd_11 | exact zsd_00 | exact zsd_01) ?_
  refine AW.istore dL_isText_271 rfl ?_
  refine AW.iload dL_isText_273 rfl ?_
  refine AW.if_ltF (tgt := 346) dL_isText_275 rfl (by omega) ?_
  refine AW.iload dL_isText_278 rfl ?_
  refine AW.if_eqF (tgt := 346) dL_isText_280 rfl (by omega) ?_
  refine AW.aload_n dL_isText_283 rfl ?_
  refine AW.iconst dL_isText_284 (by decide) ?_
  refine AW.iload_n dL_isText_285 rfl ?_
  refine AW.iload dL_isText_286 rfl ?_
  refine AW.callV (as := [vi _, vi _, vi _]) dL_isText_288 rfl rfl rfl okX7_text lkL_61 J.F rfl rfl rfl rfl (leb (by omega)) (leb (by omega)) rfl (t_text J (by omega) (by first | (rw [zs_l hw (by decide) (by decide)]; decide) | (rw [zs_fs (j := 0) hw fn (by decide) (by decide) (by decide) (by decide)]; decide) | (rw [zs_gt hw fn (by decide) (by decide) (by decide)]; decide) | (rw [zs_f0 hw fn (by decide) (by decide) (by decide) h1 (by omega)]; omega)) (fun g J e => (AW.k1 ?_)))
  have e0 : la_s _ g := fun j => ⟨fun i => (e j).1 i |>.trans ((e0 j).1 i), fun i => (e j).2 i |>.trans ((e0 j).2 i)⟩
  have V := V.as e
  refine AW.top (y := 32) (by first | exact zs_fs (j := 0) hw fn (by decide) (by decide) (by decide) (by decide)) ?_
  refine AW.bipush dL_isText_291 bp_32 (by decide) ?_
  refine AW.icmp_neF (tgt := 340) dL_isText_293 rfl (by omega) ?_
  refine AW.aload_n dL_isText_296 rfl ?_
  refine AW.iconst dL_isText_297 (by decide) ?_
  refine AW.iload_n dL_isText_298 rfl ?_
  refine AW.iload dL_isText_299 rfl ?_
  refine AW.iconst dL_isText_301 (by decide) ?_
  refine AW.iaddB dL_isText_302 (by omega) ?_
  refine AW.callV (as := [vi _, vi _, vi _]) dL_isText_303 rfl rfl rfl okX7_text lkL_61 J.F rfl rfl rfl rfl (leb (by omega)) (leb (by omega)) rfl (t_text J (by omega) (by first | (rw [zs_l hw (by decide) (by decide)]; decide) | (rw [zs_fs (j := 0) hw fn (by decide) (by decide) (by decide) (by decide)]; decide) | (rw [zs_gt hw fn (by decide) (by decide) (by decide)]; decide) | (rw [zs_f0 hw fn (by decide) (by decide) (by decide) h1 (by omega)]; omega)) (fun g J e => (AW.k1 ?_)))
  have e0 : la_s _ g := fun j => ⟨fun i => (e j).1 i |>.trans ((e0 j).1 i), fun i => (e j).2 i |>.trans ((e0 j).2 i)⟩
  have V := V.as e
  refine AW.bipush dL_isText_306 bp_97 (by decide) ?_
  refine AW.aload_n dL_isText_308 rfl ?_
  refine AW.iload dL_isText_309 rfl ?_
  refine AW.iconst dL_isText_311 (by decide) ?_
  refine AW.pcs (pc2 := 312) rfl ?_
  refine AW.icmp_geF (tgt := 321) dL_isText_312 rfl (by omega) ?_
  refine AW.iload_n dL_isText_315 rfl ?_
  refine AW.iconst dL_isText_316 (by decide) ?_
  refine AW.isubB dL_isText_317 (by omega) ?_
  refine AW.top (y := ((a - 1 : Nat) : Int)) (by omega) ?_
  refine AW.goto (tgt := 322) dL_isText_318 rfl ?_
  refine AW.iload dL_isText_322 rfl ?_
  refine AW.top (Int.toNat_of_nonneg (by omega)).symm ?_
  refine AW.callS (as := [vq _, vi _, vi _]) dL_isText_324 rfl rfl rfl okL_state lkL_79 rfl rfl rfl (leb (by omega)) (leb (by omega)) rfl (kL_stZ J.T V.s K (by omega) (by omega) (AW.k1 ?_))
  refine AW.bipush dL_isText_327 bp_32 (by decide) ?_
  refine AW.irem dL_isText_329 (by omega) ?_
  refine AW.top (zdg_n K (by omega) (by omega)).1 ?_
  refine AW.iaddB dL_isText_330 (by omega) ?_
  refine AW.iconst dL_isText_331 (by decide) ?_
  refine AW.isubB dL_isText_332 (by omega) ?_
  refine AW.icmp_neF (tgt := 340) dL_isText_333 rfl (by first | (rw [zs_f0 hw fn (by decide) (by decide) (by decide) h1 (by omega)]; omega)) ?_
  refine AW.iconst dL_isText_336 (by decide) ?_
  refine AW.goto (tgt := 341) dL_isText_337 rfl ?_
  refine AW.istore dL_isText_341 rfl ?_
  refine AW.iincB dL_isText_343 rfl rfl (by omega) ?_
  refine AW.locs [(0, vq _), (1, vq _), (2, vq _), (3, vi _), (4, vi _), (5, vi _), (6, vi _), (7, vi _), (8, vi _), (9, vi _), (10, vi _)] ⟨rfl, rfl, rfl, rfl, rfl, rfl, rfl, rfl, rfl, rfl, rfl, trivial⟩ ?_
  refine AW.iincB dL_isText_346 rfl rfl (by omega) ?_
  refine AW.goto (tgt := 211) dL_isText_349 rfl ?_
  refine AW.iload dL_isText_211 rfl ?_
  refine AW.iconst dL_isText_213 (by decide) ?_
  refine AW.icmp_geF (tgt := 352) dL_isText_214 rfl (by omega) ?_
  refine AW.iload dL_isText_217 rfl ?_
  refine AW.if_eqF (tgt := 352) dL_isText_219 rfl (by omega) ?_
  refine AW.pcs (pc2 := 222) rfl ?_
  refine AW.iload dL_isText_222 rfl ?_
  refine AW.iconst dL_isText_224 (by decide) ?_
  refine AW.icmp_neT (tgt := 251) dL_isText_225 rfl (by omega) ?_
  refine AW.locs [(0, vq _), (1, vq _), (2, vq _), (3, vi _), (4, vi _), (5, vi _), (6, vi _), (7, vi _), (8, vi _), (9, vi _), (10, vi _)] ⟨rfl, rfl, rfl, rfl, rfl, rfl, rfl, rfl, rfl, rfl, rfl, trivial⟩ ?_
  refine AW.aload_n dL_isText_251 rfl ?_
  refine AW.iload_n dL_isText_252 rfl ?_
  refine AW.iload dL_isText_253 rfl ?_
  refine AW.iconst dL_isText_255 (by decide) ?_
  refine AW.icmp_geF (tgt := 263) dL_isText_256 rfl (by omega) ?_
  refine AW.iconst dL_isText_259 (by decide) ?_
  refine AW.goto (tgt := 264) dL_isText_260 rfl ?_
  refine AW.iload dL_isText_264 rfl ?_
  refine AW.iconst dL_isText_266 (by decide) ?_
  refine AW.irem dL_isText_267 (by omega) ?_
  refine AW.callS (as := [vq _, vi _, vi _, vi _]) dL_isText_268 rfl rfl rfl okL_side lkL_86 rfl rfl rfl (leb (by omega)) (leb (by omega)) rfl (kL_side J.T V.s K h1 ha (by omega) (by decide) (AW.k1 ?_))
  refine AW.top (by first | exact zsd_10 | exact zsd_11 | exact zsd_00 | exact zsd_01) ?_
  refine AW.istore dL_isText_271 rfl ?_
  refine AW.iload dL_isText_273 rfl ?_
  refine AW.if_ltT (tgt := 346) dL_isText_275 rfl (by omega) ?_
  refine AW.locs [(0, vq _), (1, vq _), (2, vq _), (3, vi _), (4, vi _), (5, vi _), (6, vi _), (7, vi _), (8, vi _), (9, vi _), (10, vi _)] ⟨rfl, rfl, rfl, rfl, rfl, rfl, rfl, rfl, rfl, rfl, rfl, trivial⟩ ?_
  refine AW.iincB dL_isText_346 rfl rfl (by omega) ?_
  refine AW.goto (tgt := 211) dL_isText_349 rfl ?_
  refine AW.iload dL_isText_211 rfl ?_
  refine AW.iconst dL_isText_213 (by decide) ?_
  refine AW.icmp_geF (tgt := 352) dL_isText_214 rfl (by omega) ?_
  refine AW.iload dL_isText_217 rfl ?_
  refine AW.if_eqF (tgt := 352) dL_isText_219 rfl (by omega) ?_
  refine AW.pcs (pc2 := 222) rfl ?_
  refine AW.iload dL_isText_222 rfl ?_
  refine AW.iconst dL_isText_224 (by decide) ?_
  refine AW.icmp_neF (tgt := 251) dL_isText_225 rfl (by omega) ?_
  refine AW.aload_n dL_isText_228 rfl ?_
  refine AW.iconst dL_isText_229 (by decide) ?_
  refine AW.iload_n dL_isText_230 rfl ?_
  refine AW.iload dL_isText_231 rfl ?_
  refine AW.callV (as := [vi _, vi _, vi _]) dL_isText_233 rfl rfl rfl okX7_text lkL_61 J.F rfl rfl rfl rfl (leb (by omega)) (leb (by omega)) rfl (t_text J (by omega) (by first | (rw [zs_l hw (by decide) (by decide)]; decide) | (rw [zs_fs (j := 0) hw fn (by decide) (by decide) (by decide) (by decide)]; decide) | (rw [zs_gt hw fn (by decide) (by decide) (by decide)]; decide) | (rw [zs_f0 hw fn (by decide) (by decide) (by decide) h1 (by omega)]; omega)) (fun g J e => (AW.k1 ?_)))
  have e0 : la_s _ g := fun j => ⟨fun i => (e j).1 i |>.trans ((e0 j).1 i), fun i => (e j).2 i |>.trans ((e0 j).2 i)⟩
  have V := V.as e
  refine AW.top (y := 62) (zs_gt hw fn (by decide) (by decide) (by decide)) ?_
  refine AW.bipush dL_isText_236 bp_62 (by decide) ?_
  refine AW.icmp_neF (tgt := 245) dL_isText_238 rfl (by omega) ?_
  refine AW.iconst dL_isText_241 (by decide) ?_
  refine AW.goto (tgt := 246) dL_isText_242 rfl ?_
  refine AW.istore dL_isText_246 rfl ?_
  refine AW.iincB dL_isText_248 rfl rfl (by omega) ?_
  refine AW.locs [(0, vq _), (1, vq _), (2, vq _), (3, vi _), (4, vi _), (5, vi _), (6, vi _), (7, vi _), (8, vi _), (9, vi _), (10, vi _)] ⟨rfl, rfl, rfl, rfl, rfl, rfl, rfl, rfl, rfl, rfl, rfl, trivial⟩ ?_
  refine AW.aload_n dL_isText_251 rfl ?_
  refine AW.iload_n dL_isText_252 rfl ?_
  refine AW.iload dL_isText_253 rfl ?_
  refine AW.iconst dL_isText_255 (by decide) ?_
  refine AW.icmp_geT (tgt := 263) dL_isText_256 rfl (by omega) ?_
  refine AW.iconst dL_isText_263 (by decide) ?_
  refine AW.iload dL_isText_264 rfl ?_
  refine AW.iconst dL_isText_266 (by decide) ?_
  refine AW.irem dL_isText_267 (by omega) ?_
  refine AW.callS (as := [vq _, vi _, vi _, vi _]) dL_isText_268 rfl rfl rfl okL_side lkL_86 rfl rfl rfl (leb (by omega)) (leb (by omega)) rfl (kL_side J.T V.s K h1 ha (by omega) (by decide) (AW.k1 ?_))
  refine AW.top (by first | exact zsd_10 | exact zsd_11 | exact zsd_00 | exact zsd_01) ?_
  refine AW.pcs (pc2 := 271) rfl ?_
  refine AW.istore dL_isText_271 rfl ?_
  refine AW.iload dL_isText_273 rfl ?_
  refine AW.if_ltT (tgt := 346) dL_isText_275 rfl (by omega) ?_
  refine AW.locs [(0, vq _), (1, vq _), (2, vq _), (3, vi _), (4, vi _), (5, vi _), (6, vi _), (7, vi _), (8, vi _), (9, vi _), (10, vi _)] ⟨rfl, rfl, rfl, rfl, rfl, rfl, rfl, rfl, rfl, rfl, rfl, trivial⟩ ?_
  refine AW.iincB dL_isText_346 rfl rfl (by omega) ?_
  refine AW.goto (tgt := 211) dL_isText_349 rfl ?_
  refine AW.iload dL_isText_211 rfl ?_
  refine AW.iconst dL_isText_213 (by decide) ?_
  refine AW.icmp_geF (tgt := 352) dL_isText_214 rfl (by omega) ?_
  refine AW.iload dL_isText_217 rfl ?_
  refine AW.if_eqF (tgt := 352) dL_isText_219 rfl (by omega) ?_
  refine AW.iload dL_isText_222 rfl ?_
  refine AW.iconst dL_isText_224 (by decide) ?_
  refine AW.icmp_neT (tgt := 251) dL_isText_225 rfl (by omega) ?_
  refine AW.locs [(0, vq _), (1, vq _), (2, vq _), (3, vi _), (4, vi _), (5, vi _), (6, vi _), (7, vi _), (8, vi _), (9, vi _), (10, vi _)] ⟨rfl, rfl, rfl, rfl, rfl, rfl, rfl, rfl, rfl, rfl, rfl, trivial⟩ ?_
  refine AW.aload_n dL_isText_251 rfl ?_
  refine AW.iload_n dL_isText_252 rfl ?_
  refine AW.iload dL_isText_253 rfl ?_
  refine AW.iconst dL_isText_255 (by decide) ?_
  refine AW.icmp_geT (tgt := 263) dL_isText_256 rfl (by omega) ?_
  refine AW.iconst dL_isText_263 (by decide) ?_
  refine AW.iload dL_isText_264 rfl ?_
  refine AW.iconst dL_isText_266 (by decide) ?_
  refine AW.irem dL_isText_267 (by omega) ?_
  refine AW.callS (as := [vq _, vi _, vi _, vi _]) dL_isText_268 rfl rfl rfl okL_side lkL_86 rfl rfl rfl (leb (by omega)) (leb (by omega)) rfl (kL_side J.T V.s K h1 ha (by omega) (by decide) (AW.k1 ?_))
  refine AW.top (by first | exact zsd_10 | exact zsd_11 | exact zsd_00 | exact zsd_01) ?_
  refine AW.istore dL_isText_271 rfl ?_
  refine AW.pcs (pc2 := 273) rfl ?_
  refine AW.iload dL_isText_273 rfl ?_
  refine AW.if_ltT (tgt := 346) dL_isText_275 rfl (by omega) ?_
  refine AW.locs [(0, vq _), (1, vq _), (2, vq _), (3, vi _), (4, vi _), (5, vi _), (6, vi _), (7, vi _), (8, vi _), (9, vi _), (10, vi _)] ⟨rfl, rfl, rfl, rfl, rfl, rfl, rfl, rfl, rfl, rfl, rfl, trivial⟩ ?_
  refine AW.iincB dL_isText_346 rfl rfl (by omega) ?_
  refine AW.goto (tgt := 211) dL_isText_349 rfl ?_
  refine AW.iload dL_isText_211 rfl ?_
  refine AW.iconst dL_isText_213 (by decide) ?_
  refine AW.icmp_geT (tgt := 352) dL_isText_214 rfl (by omega) ?_
  refine AW.iload dL_isText_352 rfl ?_
  refine AW.if_eqF (tgt := 390) dL_isText_354 rfl (by omega) ?_
  refine AW.aload_n dL_isText_357 rfl ?_
  refine AW.iconst dL_isText_358 (by decide) ?_
  refine AW.iconst dL_isText_359 (by decide) ?_
  refine AW.iload_n dL_isText_360 rfl ?_
  refine AW.iload dL_isText_361 rfl ?_
  refine AW.callSH (as := [vq _, vi _, vi _, vi _, vi _]) dL_isText_363 rfl rfl rfl okL_asks lkL_119 rfl rfl rfl (by omega) (by omega) rfl (q_textX J (fun z => z.2 (zs_e hw fn bn (by decide) (by decide) (by decide) (by decide))) (fun g J e => (AW.k1 ?_)))
  have e0 : la_s _ g := fun j => ⟨fun i => (e j).1 i |>.trans ((e0 j).1 i), fun i => (e j).2 i |>.trans ((e0 j).2 i)⟩
  refine AW.sipush dL_isText_366 sp_m300 (by decide) ?_
  refine AW.icmp_neF (tgt := 390) dL_isText_369 rfl (by omega) ?_
  refine AW.aload_n dL_isText_372 rfl ?_
  refine AW.iconst dL_isText_373 (by decide) ?_
  refine AW.iconst dL_isText_374 (by decide) ?_
  refine AW.iload_n dL_isText_375 rfl ?_
  refine AW.iconst dL_isText_376 (by decide) ?_
  refine AW.callSH (as := [vq _, vi _, vi _, vi _, vi _]) dL_isText_377 rfl rfl rfl okL_asks lkL_119 rfl rfl rfl (by omega) (by omega) rfl (q_textX J (fun z => z.2 (zs_n (by decide))) (fun g J e => (AW.k1 ?_)))
  have e0 : la_s _ g := fun j => ⟨fun i => (e j).1 i |>.trans ((e0 j).1 i), fun i => (e j).2 i |>.trans ((e0 j).2 i)⟩
  refine AW.sipush dL_isText_380 sp_m300 (by decide) ?_
  refine AW.pcs (pc2 := 383) rfl ?_
  refine AW.icmp_neF (tgt := 390) dL_isText_383 rfl (by omega) ?_
  refine AW.iconst dL_isText_386 (by decide) ?_
  refine AW.goto (tgt := 391) dL_isText_387 rfl ?_
  refine AW.zret dL_isText_391 rfl ?_ ?_
  · omega
  exact k g _ J e0
set_option maxHeartbeats 4000000 in
theorem kL_isText6 (J : IV L h Z c b) (V : JV h Z) (h1 : 1 ≤ a) (ha : (a : Int) ≤ Z 1 0) (hw : Z 7 a = 6) (k : ∀ g b', IV L g Z c b' → la_s h g → Q g (.inl (some (vi 1)))) : AC mL_isText fL_isText loL_isText 60 480 h [vr mF, vr (la 1), vr (la 2), vi (a : Int)] Q := by
  have K := J.K
  have b1 := K.b1
  have b2 := K.b2
  obtain ⟨⟨q1, q2, q3, q4⟩, s, d1, d2, d3, d4⟩ := K.p h1 ha
  unfold StK at s
  have fn : zfn Z (24 * 0 + (a : Int)) = 1 := by unfold zfn; rw [zfr0_n, zfr1_n]; (repeat' split) <;> omega
  have bn : zbn Z (24 * 0 + (a : Int)) = 1 := by unfold zbn; rw [zbe0_n, zbe1_n]; (repeat' split) <;> omega
  have sg : (0 ≤ Z 8 (2 * a) ∨ Z 8 (2 * a) = -1) ∧ (0 ≤ Z 8 (2 * a + 1) ∨ Z 8 (2 * a + 1) = -1) := by omega
  have s := fun _ : Unit => s
  have g0 : 0 ≤ Z 8 (2 * a) ∧ 0 ≤ Z 9 (2 * a) ∧ Z 8 (2 * a + 1) = -1 ∧ Z 9 (2 * a + 1) = -1 := by have := s (); omega
  have n0 := (K.nm (v := a - 1) (f := (Z 8 (2 * a)).toNat) (by omega) (by omega)).1
  have n1 := (K.nm (v := a - 1) (f := (Z 8 (2 * a + 1)).toNat) (by omega) (by omega)).1
  have m0 := (K.nm (v := a) (f := (Z 9 (2 * a)).toNat) (by omega) (by omega)).1
  have m1 := (K.nm (v := a) (f := (Z 9 (2 * a + 1)).toNat) (by omega) (by omega)).1
  have p0 : 0 ≤ Z 8 (2 * a) → ¬ Z 5 (48 * (a - 1) + (Z 8 (2 * a)).toNat) = -1 := fun z => d1 (by omega)
  have p1 : 0 ≤ Z 8 (2 * a + 1) → ¬ Z 5 (48 * (a - 1) + (Z 8 (2 * a + 1)).toNat) = -1 := fun z => d2 (by omega)
  have r0 : 0 ≤ Z 9 (2 * a) → ¬ Z 5 (48 * a + (Z 9 (2 * a)).toNat) = -1 := fun z => d3 (by omega)
  have r1 : 0 ≤ Z 9 (2 * a + 1) → ¬ Z 5 (48 * a + (Z 9 (2 * a + 1)).toNat) = -1 := fun z => d4 (by omega)
  clear d1 d2 d3 d4
  have e0 : la_s h h := fun j => ⟨fun _ => rfl, fun _ => rfl⟩
  refine AC.mk (by decide) (Nat.le_of_ble_eq_true rfl) ?_
  refine AW.aload_n dL_isText_0 rfl ?_
  refine AW.iload_n dL_isText_1 rfl ?_
  refine AW.aldIE dL_isText_2 J.T.a2 (by omega) (by omega) (by exact V.s.w (a := a) h1 ha) ?_
  refine AW.bipush dL_isText_3 bp_8 (by decide) ?_
  refine AW.irem dL_isText_5 (by omega) ?_
  refine AW.top (y := 6) (by rw [zwd_7 K h1 ha]; exact hw) ?_
  refine AW.istore dL_isText_6 rfl ?_
  refine AW.iload dL_isText_8 rfl ?_
  refine AW.if_neT (tgt := 18) dL_isText_10 rfl (by omega) ?_
  refine AW.iload dL_isText_18 rfl ?_
  refine AW.iconst dL_isText_20 (by decide) ?_
  refine AW.icmp_neT (tgt := 29) dL_isText_21 rfl (by omega) ?_
  refine AW.iload dL_isText_29 rfl ?_
  refine AW.iconst dL_isText_31 (by decide) ?_
  refine AW.icmp_neT (tgt := 40) dL_isText_32 rfl (by omega) ?_
  refine AW.iload dL_isText_40 rfl ?_
  refine AW.iconst dL_isText_42 (by decide) ?_
  refine AW.icmp_neT (tgt := 51) dL_isText_43 rfl (by omega) ?_
  refine AW.iload dL_isText_51 rfl ?_
  refine AW.iconst dL_isText_53 (by decide) ?_
  refine AW.icmp_neT (tgt := 62) dL_isText_54 rfl (by omega) ?_
  refine AW.iload dL_isText_62 rfl ?_
  refine AW.iconst dL_isText_64 (by decide) ?_
  refine AW.icmp_neT (tgt := 73) dL_isText_65 rfl (by omega) ?_
  refine AW.pcs (pc2 := 73) rfl ?_
  refine AW.bipush dL_isText_73 bp_110 (by decide) ?_
  refine AW.istore dL_isText_75 rfl ?_
  refine AW.iload dL_isText_77 rfl ?_
  refine AW.if_neT (tgt := 86) dL_isText_79 rfl (by omega) ?_
  refine AW.iload dL_isText_86 rfl ?_
  refine AW.iconst dL_isText_88 (by decide) ?_
  refine AW.icmp_neT (tgt := 97) dL_isText_89 rfl (by omega) ?_
  refine AW.iload dL_isText_97 rfl ?_
  refine AW.iconst dL_isText_99 (by decide) ?_
  refine AW.icmp_neT (tgt := 107) dL_isText_100 rfl (by omega) ?_
  refine AW.iconst dL_isText_107 (by decide) ?_
  refine AW.istore dL_isText_108 rfl ?_
  refine AW.iload dL_isText_110 rfl ?_
  refine AW.if_neT (tgt := 120) dL_isText_112 rfl (by omega) ?_
  refine AW.iload dL_isText_120 rfl ?_
  refine AW.iconst dL_isText_122 (by decide) ?_
  refine AW.icmp_neT (tgt := 131) dL_isText_123 rfl (by omega) ?_
  refine AW.iload dL_isText_131 rfl ?_
  refine AW.iconst dL_isText_133 (by decide) ?_
  refine AW.icmp_eqF (tgt := 143) dL_isText_134 rfl (by omega) ?_
  refine AW.iload dL_isText_137 rfl ?_
  refine AW.iconst dL_isText_139 (by decide) ?_
  refine AW.icmp_neT (tgt := 148) dL_isText_140 rfl (by omega) ?_
  refine AW.iload dL_isText_148 rfl ?_
  refine AW.pcs (pc2 := 150) rfl ?_
  refine AW.iconst dL_isText_150 (by decide) ?_
  refine AW.icmp_neT (tgt := 159) dL_isText_151 rfl (by omega) ?_
  refine AW.iload dL_isText_159 rfl ?_
  refine AW.iconst dL_isText_161 (by decide) ?_
  refine AW.icmp_neT (tgt := 170) dL_isText_162 rfl (by omega) ?_
  refine AW.bipush dL_isText_170 bp_100 (by decide) ?_
  refine AW.istore dL_isText_172 rfl ?_
  refine AW.locs [(0, vq _), (1, vq _), (2, vq _), (3, vi _), (4, vi _), (5, vi _), (6, vi _), (7, vi _)] ⟨rfl, rfl, rfl, rfl, rfl, rfl, rfl, rfl, trivial⟩ ?_
  refine AW.aload_n dL_isText_174 rfl ?_
  refine AW.iconst dL_isText_175 (by decide) ?_
  refine AW.iload_n dL_isText_176 rfl ?_
  refine AW.iconst dL_isText_177 (by decide) ?_
  refine AW.callV (as := [vi _, vi _, vi _]) dL_isText_178 rfl rfl rfl okX7_text lkL_61 J.F rfl rfl rfl rfl (leb (by omega)) (leb (by omega)) rfl (t_text J (by omega) (by first | (rw [zs_l hw (by decide) (by decide)]; decide) | (rw [zs_fs (j := 0) hw fn (by decide) (by decide) (by decide) (by decide)]; decide) | (rw [zs_bs (j := 0) hw fn bn (by decide) (by decide) (by decide) (by decide) (by decide)]; decide) | (rw [zs_gt hw fn (by decide) (by decide) (by decide)]; decide) | (rw [zs_f0 hw fn (by decide) (by decide) (by decide) h1 (by omega)]; omega) | (rw [zs_b0 hw fn bn (by decide) (by decide) (by decide) (by decide) (by omega)]; omega)) (fun g J e => (AW.k1 ?_)))
  have e0 : la_s _ g := fun j => ⟨fun i => (e j).1 i |>.trans ((e0 j).1 i), fun i => (e j).2 i |>.trans ((e0 j).2 i)⟩
  have V := V.as e
  refine AW.top (y := 110) (by rw [zs_l hw (by decide) (by decide)]; rfl) ?_
  refine AW.iload dL_isText_181 rfl ?_
  refine AW.icmp_neF (tgt := 205) dL_isText_183 rfl (by omega) ?_
  refine AW.aload_n dL_isText_186 rfl ?_
  refine AW.iconst dL_isText_187 (by decide) ?_
  refine AW.iload_n dL_isText_188 rfl ?_
  refine AW.iload dL_isText_189 rfl ?_
  refine AW.iconst dL_isText_191 (by decide) ?_
  refine AW.isubB dL_isText_192 (by omega) ?_
  refine AW.callV (as := [vi _, vi _, vi _]) dL_isText_193 rfl rfl rfl okX7_text lkL_61 J.F rfl rfl rfl rfl (leb (by omega)) (leb (by omega)) rfl (t_text J (by omega) (by first | (rw [zs_l hw (by decide) (by decide)]; decide) | (rw [zs_fs (j := 0) hw fn (by decide) (by decide) (by decide) (by decide)]; decide) | (rw [zs_bs (j := 0) hw fn bn (by decide) (by decide) (by decide) (by decide) (by decide)]; decide) | (rw [zs_gt hw fn (by decide) (by decide) (by decide)]; decide) | (rw [zs_f0 hw fn (by decide) (by decide) (by decide) h1 (by omega)]; omega) | (rw [zs_b0 hw fn bn (by decide) (by decide) (by decide) (by decide) (by omega)]; omega)) (fun g J e => (AW.k1 ?_)))
  have e0 : la_s _ g := fun j => ⟨fun i => (e j).1 i |>.trans ((e0 j).1 i), fun i => (e j).2 i |>.trans ((e0 j).2 i)⟩
  have V := V.as e
  refine AW.top (y := 100) (by rw [zs_l hw (by decide) (by decide)]; rfl) ?_
  refine AW.iload dL_isText_196 rfl ?_
  refine AW.icmp_neF (tgt := 205) dL_isText_198 rfl (by omega) ?_
  refine AW.iconst dL_isText_201 (by decide) ?_
  refine AW.pcs (pc2 := 202) rfl ?_
  refine AW.goto (tgt := 206) dL_isText_202 rfl ?_
  refine AW.istore dL_isText_206 rfl ?_
  refine AW.iconst dL_isText_208 (by decide) ?_
  refine AW.istore dL_isText_209 rfl ?_
  refine AW.iload dL_isText_211 rfl ?_
  refine AW.iconst dL_isText_213 (by decide) ?_
  refine AW.icmp_geF (tgt := 352) dL_isText_214 rfl (by omega) ?_
  refine AW.iload dL_isText_217 rfl ?_
  refine AW.if_eqF (tgt := 352) dL_isText_219 rfl (by omega) ?_
  refine AW.iload dL_isText_222 rfl ?_
  refine AW.iconst dL_isText_224 (by decide) ?_
  refine AW.icmp_neT (tgt := 251) dL_isText_225 rfl (by omega) ?_
  refine AW.locs [(0, vq _), (1, vq _), (2, vq _), (3, vi _), (4, vi _), (5, vi _), (6, vi _), (7, vi _), (8, vi _), (9, vi _)] ⟨rfl, rfl, rfl, rfl, rfl, rfl, rfl, rfl, rfl, rfl, trivial⟩ ?_
  refine AW.aload_n dL_isText_251 rfl ?_
  refine AW.iload_n dL_isText_252 rfl ?_
  refine AW.iload dL_isText_253 rfl ?_
  refine AW.iconst dL_isText_255 (by decide) ?_
  refine AW.icmp_geF (tgt := 263) dL_isText_256 rfl (by omega) ?_
  refine AW.iconst dL_isText_259 (by decide) ?_
  refine AW.goto (tgt := 264) dL_isText_260 rfl ?_
  refine AW.iload dL_isText_264 rfl ?_
  refine AW.iconst dL_isText_266 (by decide) ?_
  refine AW.irem dL_isText_267 (by omega) ?_
  refine AW.callS (as := [vq _, vi _, vi _, vi _]) dL_isText_268 rfl rfl rfl okL_side lkL_86 rfl rfl rfl (leb (by omega)) (leb (by omega)) rfl (kL_side J.T V.s K h1 ha (by omega) (by decide) (AW.k1 ?_))
  refine AW.top (by first | exact zsd_10 | exact zsd_11 | exact zsd_00 | exact zsd_01) ?_
  refine AW.istore dL_isText_271 rfl ?_
  refine AW.pcs (pc2 := 273) rfl ?_
  refine AW.iload dL_isText_273 rfl ?_
  refine AW.if_ltF (tgt := 346) dL_isText_275 rfl (by omega) ?_
  refine AW.iload dL_isText_278 rfl ?_
  refine AW.if_eqF (tgt := 346) dL_isText_280 rfl (by omega) ?_
  refine AW.aload_n dL_isText_283 rfl ?_
  refine AW.iconst dL_isText_284 (by decide) ?_
  refine AW.iload_n dL_isText_285 rfl ?_
  refine AW.iload dL_isText_286 rfl ?_
  refine AW.callV (as := [vi _, vi _, vi _]) dL_isText_288 rfl rfl rfl okX7_text lkL_61 J.F rfl rfl rfl rfl (leb (by omega)) (leb (by omega)) rfl (t_text J (by omega) (by first | (rw [zs_l hw (by decide) (by decide)]; decide) | (rw [zs_fs (j := 0) hw fn (by decide) (by decide) (by decide) (by decide)]; decide) | (rw [zs_bs (j := 0) hw fn bn (by decide) (by decide) (by decide) (by decide) (by decide)]; decide) | (rw [zs_gt hw fn (by decide) (by decide) (by decide)]; decide) | (rw [zs_f0 hw fn (by decide) (by decide) (by decide) h1 (by omega)]; omega) | (rw [zs_b0 hw fn bn (by decide) (by decide) (by decide) (by decide) (by omega)]; omega)) (fun g J e => (AW.k1 ?_)))
  have e0 : la_s _ g := fun j => ⟨fun i => (e j).1 i |>.trans ((e0 j).1 i), fun i => (e j).2 i |>.trans ((e0 j).2 i)⟩
  have V := V.as e
  refine AW.top (y := 32) (by first | exact zs_fs (j := 0) hw fn (by decide) (by decide) (by decide) (by decide) | exact zs_bs (j := 0) hw fn bn (by decide) (by decide) (by decide) (by decide) (by decide)) ?_
  refine AW.bipush dL_isText_291 bp_32 (by decide) ?_
  refine AW.icmp_neF (tgt := 340) dL_isText_293 rfl (by omega) ?_
  refine AW.aload_n dL_isText_296 rfl ?_
  refine AW.iconst dL_isText_297 (by decide) ?_
  refine AW.iload_n dL_isText_298 rfl ?_
  refine AW.iload dL_isText_299 rfl ?_
  refine AW.iconst dL_isText_301 (by decide) ?_
  refine AW.iaddB dL_isText_302 (by omega) ?_
  refine AW.callV (as := [vi _, vi _, vi _]) dL_isText_303 rfl rfl rfl okX7_text lkL_61 J.F rfl rfl rfl rfl (leb (by omega)) (leb (by omega)) rfl (t_text J (by omega) (by first | (rw [zs_l hw (by decide) (by decide)]; decide) | (rw [zs_fs (j := 0) hw fn (by decide) (by decide) (by decide) (by decide)]; decide) | (rw [zs_bs (j := 0) hw fn bn (by decide) (by decide) (by decide) (by decide) (by decide)]; decide) | (rw [zs_gt hw fn (by decide) (by decide) (by decide)]; decide) | (rw [zs_f0 hw fn (by decide) (by decide) (by decide) h1 (by omega)]; omega) | (rw [zs_b0 hw fn bn (by decide) (by decide) (by decide) (by decide) (by omega)]; omega)) (fun g J e => (AW.k1 ?_)))
  have e0 : la_s _ g := fun j => ⟨fun i => (e j).1 i |>.trans ((e0 j).1 i), fun i => (e j).2 i |>.trans ((e0 j).2 i)⟩
  have V := V.as e
  refine AW.bipush dL_isText_306 bp_97 (by decide) ?_
  refine AW.aload_n dL_isText_308 rfl ?_
  refine AW.iload dL_isText_309 rfl ?_
  refine AW.iconst dL_isText_311 (by decide) ?_
  refine AW.icmp_geF (tgt := 321) dL_isText_312 rfl (by omega) ?_
  refine AW.iload_n dL_isText_315 rfl ?_
  refine AW.pcs (pc2 := 316) rfl ?_
  refine AW.iconst dL_isText_316 (by decide) ?_
  refine AW.isubB dL_isText_317 (by omega) ?_
  refine AW.top (y := ((a - 1 : Nat) : Int)) (by omega) ?_
  refine AW.goto (tgt := 322) dL_isText_318 rfl ?_
  refine AW.iload dL_isText_322 rfl ?_
  refine AW.top (Int.toNat_of_nonneg (by omega)).symm ?_
  refine AW.callS (as := [vq _, vi _, vi _]) dL_isText_324 rfl rfl rfl okL_state lkL_79 rfl rfl rfl (leb (by omega)) (leb (by omega)) rfl (kL_stZ J.T V.s K (by omega) (by omega) (AW.k1 ?_))
  refine AW.bipush dL_isText_327 bp_32 (by decide) ?_
  refine AW.irem dL_isText_329 (by omega) ?_
  refine AW.top (zdg_n K (by omega) (by omega)).1 ?_
  refine AW.iaddB dL_isText_330 (by omega) ?_
  refine AW.iconst dL_isText_331 (by decide) ?_
  refine AW.isubB dL_isText_332 (by omega) ?_
  refine AW.icmp_neF (tgt := 340) dL_isText_333 rfl (by first | (rw [zs_f0 hw fn (by decide) (by decide) (by decide) h1 (by omega)]; omega) | (rw [zs_b0 hw fn bn (by decide) (by decide) (by decide) (by decide) (by omega)]; omega)) ?_
  refine AW.iconst dL_isText_336 (by decide) ?_
  refine AW.goto (tgt := 341) dL_isText_337 rfl ?_
  refine AW.istore dL_isText_341 rfl ?_
  refine AW.iincB dL_isText_343 rfl rfl (by omega) ?_
  refine AW.locs [(0, vq _), (1, vq _), (2, vq _), (3, vi _), (4, vi _), (5, vi _), (6, vi _), (7, vi _), (8, vi _), (9, vi _), (10, vi _)] ⟨rfl, rfl, rfl, rfl, rfl, rfl, rfl, rfl, rfl, rfl, rfl, trivial⟩ ?_
  refine AW.iincB dL_isText_346 rfl rfl (by omega) ?_
  refine AW.goto (tgt := 211) dL_isText_349 rfl ?_
  refine AW.iload dL_isText_211 rfl ?_
  refine AW.iconst dL_isText_213 (by decide) ?_
  refine AW.icmp_geF (tgt := 352) dL_isText_214 rfl (by omega) ?_
  refine AW.iload dL_isText_217 rfl ?_
  refine AW.if_eqF (tgt := 352) dL_isText_219 rfl (by omega) ?_
  refine AW.iload dL_isText_222 rfl ?_
  refine AW.iconst dL_isText_224 (by decide) ?_
  refine AW.pcs (pc2 := 225) rfl ?_
  refine AW.icmp_neT (tgt := 251) dL_isText_225 rfl (by omega) ?_
  refine AW.locs [(0, vq _), (1, vq _), (2, vq _), (3, vi _), (4, vi _), (5, vi _), (6, vi _), (7, vi _), (8, vi _), (9, vi _), (10, vi _)] ⟨rfl, rfl, rfl, rfl, rfl, rfl, rfl, rfl, rfl, rfl, rfl, trivial⟩ ?_
  refine AW.aload_n dL_isText_251 rfl ?_
  refine AW.iload_n dL_isText_252 rfl ?_
  refine AW.iload dL_isText_253 rfl ?_
  refine AW.iconst dL_isText_255 (by decide) ?_
  refine AW.icmp_geF (tgt := 263) dL_isText_256 rfl (by omega) ?_
  refine AW.iconst dL_isText_259 (by decide) ?_
  refine AW.goto (tgt := 264) dL_isText_260 rfl ?_
  refine AW.iload dL_isText_264 rfl ?_
  refine AW.iconst dL_isText_266 (by decide) ?_
  refine AW.irem dL_isText_267 (by omega) ?_
  refine AW.callS (as := [vq _, vi _, vi _, vi _]) dL_isText_268 rfl rfl rfl okL_side lkL_86 rfl rfl rfl (leb (by omega)) (leb (by omega)) rfl (kL_side J.T V.s K h1 ha (by omega) (by decide) (AW.k1 ?_))
  refine AW.top (by first | exact zsd_10 | exact zsd_11 | exact zsd_00 | exact zsd_01) ?_
  refine AW.istore dL_isText_271 rfl ?_
  refine AW.iload dL_isText_273 rfl ?_
  refine AW.if_ltT (tgt := 346) dL_isText_275 rfl (by omega) ?_
  refine AW.locs [(0, vq _), (1, vq _), (2, vq _), (3, vi _), (4, vi _), (5, vi _), (6, vi _), (7, vi _), (8, vi _), (9, vi _), (10, vi _)] ⟨rfl, rfl, rfl, rfl, rfl, rfl, rfl, rfl, rfl, rfl, rfl, trivial⟩ ?_
  refine AW.iincB dL_isText_346 rfl rfl (by omega) ?_
  refine AW.goto (tgt := 211) dL_isText_349 rfl ?_
  refine AW.iload dL_isText_211 rfl ?_
  refine AW.iconst dL_isText_213 (by decide) ?_
  refine AW.icmp_geF (tgt := 352) dL_isText_214 rfl (by omega) ?_
  refine AW.iload dL_isText_217 rfl ?_
  refine AW.if_eqF (tgt := 352) dL_isText_219 rfl (by omega) ?_
  refine AW.iload dL_isText_222 rfl ?_
  refine AW.iconst dL_isText_224 (by decide) ?_
  refine AW.pcs (pc2 := 225) rfl ?_
  refine AW.icmp_neF (tgt := 251) dL_isText_225 rfl (by omega) ?_
  refine AW.aload_n dL_isText_228 rfl ?_
  refine AW.iconst dL_isText_229 (by decide) ?_
  refine AW.iload_n dL_isText_230 rfl ?_
  refine AW.iload dL_isText_231 rfl ?_
  refine AW.callV (as := [vi _, vi _, vi _]) dL_isText_233 rfl rfl rfl okX7_text lkL_61 J.F rfl rfl rfl rfl (leb (by omega)) (leb (by omega)) rfl (t_text J (by omega) (by first | (rw [zs_l hw (by decide) (by decide)]; decide) | (rw [zs_fs (j := 0) hw fn (by decide) (by decide) (by decide) (by decide)]; decide) | (rw [zs_bs (j := 0) hw fn bn (by decide) (by decide) (by decide) (by decide) (by decide)]; decide) | (rw [zs_gt hw fn (by decide) (by decide) (by decide)]; decide) | (rw [zs_f0 hw fn (by decide) (by decide) (by decide) h1 (by omega)]; omega) | (rw [zs_b0 hw fn bn (by decide) (by decide) (by decide) (by decide) (by omega)]; omega)) (fun g J e => (AW.k1 ?_)))
  have e0 : la_s _ g := fun j => ⟨fun i => (e j).1 i |>.trans ((e0 j).1 i), fun i => (e j).2 i |>.trans ((e0 j).2 i)⟩
  have V := V.as e
  refine AW.top (y := 62) (zs_gt hw fn (by decide) (by decide) (by decide)) ?_
  refine AW.bipush dL_isText_236 bp_62 (by decide) ?_
  refine AW.icmp_neF (tgt := 245) dL_isText_238 rfl (by omega) ?_
  refine AW.iconst dL_isText_241 (by decide) ?_
  refine AW.goto (tgt := 246) dL_isText_242 rfl ?_
  refine AW.istore dL_isText_246 rfl ?_
  refine AW.iincB dL_isText_248 rfl rfl (by omega) ?_
  refine AW.locs [(0, vq _), (1, vq _), (2, vq _), (3, vi _), (4, vi _), (5, vi _), (6, vi _), (7, vi _), (8, vi _), (9, vi _), (10, vi _)] ⟨rfl, rfl, rfl, rfl, rfl, rfl, rfl, rfl, rfl, rfl, rfl, trivial⟩ ?_
  refine AW.aload_n dL_isText_251 rfl ?_
  refine AW.iload_n dL_isText_252 rfl ?_
  refine AW.iload dL_isText_253 rfl ?_
  refine AW.iconst dL_isText_255 (by decide) ?_
  refine AW.icmp_geT (tgt := 263) dL_isText_256 rfl (by omega) ?_
  refine AW.iconst dL_isText_263 (by decide) ?_
  refine AW.iload dL_isText_264 rfl ?_
  refine AW.iconst dL_isText_266 (by decide) ?_
  refine AW.irem dL_isText_267 (by omega) ?_
  refine AW.callS (as := [vq _, vi _, vi _, vi _]) dL_isText_268 rfl rfl rfl okL_side lkL_86 rfl rfl rfl (leb (by omega)) (leb (by omega)) rfl (kL_side J.T V.s K h1 ha (by omega) (by decide) (AW.k1 ?_))
  refine AW.top (by first | exact zsd_10 | exact zsd_11 | exact zsd_00 | exact zsd_01) ?_
  refine AW.istore dL_isText_271 rfl ?_
  refine AW.iload dL_isText_273 rfl ?_
  refine AW.pcs (pc2 := 275) rfl ?_
  refine AW.if_ltF (tgt := 346) dL_isText_275 rfl (by omega) ?_
  refine AW.iload dL_isText_278 rfl ?_
  refine AW.if_eqF (tgt := 346) dL_isText_280 rfl (by omega) ?_
  refine AW.aload_n dL_isText_283 rfl ?_
  refine AW.iconst dL_isText_284 (by decide) ?_
  refine AW.iload_n dL_isText_285 rfl ?_
  refine AW.iload dL_isText_286 rfl ?_
  refine AW.callV (as := [vi _, vi _, vi _]) dL_isText_288 rfl rfl rfl okX7_text lkL_61 J.F rfl rfl rfl rfl (leb (by omega)) (leb (by omega)) rfl (t_text J (by omega) (by first | (rw [zs_l hw (by decide) (by decide)]; decide) | (rw [zs_fs (j := 0) hw fn (by decide) (by decide) (by decide) (by decide)]; decide) | (rw [zs_bs (j := 0) hw fn bn (by decide) (by decide) (by decide) (by decide) (by decide)]; decide) | (rw [zs_gt hw fn (by decide) (by decide) (by decide)]; decide) | (rw [zs_f0 hw fn (by decide) (by decide) (by decide) h1 (by omega)]; omega) | (rw [zs_b0 hw fn bn (by decide) (by decide) (by decide) (by decide) (by omega)]; omega)) (fun g J e => (AW.k1 ?_)))
  have e0 : la_s _ g := fun j => ⟨fun i => (e j).1 i |>.trans ((e0 j).1 i), fun i => (e j).2 i |>.trans ((e0 j).2 i)⟩
  have V := V.as e
  refine AW.top (y := 32) (by first | exact zs_fs (j := 0) hw fn (by decide) (by decide) (by decide) (by decide) | exact zs_bs (j := 0) hw fn bn (by decide) (by decide) (by decide) (by decide) (by decide)) ?_
  refine AW.bipush dL_isText_291 bp_32 (by decide) ?_
  refine AW.icmp_neF (tgt := 340) dL_isText_293 rfl (by omega) ?_
  refine AW.aload_n dL_isText_296 rfl ?_
  refine AW.iconst dL_isText_297 (by decide) ?_
  refine AW.iload_n dL_isText_298 rfl ?_
  refine AW.iload dL_isText_299 rfl ?_
  refine AW.iconst dL_isText_301 (by decide) ?_
  refine AW.iaddB dL_isText_302 (by omega) ?_
  refine AW.callV (as := [vi _, vi _, vi _]) dL_isText_303 rfl rfl rfl okX7_text lkL_61 J.F rfl rfl rfl rfl (leb (by omega)) (leb (by omega)) rfl (t_text J (by omega) (by first | (rw [zs_l hw (by decide) (by decide)]; decide) | (rw [zs_fs (j := 0) hw fn (by decide) (by decide) (by decide) (by decide)]; decide) | (rw [zs_bs (j := 0) hw fn bn (by decide) (by decide) (by decide) (by decide) (by decide)]; decide) | (rw [zs_gt hw fn (by decide) (by decide) (by decide)]; decide) | (rw [zs_f0 hw fn (by decide) (by decide) (by decide) h1 (by omega)]; omega) | (rw [zs_b0 hw fn bn (by decide) (by decide) (by decide) (by decide) (by omega)]; omega)) (fun g J e => (AW.k1 ?_)))
  have e0 : la_s _ g := fun j => ⟨fun i => (e j).1 i |>.trans ((e0 j).1 i), fun i => (e j).2 i |>.trans ((e0 j).2 i)⟩
  have V := V.as e
  refine AW.bipush dL_isText_306 bp_97 (by decide) ?_
  refine AW.aload_n dL_isText_308 rfl ?_
  refine AW.iload dL_isText_309 rfl ?_
  refine AW.iconst dL_isText_311 (by decide) ?_
  refine AW.icmp_geT (tgt := 321) dL_isText_312 rfl (by omega) ?_
  refine AW.iload_n dL_isText_321 rfl ?_
  refine AW.iload dL_isText_322 rfl ?_
  refine AW.top (Int.toNat_of_nonneg (by omega)).symm ?_
  refine AW.pcs (pc2 := 324) rfl ?_
  refine AW.callS (as := [vq _, vi _, vi _]) dL_isText_324 rfl rfl rfl okL_state lkL_79 rfl rfl rfl (leb (by omega)) (leb (by omega)) rfl (kL_stZ J.T V.s K (by omega) (by omega) (AW.k1 ?_))
  refine AW.bipush dL_isText_327 bp_32 (by decide) ?_
  refine AW.irem dL_isText_329 (by omega) ?_
  refine AW.top (zdg_n K (by omega) (by omega)).1 ?_
  refine AW.iaddB dL_isText_330 (by omega) ?_
  refine AW.iconst dL_isText_331 (by decide) ?_
  refine AW.isubB dL_isText_332 (by omega) ?_
  refine AW.icmp_neF (tgt := 340) dL_isText_333 rfl (by first | (rw [zs_f0 hw fn (by decide) (by decide) (by decide) h1 (by omega)]; omega) | (rw [zs_b0 hw fn bn (by decide) (by decide) (by decide) (by decide) (by omega)]; omega)) ?_
  refine AW.iconst dL_isText_336 (by decide) ?_
  refine AW.goto (tgt := 341) dL_isText_337 rfl ?_
  refine AW.istore dL_isText_341 rfl ?_
  refine AW.iincB dL_isText_343 rfl rfl (by omega) ?_
  refine AW.locs [(0, vq _), (1, vq _), (2, vq _), (3, vi _), (4, vi _), (5, vi _), (6, vi _), (7, vi _), (8, vi _), (9, vi _), (10, vi _)] ⟨rfl, rfl, rfl, rfl, rfl, rfl, rfl, rfl, rfl, rfl, rfl, trivial⟩ ?_
  refine AW.iincB dL_isText_346 rfl rfl (by omega) ?_
  refine AW.goto (tgt := 211) dL_isText_349 rfl ?_
  refine AW.iload dL_isText_211 rfl ?_
  refine AW.iconst dL_isText_213 (by decide) ?_
  refine AW.icmp_geF (tgt := 352) dL_isText_214 rfl (by omega) ?_
  refine AW.iload dL_isText_217 rfl ?_
  refine AW.if_eqF (tgt := 352) dL_isText_219 rfl (by omega) ?_
  refine AW.iload dL_isText_222 rfl ?_
  refine AW.iconst dL_isText_224 (by decide) ?_
  refine AW.icmp_neT (tgt := 251) dL_isText_225 rfl (by omega) ?_
  refine AW.locs [(0, vq _), (1, vq _), (2, vq _), (3, vi _), (4, vi _), (5, vi _), (6, vi _), (7, vi _), (8, vi _), (9, vi _), (10, vi _)] ⟨rfl, rfl, rfl, rfl, rfl, rfl, rfl, rfl, rfl, rfl, rfl, trivial⟩ ?_
  refine AW.aload_n dL_isText_251 rfl ?_
  refine AW.iload_n dL_isText_252 rfl ?_
  refine AW.iload dL_isText_253 rfl ?_
  refine AW.pcs (pc2 := 255) rfl ?_
  refine AW.iconst dL_isText_255 (by decide) ?_
  refine AW.icmp_geT (tgt := 263) dL_isText_256 rfl (by omega) ?_
  refine AW.iconst dL_isText_263 (by decide) ?_
  refine AW.iload dL_isText_264 rfl ?_
  refine AW.iconst dL_isText_266 (by decide) ?_
  refine AW.irem dL_isText_267 (by omega) ?_
  refine AW.callS (as := [vq _, vi _, vi _, vi _]) dL_isText_268 rfl rfl rfl okL_side lkL_86 rfl rfl rfl (leb (by omega)) (leb (by omega)) rfl (kL_side J.T V.s K h1 ha (by omega) (by decide) (AW.k1 ?_))
  refine AW.top (by first | exact zsd_10 | exact zsd_11 | exact zsd_00 | exact zsd_01) ?_
  refine AW.istore dL_isText_271 rfl ?_
  refine AW.iload dL_isText_273 rfl ?_
  refine AW.if_ltT (tgt := 346) dL_isText_275 rfl (by omega) ?_
  refine AW.locs [(0, vq _), (1, vq _), (2, vq _), (3, vi _), (4, vi _), (5, vi _), (6, vi _), (7, vi _), (8, vi _), (9, vi _), (10, vi _)] ⟨rfl, rfl, rfl, rfl, rfl, rfl, rfl, rfl, rfl, rfl, rfl, trivial⟩ ?_
  refine AW.iincB dL_isText_346 rfl rfl (by omega) ?_
  refine AW.goto (tgt := 211) dL_isText_349 rfl ?_
  refine AW.iload dL_isText_211 rfl ?_
  refine AW.iconst dL_isText_213 (by decide) ?_
  refine AW.icmp_geT (tgt := 352) dL_isText_214 rfl (by omega) ?_
  refine AW.iload dL_isText_352 rfl ?_
  refine AW.if_eqF (tgt := 390) dL_isText_354 rfl (by omega) ?_
  refine AW.aload_n dL_isText_357 rfl ?_
  refine AW.iconst dL_isText_358 (by decide) ?_
  refine AW.iconst dL_isText_359 (by decide) ?_
  refine AW.iload_n dL_isText_360 rfl ?_
  refine AW.iload dL_isText_361 rfl ?_
  refine AW.callSH (as := [vq _, vi _, vi _, vi _, vi _]) dL_isText_363 rfl rfl rfl okL_asks lkL_119 rfl rfl rfl (by omega) (by omega) rfl (q_textX J (fun z => z.2 (zs_e hw fn bn (by decide) (by decide) (by decide) (by decide))) (fun g J e => (AW.k1 ?_)))
  have e0 : la_s _ g := fun j => ⟨fun i => (e j).1 i |>.trans ((e0 j).1 i), fun i => (e j).2 i |>.trans ((e0 j).2 i)⟩
  refine AW.sipush dL_isText_366 sp_m300 (by decide) ?_
  refine AW.pcs (pc2 := 369) rfl ?_
  refine AW.icmp_neF (tgt := 390) dL_isText_369 rfl (by omega) ?_
  refine AW.aload_n dL_isText_372 rfl ?_
  refine AW.iconst dL_isText_373 (by decide) ?_
  refine AW.iconst dL_isText_374 (by decide) ?_
  refine AW.iload_n dL_isText_375 rfl ?_
  refine AW.iconst dL_isText_376 (by decide) ?_
  refine AW.callSH (as := [vq _, vi _, vi _, vi _, vi _]) dL_isText_377 rfl rfl rfl okL_asks lkL_119 rfl rfl rfl (by omega) (by omega) rfl (q_textX J (fun z => z.2 (zs_n (by decide))) (fun g J e => (AW.k1 ?_)))
  have e0 : la_s _ g := fun j => ⟨fun i => (e j).1 i |>.trans ((e0 j).1 i), fun i => (e j).2 i |>.trans ((e0 j).2 i)⟩
  refine AW.sipush dL_isText_380 sp_m300 (by decide) ?_
  refine AW.icmp_neF (tgt := 390) dL_isText_383 rfl (by omega) ?_
  refine AW.iconst dL_isText_386 (by decide) ?_
  refine AW.goto (tgt := 391) dL_isText_387 rfl ?_
  refine AW.zret dL_isText_391 rfl ?_ ?_
  · omega
  exact k g _ J e0
theorem kL_isText (J : IV L h Z c b) (V : JV h Z) (h1 : 1 ≤ a) (ha : (a : Int) ≤ Z 1 0) (k : ∀ g b', IV L g Z c b' → la_s h g → Q g (.inl (some (vi 1)))) : AC mL_isText fL_isText loL_isText 60 480 h [vr mF, vr (la 1), vr (la 2), vi (a : Int)] Q := by
  have w7 := (zw_b J.K h1 ha).1
  have hw7 : Z 7 a = 0 ∨ Z 7 a = 1 ∨ Z 7 a = 2 ∨ Z 7 a = 3 ∨ Z 7 a = 4 ∨ Z 7 a = 5 ∨ Z 7 a = 6 := by omega
  rcases hw7 with hw | hw | hw | hw | hw | hw | hw
  · exact kL_isText0 J V h1 ha hw k
  · exact kL_isText1 J V h1 ha hw k
  · exact kL_isText2 J V h1 ha hw k
  · exact kL_isText3 J V h1 ha hw k
  · exact kL_isText4 J V h1 ha hw k
  · exact kL_isText5 J V h1 ha hw k
  · exact kL_isText6 J V h1 ha hw k
end C2
