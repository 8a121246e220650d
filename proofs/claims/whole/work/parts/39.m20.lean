/-! ===== the model: step, undo ===== -/
section M20
variable {Q : AH → AO → Prop} {h : AH} {Z : ZT} {mc ms bc bs : Nat}
def zRec0 (Z : ZT) (r m q : Int) : ZT :=
  zs (zs (zs (zs (zs (zs Z 33 (Z 32 0).toNat (Z 31 m.toNat)) 34 (Z 32 0).toNat r) 36 (Z 32 0).toNat (Z 26 r.toNat)) 37 (Z 32 0).toNat (Z 21 r.toNat)) 38 (Z 32 0).toNat (Z 23 r.toNat)) 39 (Z 32 0).toNat (Z 24 q.toNat)
def zRecJ (Z : ZT) (r p q n j : Int) : ZT := zs (zs (zs Z 40 (2 * n + j).toNat (Z 25 (2 * q + j).toNat)) 41 (2 * n + j).toNat (zL Z r 1 p j)) 42 (2 * n + j).toNat (zL Z r 0 p j)
theorem X8_step_j {Y : ZT} {r p q n a u c2 m j : Int} (W : WfM h) (B : BB Y) (en : Y 32 0 = n) (hn : 0 ≤ n ∧ n < 4096) (hr : 0 ≤ r ∧ r < 20) (hp : 0 ≤ p ∧ p < 96) (hq : 0 ≤ q ∧ q < 480) (hj : 0 ≤ j ∧ j ≤ 1)
    (k : AW mX8_step fX8_step loX8_step mc ms Q bc bs 205 (mput h (zRecJ Y r p q n j)) [(8, vi (j + 1)), (7, vi q), (6, vi p), (5, vi a), (4, vi u), (3, vi r), (2, vi c2), (0, vr mO), (1, vi m)] []) : AW mX8_step fX8_step loX8_step mc ms Q bc bs 205 (mput h Y) [(8, vi j), (7, vi q), (6, vi p), (5, vi a), (4, vi u), (3, vi r), (2, vi c2), (0, vr mO), (1, vi m)] [] := by
  have z1 := zon_rng B (p := p) (u := 1) (j := j)
  have z0 := zon_rng B (p := p) (u := 0) (j := j)
  refine AW.iload dX8_step_205 rfl ?_
  refine AW.iconst dX8_step_207 (by decide) ?_
  refine AW.icmp_ge (tgt := 343) dX8_step_208 rfl (fun c_208 => ?_) (fun c_208 => ?_)
  · exact absurd c_208 (by omega)
  · refine AW.aload_n dX8_step_211 rfl ?_
    refine AW.mA 40 W dX8_step_212 lkX8_113 rfl rfl ?_
    refine AW.iconst dX8_step_215 (by decide) ?_
    refine AW.aload_n dX8_step_216 rfl ?_
    refine AW.mSE 32 W dX8_step_217 lkX8_321 rfl rfl (by first | exact en | (apply zs_ne rfl; exact en)) ?_
    refine AW.imulB dX8_step_220 (by omega) ?_
    refine AW.iload dX8_step_221 rfl ?_
    refine AW.iaddB dX8_step_223 (by omega) ?_
    refine AW.aload_n dX8_step_224 rfl ?_
    refine AW.mA 25 W dX8_step_225 lkX8_77 rfl rfl ?_
    refine AW.iconst dX8_step_228 (by decide) ?_
    refine AW.iload dX8_step_229 rfl ?_
    refine AW.imulB dX8_step_231 (by omega) ?_
    refine AW.iload dX8_step_232 rfl ?_
    refine AW.iaddB dX8_step_234 (by omega) ?_
    refine AW.mldE (j := 25) W dX8_step_235 rfl rfl (by simp only [mlen]; omega) rfl ?_
    refine AW.mst (j := 40) W dX8_step_236 rfl rfl (by simp only [mlen]; omega) ?_
    refine AW.aload_n dX8_step_237 rfl ?_
    refine AW.mA 41 W dX8_step_238 lkX8_116 rfl rfl ?_
    refine AW.iconst dX8_step_241 (by decide) ?_
    refine AW.aload_n dX8_step_242 rfl ?_
    refine AW.mSE 32 W dX8_step_243 lkX8_321 rfl rfl (by first | exact en | (apply zs_ne rfl; exact en)) ?_
    refine AW.imulB dX8_step_246 (by omega) ?_
    refine AW.pcs (pc2 := 247) rfl ?_
    refine AW.iload dX8_step_247 rfl ?_
    refine AW.iaddB dX8_step_249 (by omega) ?_
    refine AW.aload_n dX8_step_250 rfl ?_
    refine AW.iload dX8_step_251 rfl ?_
    refine AW.iconst dX8_step_253 (by decide) ?_
    refine AW.iload dX8_step_254 rfl ?_
    refine AW.callV (as := [vi _, vi _, vi _]) dX8_step_256 rfl rfl rfl okX8_onSide lkX8_272 W.1 rfl rfl rfl rfl rfl rfl rfl (kX8_onSide W (by omega) (by omega) (AW.k1 ?_))
    refine AW.top (y := zon Y p 1 j) rfl ?_
    refine AW.iconst dX8_step_259 (by decide) ?_
    refine' AW.icmp_neJ 286 (tgt := 267) dX8_step_260 rfl _ _ _
    rotate_left 2
    · intro c_260 k_260
      refine AW.aload_n dX8_step_267 rfl ?_
      refine AW.mA 22 W dX8_step_268 lkX8_68 rfl rfl ?_
      refine AW.bipush dX8_step_271 bp_48 (by decide) ?_
      refine AW.iload_n dX8_step_273 rfl ?_
      refine AW.imulB dX8_step_274 (by omega) ?_
      refine AW.aload_n dX8_step_275 rfl ?_
      refine AW.iload dX8_step_276 rfl ?_
      refine AW.iconst dX8_step_278 (by decide) ?_
      refine AW.iload dX8_step_279 rfl ?_
      refine AW.callV (as := [vi _, vi _, vi _]) dX8_step_281 rfl rfl rfl okX8_onSide lkX8_272 W.1 rfl rfl rfl rfl rfl rfl rfl (kX8_onSide W (by omega) (by omega) (AW.k1 ?_))
      refine AW.top (y := zon Y p 1 j) rfl ?_
      refine AW.iaddB dX8_step_284 (by omega) ?_
      refine AW.mldE (j := 22) W dX8_step_285 rfl rfl (by simp only [mlen]; omega) (by (repeat first | apply zs_ne rfl | apply zs_eq (by omega) | apply zs_miss (by omega)); exact rfl) ?_
      exact k_260
    · intro c_260 k_260
      refine AW.iconst dX8_step_263 (by decide) ?_
      refine AW.goto (tgt := 286) dX8_step_264 rfl ?_
      exact k_260
    refine AW.top (y := zL Y r 1 p j) (by unfold zL; (repeat' split) <;> first | rfl | omega) ?_
    refine AW.mst (j := 41) W dX8_step_286 rfl rfl (by simp only [mlen]; omega) ?_
    refine AW.aload_n dX8_step_287 rfl ?_
    refine AW.mA 42 W dX8_step_288 lkX8_119 rfl rfl ?_
    refine AW.iconst dX8_step_291 (by decide) ?_
    refine AW.aload_n dX8_step_292 rfl ?_
    refine AW.mSE 32 W dX8_step_293 lkX8_321 rfl rfl (by apply zs_ne rfl; apply zs_ne rfl; exact en) ?_
    refine AW.imulB dX8_step_296 (by omega) ?_
    refine AW.iload dX8_step_297 rfl ?_
    refine AW.iaddB dX8_step_299 (by omega) ?_
    refine AW.aload_n dX8_step_300 rfl ?_
    refine AW.iload dX8_step_301 rfl ?_
    refine AW.iconst dX8_step_303 (by decide) ?_
    refine AW.iload dX8_step_304 rfl ?_
    refine AW.callV (as := [vi _, vi _, vi _]) dX8_step_306 rfl rfl rfl okX8_onSide lkX8_272 W.1 rfl rfl rfl rfl rfl rfl rfl (kX8_onSide W (by omega) (by omega) (AW.k1 ?_))
    refine AW.top (y := zon Y p 0 j) rfl ?_
    refine AW.iconst dX8_step_309 (by decide) ?_
    refine' AW.icmp_neJ 336 (tgt := 317) dX8_step_310 rfl _ _ _
    rotate_left 2
    · intro c_310 k_310
      refine AW.aload_n dX8_step_317 rfl ?_
      refine AW.mA 22 W dX8_step_318 lkX8_68 rfl rfl ?_
      refine AW.bipush dX8_step_321 bp_48 (by decide) ?_
      refine AW.iload_n dX8_step_323 rfl ?_
      refine AW.imulB dX8_step_324 (by omega) ?_
      refine AW.aload_n dX8_step_325 rfl ?_
      refine AW.iload dX8_step_326 rfl ?_
      refine AW.iconst dX8_step_328 (by decide) ?_
      refine AW.iload dX8_step_329 rfl ?_
      refine AW.callV (as := [vi _, vi _, vi _]) dX8_step_331 rfl rfl rfl okX8_onSide lkX8_272 W.1 rfl rfl rfl rfl rfl rfl rfl (kX8_onSide W (by omega) (by omega) (AW.k1 ?_))
      refine AW.top (y := zon Y p 0 j) rfl ?_
      refine AW.iaddB dX8_step_334 (by omega) ?_
      refine AW.mldE (j := 22) W dX8_step_335 rfl rfl (by simp only [mlen]; omega) (by (repeat first | apply zs_ne rfl | apply zs_eq (by omega) | apply zs_miss (by omega)); exact rfl) ?_
      exact k_310
    · intro c_310 k_310
      refine AW.iconst dX8_step_313 (by decide) ?_
      refine AW.goto (tgt := 336) dX8_step_314 rfl ?_
      exact k_310
    refine AW.top (y := zL Y r 0 p j) (by unfold zL; (repeat' split) <;> first | rfl | omega) ?_
    refine AW.mst (j := 42) W dX8_step_336 rfl rfl (by simp only [mlen]; omega) ?_
    refine AW.iincB dX8_step_337 rfl rfl (by omega) ?_
    refine AW.goto (tgt := 205) dX8_step_340 rfl ?_
    exact AW.locs [(8, vi (j + 1)), (7, vi q), (6, vi p), (5, vi a), (4, vi u), (3, vi r), (2, vi c2), (0, vr mO), (1, vi m)] ⟨rfl, rfl, rfl, rfl, rfl, rfl, rfl, rfl, rfl, trivial⟩ k
theorem X8_step_t {Y : ZT} {r p q n a u s c2 m : Int} (W : WfM h) (B : BB Y) (es : Y 20 r.toNat = s) (st : stp Y (24 * s + a)) (hr : 0 ≤ r ∧ r < 20) (hs : 0 ≤ s ∧ s < 4) (ha : 1 ≤ a ∧ a ≤ 23) (en : Y 32 0 = n) (hn : 0 ≤ n ∧ n < 4096) (hm : 0 ≤ m ∧ m < 8)
    (k : ∀ t l w, Q (mput h (z3 (zs (zs (zs (zcnt (zmv Y r s a u) r) 35 n.toNat (zcnt (zmv Y r s a u) r 26 r.toNat)) 31 m.toNat n) 32 0 (n + 1)) t l w)) (.inl (some (vi r)))) : AW mX8_step fX8_step loX8_step mc ms Q bc bs 205 (mput h Y) [(8, vi (0 + 1 + 1)), (7, vi q), (6, vi p), (5, vi a), (4, vi u), (3, vi r), (2, vi c2), (0, vr mO), (1, vi m)] [] := by
  have e32 : zcnt (zmv Y r s a u) r 32 0 = n := by unfold zcnt; rw [zs_ne rfl (zs_ne rfl rfl), zmv_o rfl]; exact en
  refine AW.iload dX8_step_205 rfl ?_
  refine AW.iconst dX8_step_207 (by decide) ?_
  refine AW.icmp_ge (tgt := 343) dX8_step_208 rfl (fun c_208 => ?_) (fun c_208 => ?_)
  · refine AW.mZ z3_self.symm ?_
    refine AW.aload_n dX8_step_343 rfl ?_
    refine AW.iload_n dX8_step_344 rfl ?_
    refine AW.iload dX8_step_345 rfl ?_
    refine AW.iload dX8_step_347 rfl ?_
    refine AW.callV (as := [vi _, vi _, vi _]) dX8_step_349 rfl rfl rfl okX8_moves lkX8_280 W.1 rfl rfl rfl rfl rfl rfl rfl (kX8_moves W B es st (by omega) hs ha (fun t l w => (AW.k0 ?_)))
    refine AW.aload_n dX8_step_352 rfl ?_
    refine AW.iload_n dX8_step_353 rfl ?_
    refine AW.callV (as := [vi _]) dX8_step_354 rfl rfl rfl okX8_counts lkX8_302 W.1 rfl rfl rfl rfl rfl rfl rfl (kX8_counts W (by omega) (AW.k0 ?_))
    refine AW.mZ (Z' := z3 (zcnt (zmv Y r s a u) r) t l w) zcnt_z3 ?_
    refine AW.aload_n dX8_step_357 rfl ?_
    refine AW.mA 35 W dX8_step_358 lkX8_98 rfl rfl ?_
    refine AW.aload_n dX8_step_361 rfl ?_
    refine AW.mSE 32 W dX8_step_362 lkX8_321 rfl rfl (by first | exact z3_ne rfl e32 | (apply zs_ne rfl; exact z3_ne rfl e32) | (apply zs_ne rfl; apply zs_ne rfl; exact z3_ne rfl e32)) ?_
    refine AW.aload_n dX8_step_365 rfl ?_
    refine AW.mA 26 W dX8_step_366 lkX8_80 rfl rfl ?_
    refine AW.iload_n dX8_step_369 rfl ?_
    refine AW.mldE (j := 26) W dX8_step_370 rfl rfl (by simp only [mlen]; omega) (by exact z3_ne rfl rfl) ?_
    refine AW.mst (j := 35) W dX8_step_371 rfl rfl (by simp only [mlen]; omega) ?_
    refine AW.aload_n dX8_step_372 rfl ?_
    refine AW.mA 31 W dX8_step_373 lkX8_89 rfl rfl ?_
    refine AW.iload_n dX8_step_376 rfl ?_
    refine AW.aload_n dX8_step_377 rfl ?_
    refine AW.mSE 32 W dX8_step_378 lkX8_321 rfl rfl (by first | exact z3_ne rfl e32 | (apply zs_ne rfl; exact z3_ne rfl e32) | (apply zs_ne rfl; apply zs_ne rfl; exact z3_ne rfl e32)) ?_
    refine AW.mst (j := 31) W dX8_step_381 rfl rfl (by simp only [mlen]; omega) ?_
    refine AW.pcs (pc2 := 382) rfl ?_
    refine AW.aload_n dX8_step_382 rfl ?_
    refine AW.dup dX8_step_383 rfl ?_
    refine AW.mSE 32 W dX8_step_384 lkX8_321 rfl rfl (by first | exact z3_ne rfl e32 | (apply zs_ne rfl; exact z3_ne rfl e32) | (apply zs_ne rfl; apply zs_ne rfl; exact z3_ne rfl e32)) ?_
    refine AW.iconst dX8_step_387 (by decide) ?_
    refine AW.iaddB dX8_step_388 (by omega) ?_
    refine AW.mSp 32 W dX8_step_389 lkX8_321 rfl rfl rfl ?_
    refine AW.iload_n dX8_step_392 rfl ?_
    refine AW.iret dX8_step_393 rfl ?_
    refine finZ (k t l w) ?_ rfl
    rw [zs_z3' rfl, zs_z3' rfl, zs_z3' rfl]
  · exact absurd c_208 (by omega)
def zstA' (Z : ZT) (r m : Int) : Int := if Z 21 r.toNat < Z 30 m.toNat then Z 21 r.toNat + 1 else Z 21 r.toNat
def zStp2 (Z : ZT) (r p q m : Int) : ZT := zRecJ (zRecJ (zRec0 (zs Z 48 0 0) r m q) r p q (Z 32 0) 0) r p q (Z 32 0) 1
def zStp3 (Z : ZT) (r m : Int) : ZT := zcnt (zmv (zStp2 Z r (24 * Z 20 r.toNat + zstA' Z r m) (24 * r + zstA' Z r m) m) r (Z 20 r.toNat) (zstA' Z r m) (bz (Z 21 r.toNat < Z 30 m.toNat))) r
def zStp (Z : ZT) (r m : Int) : ZT := zs (zs (zs (zStp3 Z r m) 35 (Z 32 0).toNat (zStp3 Z r m 26 r.toNat)) 31 m.toNat (Z 32 0)) 32 0 (Z 32 0 + 1)
def zcStp (Z : ZT) (m : Int) : Int := cd2 (¬ (0 ≤ m ∧ m ≤ Z 28 0 - 1)) (znx Z m = -1)
theorem zStp2_o {r p q m : Int} {j : Nat} (hj : (j != 33 && j != 34 && j != 36 && j != 37 && j != 38 && j != 39 && j != 40 && j != 41 && j != 42 && j != 48) = true) : zStp2 Z r p q m j = Z j := by
  simp only [Bool.and_eq_true, bne_iff_ne, ne_eq] at hj
  obtain ⟨⟨⟨⟨⟨⟨⟨⟨⟨a1, a2⟩, a3⟩, a4⟩, a5⟩, a6⟩, a7⟩, a8⟩, a9⟩, a10⟩ := hj
  unfold zStp2 zRecJ zRec0
  rw [zs_oj (beq_ne a9), zs_oj (beq_ne a8), zs_oj (beq_ne a7), zs_oj (beq_ne a9), zs_oj (beq_ne a8), zs_oj (beq_ne a7), zs_oj (beq_ne a6), zs_oj (beq_ne a5), zs_oj (beq_ne a4), zs_oj (beq_ne a3), zs_oj (beq_ne a2), zs_oj (beq_ne a1), zs_oj (beq_ne a10)]
set_option maxHeartbeats 2000000 in
theorem kX8_step {m : Int} (W : WfM h) (B : BI Z) (R : BR Z) (T : BT Z) (M : BM Z) (hn : 0 ≤ Z 32 0 ∧ Z 32 0 < 4096) (kE : 0 < zcStp Z m → Q (mput h (zs Z 48 0 (zcStp Z m))) (.inl (some (vi 0))))
    (kO : zcStp Z m = 0 → ∀ t l w, Q (mput h (z3 (zStp Z (znx Z m) m) t l w)) (.inl (some (vi (znx Z m))))) : AC mX8_step fX8_step loX8_step 0 0 (mput h Z) [vr mO, vi m] Q := by
  have M0 := M.1
  have R0 := R.1
  have hX := znxA_rng (Z := Z) (m := m) (Z 19 0).toNat
  refine AC.mk (by decide) (Nat.le_of_ble_eq_true rfl) ?_
  refine AW.aload_n dX8_step_0 rfl ?_
  refine AW.iload_n dX8_step_1 rfl ?_
  refine AW.callV (as := [vi _]) dX8_step_2 rfl rfl rfl okX8_isMover lkX8_315 W.1 rfl rfl rfl rfl rfl rfl rfl (kX8_isMover W (by assumption) (AW.k1 ?_))
  refine AW.istore_n dX8_step_5 rfl ?_
  refine AW.iload_n dX8_step_6 rfl ?_
  refine' AW.if_eqJ 19 (tgt := 18) dX8_step_7 rfl _ _ _
  rotate_left 2
  · intro c_7 k_7
    refine AW.iconst dX8_step_18 (by decide) ?_
    exact k_7
  · intro c_7 k_7
    have c := bz_n0.mp c_7
    refine AW.aload_n dX8_step_10 rfl ?_
    refine AW.iload_n dX8_step_11 rfl ?_
    refine AW.callV (as := [vi _]) dX8_step_12 rfl rfl rfl okX8_nextRow lkX8_318 W.1 rfl rfl rfl rfl rfl rfl rfl (kX8_nextRow W (by assumption) (by assumption) (by assumption) (by omega) (AW.k1 ?_))
    refine AW.goto (tgt := 19) dX8_step_15 rfl ?_
    exact k_7
  refine AW.top (y := if (0 ≤ m ∧ m ≤ Z 28 0 - 1) then znx Z m else -1) (by simp only [bz_0]; (repeat' split) <;> simp_all) ?_
  refine AW.istore_n dX8_step_19 rfl ?_
  refine AW.aload_n dX8_step_20 rfl ?_
  refine AW.iload_n dX8_step_21 rfl ?_
  refine' AW.if_neJ 39 (tgt := 29) dX8_step_22 rfl _ _ _
  rotate_left 2
  · intro c_22 k_22
    refine AW.iload_n dX8_step_29 rfl ?_
    refine AW.iconst dX8_step_30 (by decide) ?_
    refine' AW.icmp_neJ 39 (tgt := 38) dX8_step_31 rfl _ _ _
    rotate_left 2
    · intro c_31 k_31
      refine AW.iconst dX8_step_38 (by decide) ?_
      exact k_31
    · intro c_31 k_31
      refine AW.iconst dX8_step_34 (by decide) ?_
      refine AW.goto (tgt := 39) dX8_step_35 rfl ?_
      exact k_31
    exact k_22
  · intro c_22 k_22
    refine AW.iconst dX8_step_25 (by decide) ?_
    refine AW.goto (tgt := 39) dX8_step_26 rfl ?_
    exact k_22
  refine AW.top (y := zcStp Z m) (by clear hX; unfold zcStp cd2; simp only [bz_0]; (repeat' split) <;> simp_all) ?_
  refine AW.callV (as := [vi _]) dX8_step_39 rfl rfl rfl okX8_fails lkX8_162 W.1 rfl rfl rfl rfl rfl rfl rfl (kX8_fails W (AW.k1 ?_))
  refine AW.if_eq (tgt := 47) dX8_step_42 rfl (fun c_42 => ?_) (fun c_42 => ?_)
  · have c := bz_0.mp c_42
    have e : zcStp Z m = 0 := by unfold zcStp cd2 at *; (repeat' split at c) <;> omega
    obtain ⟨c1, c2⟩ := cd2_0.mp c
    rw [Classical.not_not] at c1
    have hX2 : 0 ≤ znx Z m ∧ znx Z m < ((Z 19 0).toNat : Int) ∧ Z 20 (znx Z m).toNat = Z 29 m.toNat ∧ 0 < zoff Z (znx Z m) m := hX.resolve_left c2
    have rb := R.2 (znx Z m).toNat (by omega)
    have mb := M.2 m.toNat (by omega)
    have sb := B.1.2 (Z 20 (znx Z m).toNat).toNat (by omega)
    have hA : 1 ≤ zstA' Z (znx Z m) m ∧ zstA' Z (znx Z m) m ≤ Z 1 (Z 20 (znx Z m).toNat).toNat := by have w := hX2.2.2.2; have w2 := hX2.2.2.1; rw [← w2] at mb; unfold zoff at w; unfold zstA'; (repeat' split at w) <;> split <;> omega
    have o : ∀ p q j, (j != 33 && j != 34 && j != 36 && j != 37 && j != 38 && j != 39 && j != 40 && j != 41 && j != 42 && j != 48) = true → zStp2 Z (znx Z m) p q m j = Z j := fun p q j hj => zStp2_o hj
    rw [e]
    refine AW.locs [(3, vi (znx Z m)), (2, vi (bz (0 ≤ m ∧ m ≤ Z 28 0 - 1))), (0, vr mO), (1, vi m)] ⟨by rw [if_pos c1]; rfl, rfl, rfl, rfl, trivial⟩ ?_
    refine AW.aload_n dX8_step_47 rfl ?_
    refine AW.mA 21 W dX8_step_48 lkX8_65 rfl rfl ?_
    refine AW.iload_n dX8_step_51 rfl ?_
    refine AW.mldE (j := 21) W dX8_step_52 rfl rfl (by simp only [mlen]; omega) (by (repeat first | apply zs_ne rfl | apply zs_eq (by omega) | apply zs_miss (by omega)); exact rfl) ?_
    refine AW.aload_n dX8_step_53 rfl ?_
    refine AW.mA 30 W dX8_step_54 lkX8_86 rfl rfl ?_
    refine AW.iload_n dX8_step_57 rfl ?_
    refine AW.mldE (j := 30) W dX8_step_58 rfl rfl (by simp only [mlen]; omega) (by (repeat first | apply zs_ne rfl | apply zs_eq (by omega) | apply zs_miss (by omega)); exact rfl) ?_
    refine' AW.icmp_geJ 67 (tgt := 66) dX8_step_59 rfl _ _ _
    rotate_left 2
    · intro c_59 k_59
      refine AW.iconst dX8_step_66 (by decide) ?_
      exact k_59
    · intro c_59 k_59
      refine AW.iconst dX8_step_62 (by decide) ?_
      refine AW.goto (tgt := 67) dX8_step_63 rfl ?_
      exact k_59
    refine AW.top (y := bz (Z 21 (znx Z m).toNat < Z 30 m.toNat)) (by unfold bz; (repeat' split) <;> first | rfl | omega) ?_
    refine AW.istore dX8_step_67 rfl ?_
    refine AW.iload dX8_step_69 rfl ?_
    refine' AW.if_eqJ 91 (tgt := 85) dX8_step_71 rfl _ _ _
    rotate_left 2
    · intro c_71 k_71
      refine AW.aload_n dX8_step_85 rfl ?_
      refine AW.mA 21 W dX8_step_86 lkX8_65 rfl rfl ?_
      refine AW.iload_n dX8_step_89 rfl ?_
      refine AW.mldE (j := 21) W dX8_step_90 rfl rfl (by simp only [mlen]; omega) (by (repeat first | apply zs_ne rfl | apply zs_eq (by omega) | apply zs_miss (by omega)); exact rfl) ?_
      exact k_71
    · intro c_71 k_71
      refine AW.aload_n dX8_step_74 rfl ?_
      refine AW.mA 21 W dX8_step_75 lkX8_65 rfl rfl ?_
      refine AW.iload_n dX8_step_78 rfl ?_
      refine AW.mldE (j := 21) W dX8_step_79 rfl rfl (by simp only [mlen]; omega) (by (repeat first | apply zs_ne rfl | apply zs_eq (by omega) | apply zs_miss (by omega)); exact rfl) ?_
      refine AW.iconst dX8_step_80 (by decide) ?_
      refine AW.iaddB dX8_step_81 (by omega) ?_
      refine AW.goto (tgt := 91) dX8_step_82 rfl ?_
      exact k_71
    refine AW.top (y := zstA' Z (znx Z m) m) (by unfold zstA' bz; (repeat' split) <;> first | rfl | omega) ?_
    refine AW.istore dX8_step_91 rfl ?_
    refine AW.bipush dX8_step_93 bp_24 (by decide) ?_
    refine AW.aload_n dX8_step_95 rfl ?_
    refine AW.mA 20 W dX8_step_96 lkX8_62 rfl rfl ?_
    refine AW.iload_n dX8_step_99 rfl ?_
    refine AW.mldE (j := 20) W dX8_step_100 rfl rfl (by simp only [mlen]; omega) (by (repeat first | apply zs_ne rfl | apply zs_eq (by omega) | apply zs_miss (by omega)); exact rfl) ?_
    refine AW.imulB dX8_step_101 (by omega) ?_
    refine AW.iload dX8_step_102 rfl ?_
    refine AW.iaddB dX8_step_104 (by omega) ?_
    refine AW.istore dX8_step_105 rfl ?_
    refine AW.bipush dX8_step_107 bp_24 (by decide) ?_
    refine AW.iload_n dX8_step_109 rfl ?_
    refine AW.imulB dX8_step_110 (by omega) ?_
    refine AW.iload dX8_step_111 rfl ?_
    refine AW.iaddB dX8_step_113 (by omega) ?_
    refine AW.istore dX8_step_114 rfl ?_
    refine AW.aload_n dX8_step_116 rfl ?_
    refine AW.mA 33 W dX8_step_117 lkX8_92 rfl rfl ?_
    refine AW.aload_n dX8_step_120 rfl ?_
    refine AW.mSE 32 W dX8_step_121 lkX8_321 rfl rfl (by (repeat first | apply zs_ne rfl | apply zs_eq (by omega) | apply zs_miss (by omega)); exact rfl) ?_
    refine AW.aload_n dX8_step_124 rfl ?_
    refine AW.mA 31 W dX8_step_125 lkX8_89 rfl rfl ?_
    refine AW.iload_n dX8_step_128 rfl ?_
    refine AW.pcs (pc2 := 129) rfl ?_
    refine AW.mldE (j := 31) W dX8_step_129 rfl rfl (by simp only [mlen]; omega) (by (repeat first | apply zs_ne rfl | apply zs_eq (by omega) | apply zs_miss (by omega)); exact rfl) ?_
    refine AW.mst (j := 33) W dX8_step_130 rfl rfl (by simp only [mlen]; omega) ?_
    refine AW.aload_n dX8_step_131 rfl ?_
    refine AW.mA 34 W dX8_step_132 lkX8_95 rfl rfl ?_
    refine AW.aload_n dX8_step_135 rfl ?_
    refine AW.mSE 32 W dX8_step_136 lkX8_321 rfl rfl (by (repeat first | apply zs_ne rfl | apply zs_eq (by omega) | apply zs_miss (by omega)); exact rfl) ?_
    refine AW.iload_n dX8_step_139 rfl ?_
    refine AW.mst (j := 34) W dX8_step_140 rfl rfl (by simp only [mlen]; omega) ?_
    refine AW.aload_n dX8_step_141 rfl ?_
    refine AW.mA 36 W dX8_step_142 lkX8_101 rfl rfl ?_
    refine AW.aload_n dX8_step_145 rfl ?_
    refine AW.mSE 32 W dX8_step_146 lkX8_321 rfl rfl (by (repeat first | apply zs_ne rfl | apply zs_eq (by omega) | apply zs_miss (by omega)); exact rfl) ?_
    refine AW.aload_n dX8_step_149 rfl ?_
    refine AW.mA 26 W dX8_step_150 lkX8_80 rfl rfl ?_
    refine AW.iload_n dX8_step_153 rfl ?_
    refine AW.mldE (j := 26) W dX8_step_154 rfl rfl (by simp only [mlen]; omega) (by (repeat first | apply zs_ne rfl | apply zs_eq (by omega) | apply zs_miss (by omega)); exact rfl) ?_
    refine AW.mst (j := 36) W dX8_step_155 rfl rfl (by simp only [mlen]; omega) ?_
    refine AW.aload_n dX8_step_156 rfl ?_
    refine AW.mA 37 W dX8_step_157 lkX8_104 rfl rfl ?_
    refine AW.aload_n dX8_step_160 rfl ?_
    refine AW.mSE 32 W dX8_step_161 lkX8_321 rfl rfl (by (repeat first | apply zs_ne rfl | apply zs_eq (by omega) | apply zs_miss (by omega)); exact rfl) ?_
    refine AW.aload_n dX8_step_164 rfl ?_
    refine AW.mA 21 W dX8_step_165 lkX8_65 rfl rfl ?_
    refine AW.iload_n dX8_step_168 rfl ?_
    refine AW.pcs (pc2 := 169) rfl ?_
    refine AW.mldE (j := 21) W dX8_step_169 rfl rfl (by simp only [mlen]; omega) (by (repeat first | apply zs_ne rfl | apply zs_eq (by omega) | apply zs_miss (by omega)); exact rfl) ?_
    refine AW.mst (j := 37) W dX8_step_170 rfl rfl (by simp only [mlen]; omega) ?_
    refine AW.aload_n dX8_step_171 rfl ?_
    refine AW.mA 38 W dX8_step_172 lkX8_107 rfl rfl ?_
    refine AW.aload_n dX8_step_175 rfl ?_
    refine AW.mSE 32 W dX8_step_176 lkX8_321 rfl rfl (by (repeat first | apply zs_ne rfl | apply zs_eq (by omega) | apply zs_miss (by omega)); exact rfl) ?_
    refine AW.aload_n dX8_step_179 rfl ?_
    refine AW.mA 23 W dX8_step_180 lkX8_71 rfl rfl ?_
    refine AW.iload_n dX8_step_183 rfl ?_
    refine AW.mldE (j := 23) W dX8_step_184 rfl rfl (by simp only [mlen]; omega) (by (repeat first | apply zs_ne rfl | apply zs_eq (by omega) | apply zs_miss (by omega)); exact rfl) ?_
    refine AW.mst (j := 38) W dX8_step_185 rfl rfl (by simp only [mlen]; omega) ?_
    refine AW.aload_n dX8_step_186 rfl ?_
    refine AW.mA 39 W dX8_step_187 lkX8_110 rfl rfl ?_
    refine AW.aload_n dX8_step_190 rfl ?_
    refine AW.mSE 32 W dX8_step_191 lkX8_321 rfl rfl (by (repeat first | apply zs_ne rfl | apply zs_eq (by omega) | apply zs_miss (by omega)); exact rfl) ?_
    refine AW.aload_n dX8_step_194 rfl ?_
    refine AW.mA 24 W dX8_step_195 lkX8_74 rfl rfl ?_
    refine AW.iload dX8_step_198 rfl ?_
    refine AW.mldE (j := 24) W dX8_step_200 rfl rfl (by simp only [mlen]; omega) (by (repeat first | apply zs_ne rfl | apply zs_eq (by omega) | apply zs_miss (by omega)); exact rfl) ?_
    refine AW.mst (j := 39) W dX8_step_201 rfl rfl (by simp only [mlen]; omega) ?_
    refine AW.iconst dX8_step_202 (by decide) ?_
    refine AW.istore dX8_step_203 rfl ?_
    refine AW.locs [(8, vi 0), (7, vi (24 * (znx Z m) + zstA' Z (znx Z m) m)), (6, vi (24 * Z 20 (znx Z m).toNat + zstA' Z (znx Z m) m)), (5, vi (zstA' Z (znx Z m) m)), (4, vi (bz (Z 21 (znx Z m).toNat < Z 30 m.toNat))), (3, vi (znx Z m)), (2, vi (bz (0 ≤ m ∧ m ≤ Z 28 0 - 1))), (0, vr mO), (1, vi m)] ⟨rfl, rfl, rfl, rfl, rfl, rfl, rfl, rfl, rfl, trivial⟩ (AW.mZ (Z' := zRec0 (zs Z 48 0 0) (znx Z m) m (24 * (znx Z m) + zstA' Z (znx Z m) m)) rfl (X8_step_j (n := Z 32 0) W B.2.2.1 rfl hn (by omega) (by omega) (by omega) (by omega) (X8_step_j (n := Z 32 0) W B.2.2.1 rfl hn (by omega) (by omega) (by omega) (by omega) ?_)))
    refine AW.mZ (Z' := zStp2 Z (znx Z m) (24 * Z 20 (znx Z m).toNat + zstA' Z (znx Z m) m) (24 * (znx Z m) + zstA' Z (znx Z m) m) m) rfl ?_
    exact X8_step_t W (BB_c (o _ _ 8 rfl) (o _ _ 9 rfl) B.2.2.1) (by rw [o _ _ 20 rfl]) (stp_c (o _ _ 7 rfl) (o _ _ 9 rfl) (o _ _ 10 rfl) (T _ rb.1 rb.2.1 _ hA.1 hA.2)) (by omega) (by omega) (by omega) rfl hn (by omega) (kO e)
  · refine AW.iconst dX8_step_45 (by decide) ?_
    refine AW.iret dX8_step_46 rfl ?_
    have c := bz_n0.mp c_42
    exact kE c
end M20
