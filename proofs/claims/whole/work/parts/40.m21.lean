/-! ===== the model: undo ===== -/
section M21
variable {Q : AH → AO → Prop} {h : AH} {Z : ZT} {mc ms bc bs : Nat}
def zUb (Y : ZT) (r p q t j : Int) : ZT := zv (zs Y 25 (2 * q + j).toNat (Y 40 (2 * t + j).toNat)) r (zon Y p 0 j) (Y 42 (2 * t + j).toNat)
def zUf (Y : ZT) (r p t a j : Int) : ZT := if Y 37 t.toNat < a ∨ ¬ Y 7 p.toNat = 6 then zv Y r (zon Y p 1 j) (Y 41 (2 * t + j).toNat) else Y
theorem zUb_o {r p q t j : Int} {i : Nat} (hi : (i != 22 && i != 25) = true) : zUb Z r p q t j i = Z i := by
  simp only [Bool.and_eq_true, bne_iff_ne, ne_eq] at hi
  unfold zUb; rw [zv_o (beq_ne hi.1), zs_oj (beq_ne hi.2)]
theorem zUf_o {r p t a j : Int} {i : Nat} (hi : (i != 22) = true) : zUf Z r p t a j i = Z i := by
  simp only [bne_iff_ne, ne_eq] at hi
  unfold zUf; split
  · rw [zv_o (beq_ne hi)]
  · rfl
theorem X8_undo_b {Y : ZT} {r p q t a c2 m j : Int} (W : WfM h) (B : BB Y) (ht : 0 ≤ t ∧ t < 4096) (hr : 0 ≤ r ∧ r < 20) (hp : 0 ≤ p ∧ p < 96) (hq : 0 ≤ q ∧ q < 480) (hj : 0 ≤ j ∧ j ≤ 1)
    (k : AW mX8_undo fX8_undo loX8_undo mc ms Q bc bs 177 (mput h (zUb Y r p q t j)) [(8, vi (j + 1)), (7, vi q), (6, vi p), (5, vi a), (4, vi r), (3, vi t), (2, vi c2), (0, vr mO), (1, vi m)] []) : AW mX8_undo fX8_undo loX8_undo mc ms Q bc bs 177 (mput h Y) [(8, vi j), (7, vi q), (6, vi p), (5, vi a), (4, vi r), (3, vi t), (2, vi c2), (0, vr mO), (1, vi m)] [] := by
  have z0 := zon_rng B (p := p) (u := 0) (j := j)
  refine AW.iload dX8_undo_177 rfl ?_
  refine AW.iconst dX8_undo_179 (by decide) ?_
  refine AW.icmp_ge (tgt := 256) dX8_undo_180 rfl (fun c_180 => ?_) (fun c_180 => ?_)
  · exact absurd c_180 (by omega)
  · refine AW.aload_n dX8_undo_183 rfl ?_
    refine AW.mA 25 W dX8_undo_184 lkX8_77 rfl rfl ?_
    refine AW.iconst dX8_undo_187 (by decide) ?_
    refine AW.iload dX8_undo_188 rfl ?_
    refine AW.imulB dX8_undo_190 (by omega) ?_
    refine AW.iload dX8_undo_191 rfl ?_
    refine AW.iaddB dX8_undo_193 (by omega) ?_
    refine AW.aload_n dX8_undo_194 rfl ?_
    refine AW.mA 40 W dX8_undo_195 lkX8_113 rfl rfl ?_
    refine AW.iconst dX8_undo_198 (by decide) ?_
    refine AW.iload_n dX8_undo_199 rfl ?_
    refine AW.imulB dX8_undo_200 (by omega) ?_
    refine AW.iload dX8_undo_201 rfl ?_
    refine AW.iaddB dX8_undo_203 (by omega) ?_
    refine AW.mldE (j := 40) W dX8_undo_204 rfl rfl (by simp only [mlen]; omega) rfl ?_
    refine AW.mst (j := 25) W dX8_undo_205 rfl rfl (by simp only [mlen]; omega) ?_
    refine AW.aload_n dX8_undo_206 rfl ?_
    refine AW.iload dX8_undo_207 rfl ?_
    refine AW.iconst dX8_undo_209 (by decide) ?_
    refine AW.iload dX8_undo_210 rfl ?_
    refine AW.callV (as := [vi _, vi _, vi _]) dX8_undo_212 rfl rfl rfl okX8_onSide lkX8_272 W.1 rfl rfl rfl rfl rfl rfl rfl (kX8_onSide W (by omega) (by omega) (AW.k1 ?_))
    refine AW.top (y := zon Y p 0 j) rfl ?_
    refine AW.iconst dX8_undo_215 (by decide) ?_
    refine AW.icmp_eq (tgt := 250) dX8_undo_216 rfl (fun c_216 => ?_) (fun c_216 => ?_)
    · refine AW.iincB dX8_undo_250 rfl rfl (by omega) ?_
      refine AW.goto (tgt := 177) dX8_undo_253 rfl ?_
      refine AW.locs [(8, vi (j + 1)), (7, vi q), (6, vi p), (5, vi a), (4, vi r), (3, vi t), (2, vi c2), (0, vr mO), (1, vi m)] ⟨rfl, rfl, rfl, rfl, rfl, rfl, rfl, rfl, rfl, trivial⟩ (AW.mZ ?_ k)
      unfold zUb zv
      first | (rw [if_neg c_216]; done) | (rw [if_pos c_216]; done)
    · refine AW.aload_n dX8_undo_219 rfl ?_
      refine AW.mA 22 W dX8_undo_220 lkX8_68 rfl rfl ?_
      refine AW.bipush dX8_undo_223 bp_48 (by decide) ?_
      refine AW.iload dX8_undo_225 rfl ?_
      refine AW.imulB dX8_undo_227 (by omega) ?_
      refine AW.aload_n dX8_undo_228 rfl ?_
      refine AW.iload dX8_undo_229 rfl ?_
      refine AW.iconst dX8_undo_231 (by decide) ?_
      refine AW.iload dX8_undo_232 rfl ?_
      refine AW.callV (as := [vi _, vi _, vi _]) dX8_undo_234 rfl rfl rfl okX8_onSide lkX8_272 W.1 rfl rfl rfl rfl rfl rfl rfl (kX8_onSide W (by omega) (by omega) (AW.k1 ?_))
      refine AW.top (y := zon Y p 0 j) rfl ?_
      refine AW.iaddB dX8_undo_237 (by omega) ?_
      refine AW.aload_n dX8_undo_238 rfl ?_
      refine AW.mA 42 W dX8_undo_239 lkX8_119 rfl rfl ?_
      refine AW.iconst dX8_undo_242 (by decide) ?_
      refine AW.iload_n dX8_undo_243 rfl ?_
      refine AW.imulB dX8_undo_244 (by omega) ?_
      refine AW.iload dX8_undo_245 rfl ?_
      refine AW.iaddB dX8_undo_247 (by omega) ?_
      refine AW.mldE (j := 42) W dX8_undo_248 rfl rfl (by simp only [mlen]; omega) (by (repeat first | apply zs_ne rfl | apply zs_eq (by omega) | apply zs_miss (by omega)); exact rfl) ?_
      refine AW.mst (j := 22) W dX8_undo_249 rfl rfl (by simp only [mlen]; omega) ?_
      refine AW.iincB dX8_undo_250 rfl rfl (by omega) ?_
      refine AW.goto (tgt := 177) dX8_undo_253 rfl ?_
      refine AW.locs [(8, vi (j + 1)), (7, vi q), (6, vi p), (5, vi a), (4, vi r), (3, vi t), (2, vi c2), (0, vr mO), (1, vi m)] ⟨rfl, rfl, rfl, rfl, rfl, rfl, rfl, rfl, rfl, trivial⟩ (AW.mZ ?_ k)
      unfold zUb zv
      first | (rw [if_neg c_216]; done) | (rw [if_pos c_216]; done)
theorem X8_undo_f {Y : ZT} {r p q t a c2 m j : Int} (W : WfM h) (B : BB Y) (ht : 0 ≤ t ∧ t < 4096) (hr : 0 ≤ r ∧ r < 20) (hp : 0 ≤ p ∧ p < 96) (hj : 0 ≤ j ∧ j ≤ 1)
    (k : AW mX8_undo fX8_undo loX8_undo mc ms Q bc bs 259 (mput h (zUf Y r p t a j)) [(8, vi (j + 1)), (7, vi q), (6, vi p), (5, vi a), (4, vi r), (3, vi t), (2, vi c2), (0, vr mO), (1, vi m)] []) : AW mX8_undo fX8_undo loX8_undo mc ms Q bc bs 259 (mput h Y) [(8, vi j), (7, vi q), (6, vi p), (5, vi a), (4, vi r), (3, vi t), (2, vi c2), (0, vr mO), (1, vi m)] [] := by
  have z0 := zon_rng B (p := p) (u := 1) (j := j)
  refine AW.iload dX8_undo_259 rfl ?_
  refine AW.iconst dX8_undo_261 (by decide) ?_
  refine AW.icmp_ge (tgt := 385) dX8_undo_262 rfl (fun c_262 => ?_) (fun c_262 => ?_)
  · exact absurd c_262 (by omega)
  · refine AW.aload_n dX8_undo_265 rfl ?_
    refine AW.iload dX8_undo_266 rfl ?_
    refine AW.iconst dX8_undo_268 (by decide) ?_
    refine AW.iload dX8_undo_269 rfl ?_
    refine AW.callV (as := [vi _, vi _, vi _]) dX8_undo_271 rfl rfl rfl okX8_onSide lkX8_272 W.1 rfl rfl rfl rfl rfl rfl rfl (kX8_onSide W (by omega) (by omega) (AW.k1 ?_))
    refine AW.top (y := zon Y p 1 j) rfl ?_
    refine AW.iconst dX8_undo_274 (by decide) ?_
    refine AW.icmp_eq (tgt := 323) dX8_undo_275 rfl (fun c_275 => ?_) (fun c_275 => ?_)
    · refine AW.aload_n dX8_undo_323 rfl ?_
      refine AW.iload dX8_undo_324 rfl ?_
      refine AW.iconst dX8_undo_326 (by decide) ?_
      refine AW.iload dX8_undo_327 rfl ?_
      refine AW.callV (as := [vi _, vi _, vi _]) dX8_undo_329 rfl rfl rfl okX8_onSide lkX8_272 W.1 rfl rfl rfl rfl rfl rfl rfl (kX8_onSide W (by omega) (by omega) (AW.k1 ?_))
      refine AW.top (y := zon Y p 1 j) rfl ?_
      refine AW.iconst dX8_undo_332 (by decide) ?_
      refine AW.icmp_eq (tgt := 379) dX8_undo_333 rfl (fun c_333 => ?_) (fun c_333 => ?_)
      · refine AW.iincB dX8_undo_379 rfl rfl (by omega) ?_
        refine AW.goto (tgt := 259) dX8_undo_382 rfl ?_
        refine AW.locs [(8, vi (j + 1)), (7, vi q), (6, vi p), (5, vi a), (4, vi r), (3, vi t), (2, vi c2), (0, vr mO), (1, vi m)] ⟨rfl, rfl, rfl, rfl, rfl, rfl, rfl, rfl, rfl, trivial⟩ (AW.mZ ?_ k)
        unfold zUf zv
        (repeat' split) <;> first | rfl | grind
      · refine AW.aload_n dX8_undo_336 rfl ?_
        refine AW.mA 7 W dX8_undo_337 lkX8_29 rfl rfl ?_
        refine AW.iload dX8_undo_340 rfl ?_
        refine AW.mldE (j := 7) W dX8_undo_342 rfl rfl (by simp only [mlen]; omega) rfl ?_
        refine AW.bipush dX8_undo_343 bp_6 (by decide) ?_
        refine AW.icmp_eq (tgt := 379) dX8_undo_345 rfl (fun c_345 => ?_) (fun c_345 => ?_)
        · refine AW.iincB dX8_undo_379 rfl rfl (by omega) ?_
          refine AW.goto (tgt := 259) dX8_undo_382 rfl ?_
          refine AW.locs [(8, vi (j + 1)), (7, vi q), (6, vi p), (5, vi a), (4, vi r), (3, vi t), (2, vi c2), (0, vr mO), (1, vi m)] ⟨rfl, rfl, rfl, rfl, rfl, rfl, rfl, rfl, rfl, trivial⟩ (AW.mZ ?_ k)
          unfold zUf zv
          (repeat' split) <;> first | rfl | grind
        · refine AW.aload_n dX8_undo_348 rfl ?_
          refine AW.mA 22 W dX8_undo_349 lkX8_68 rfl rfl ?_
          refine AW.bipush dX8_undo_352 bp_48 (by decide) ?_
          refine AW.iload dX8_undo_354 rfl ?_
          refine AW.imulB dX8_undo_356 (by omega) ?_
          refine AW.aload_n dX8_undo_357 rfl ?_
          refine AW.iload dX8_undo_358 rfl ?_
          refine AW.iconst dX8_undo_360 (by decide) ?_
          refine AW.iload dX8_undo_361 rfl ?_
          refine AW.callV (as := [vi _, vi _, vi _]) dX8_undo_363 rfl rfl rfl okX8_onSide lkX8_272 W.1 rfl rfl rfl rfl rfl rfl rfl (kX8_onSide W (by omega) (by omega) (AW.k1 ?_))
          refine AW.top (y := zon Y p 1 j) rfl ?_
          refine AW.iaddB dX8_undo_366 (by omega) ?_
          refine AW.aload_n dX8_undo_367 rfl ?_
          refine AW.mA 41 W dX8_undo_368 lkX8_116 rfl rfl ?_
          refine AW.iconst dX8_undo_371 (by decide) ?_
          refine AW.iload_n dX8_undo_372 rfl ?_
          refine AW.imulB dX8_undo_373 (by omega) ?_
          refine AW.iload dX8_undo_374 rfl ?_
          refine AW.iaddB dX8_undo_376 (by omega) ?_
          refine AW.mldE (j := 41) W dX8_undo_377 rfl rfl (by simp only [mlen]; omega) rfl ?_
          refine AW.mst (j := 22) W dX8_undo_378 rfl rfl (by simp only [mlen]; omega) ?_
          refine AW.iincB dX8_undo_379 rfl rfl (by omega) ?_
          refine AW.goto (tgt := 259) dX8_undo_382 rfl ?_
          refine AW.locs [(8, vi (j + 1)), (7, vi q), (6, vi p), (5, vi a), (4, vi r), (3, vi t), (2, vi c2), (0, vr mO), (1, vi m)] ⟨rfl, rfl, rfl, rfl, rfl, rfl, rfl, rfl, rfl, trivial⟩ (AW.mZ ?_ k)
          unfold zUf zv
          (repeat' split) <;> first | rfl | grind
    · refine AW.aload_n dX8_undo_278 rfl ?_
      refine AW.mA 37 W dX8_undo_279 lkX8_104 rfl rfl ?_
      refine AW.iload_n dX8_undo_282 rfl ?_
      refine AW.mldE (j := 37) W dX8_undo_283 rfl rfl (by simp only [mlen]; omega) rfl ?_
      refine AW.iload dX8_undo_284 rfl ?_
      refine AW.icmp_ge (tgt := 323) dX8_undo_286 rfl (fun c_286 => ?_) (fun c_286 => ?_)
      · refine AW.aload_n dX8_undo_323 rfl ?_
        refine AW.iload dX8_undo_324 rfl ?_
        refine AW.iconst dX8_undo_326 (by decide) ?_
        refine AW.iload dX8_undo_327 rfl ?_
        refine AW.callV (as := [vi _, vi _, vi _]) dX8_undo_329 rfl rfl rfl okX8_onSide lkX8_272 W.1 rfl rfl rfl rfl rfl rfl rfl (kX8_onSide W (by omega) (by omega) (AW.k1 ?_))
        refine AW.top (y := zon Y p 1 j) rfl ?_
        refine AW.iconst dX8_undo_332 (by decide) ?_
        refine AW.icmp_eq (tgt := 379) dX8_undo_333 rfl (fun c_333 => ?_) (fun c_333 => ?_)
        · refine AW.iincB dX8_undo_379 rfl rfl (by omega) ?_
          refine AW.goto (tgt := 259) dX8_undo_382 rfl ?_
          refine AW.locs [(8, vi (j + 1)), (7, vi q), (6, vi p), (5, vi a), (4, vi r), (3, vi t), (2, vi c2), (0, vr mO), (1, vi m)] ⟨rfl, rfl, rfl, rfl, rfl, rfl, rfl, rfl, rfl, trivial⟩ (AW.mZ ?_ k)
          unfold zUf zv
          (repeat' split) <;> first | rfl | grind
        · refine AW.aload_n dX8_undo_336 rfl ?_
          refine AW.mA 7 W dX8_undo_337 lkX8_29 rfl rfl ?_
          refine AW.iload dX8_undo_340 rfl ?_
          refine AW.mldE (j := 7) W dX8_undo_342 rfl rfl (by simp only [mlen]; omega) rfl ?_
          refine AW.bipush dX8_undo_343 bp_6 (by decide) ?_
          refine AW.icmp_eq (tgt := 379) dX8_undo_345 rfl (fun c_345 => ?_) (fun c_345 => ?_)
          · refine AW.iincB dX8_undo_379 rfl rfl (by omega) ?_
            refine AW.goto (tgt := 259) dX8_undo_382 rfl ?_
            refine AW.locs [(8, vi (j + 1)), (7, vi q), (6, vi p), (5, vi a), (4, vi r), (3, vi t), (2, vi c2), (0, vr mO), (1, vi m)] ⟨rfl, rfl, rfl, rfl, rfl, rfl, rfl, rfl, rfl, trivial⟩ (AW.mZ ?_ k)
            unfold zUf zv
            (repeat' split) <;> first | rfl | grind
          · refine AW.aload_n dX8_undo_348 rfl ?_
            refine AW.mA 22 W dX8_undo_349 lkX8_68 rfl rfl ?_
            refine AW.bipush dX8_undo_352 bp_48 (by decide) ?_
            refine AW.iload dX8_undo_354 rfl ?_
            refine AW.imulB dX8_undo_356 (by omega) ?_
            refine AW.aload_n dX8_undo_357 rfl ?_
            refine AW.iload dX8_undo_358 rfl ?_
            refine AW.iconst dX8_undo_360 (by decide) ?_
            refine AW.iload dX8_undo_361 rfl ?_
            refine AW.callV (as := [vi _, vi _, vi _]) dX8_undo_363 rfl rfl rfl okX8_onSide lkX8_272 W.1 rfl rfl rfl rfl rfl rfl rfl (kX8_onSide W (by omega) (by omega) (AW.k1 ?_))
            refine AW.top (y := zon Y p 1 j) rfl ?_
            refine AW.iaddB dX8_undo_366 (by omega) ?_
            refine AW.aload_n dX8_undo_367 rfl ?_
            refine AW.mA 41 W dX8_undo_368 lkX8_116 rfl rfl ?_
            refine AW.iconst dX8_undo_371 (by decide) ?_
            refine AW.iload_n dX8_undo_372 rfl ?_
            refine AW.imulB dX8_undo_373 (by omega) ?_
            refine AW.iload dX8_undo_374 rfl ?_
            refine AW.iaddB dX8_undo_376 (by omega) ?_
            refine AW.mldE (j := 41) W dX8_undo_377 rfl rfl (by simp only [mlen]; omega) rfl ?_
            refine AW.mst (j := 22) W dX8_undo_378 rfl rfl (by simp only [mlen]; omega) ?_
            refine AW.iincB dX8_undo_379 rfl rfl (by omega) ?_
            refine AW.goto (tgt := 259) dX8_undo_382 rfl ?_
            refine AW.locs [(8, vi (j + 1)), (7, vi q), (6, vi p), (5, vi a), (4, vi r), (3, vi t), (2, vi c2), (0, vr mO), (1, vi m)] ⟨rfl, rfl, rfl, rfl, rfl, rfl, rfl, rfl, rfl, trivial⟩ (AW.mZ ?_ k)
            unfold zUf zv
            (repeat' split) <;> first | rfl | grind
      · refine AW.aload_n dX8_undo_289 rfl ?_
        refine AW.mA 22 W dX8_undo_290 lkX8_68 rfl rfl ?_
        refine AW.bipush dX8_undo_293 bp_48 (by decide) ?_
        refine AW.iload dX8_undo_295 rfl ?_
        refine AW.imulB dX8_undo_297 (by omega) ?_
        refine AW.aload_n dX8_undo_298 rfl ?_
        refine AW.iload dX8_undo_299 rfl ?_
        refine AW.iconst dX8_undo_301 (by decide) ?_
        refine AW.iload dX8_undo_302 rfl ?_
        refine AW.callV (as := [vi _, vi _, vi _]) dX8_undo_304 rfl rfl rfl okX8_onSide lkX8_272 W.1 rfl rfl rfl rfl rfl rfl rfl (kX8_onSide W (by omega) (by omega) (AW.k1 ?_))
        refine AW.top (y := zon Y p 1 j) rfl ?_
        refine AW.iaddB dX8_undo_307 (by omega) ?_
        refine AW.aload_n dX8_undo_308 rfl ?_
        refine AW.mA 41 W dX8_undo_309 lkX8_116 rfl rfl ?_
        refine AW.iconst dX8_undo_312 (by decide) ?_
        refine AW.iload_n dX8_undo_313 rfl ?_
        refine AW.imulB dX8_undo_314 (by omega) ?_
        refine AW.iload dX8_undo_315 rfl ?_
        refine AW.iaddB dX8_undo_317 (by omega) ?_
        refine AW.mldE (j := 41) W dX8_undo_318 rfl rfl (by simp only [mlen]; omega) rfl ?_
        refine AW.mst (j := 22) W dX8_undo_319 rfl rfl (by simp only [mlen]; omega) ?_
        refine AW.goto (tgt := 379) dX8_undo_320 rfl ?_
        refine AW.iincB dX8_undo_379 rfl rfl (by omega) ?_
        refine AW.goto (tgt := 259) dX8_undo_382 rfl ?_
        refine AW.locs [(8, vi (j + 1)), (7, vi q), (6, vi p), (5, vi a), (4, vi r), (3, vi t), (2, vi c2), (0, vr mO), (1, vi m)] ⟨rfl, rfl, rfl, rfl, rfl, rfl, rfl, rfl, rfl, trivial⟩ (AW.mZ ?_ k)
        unfold zUf zv
        (repeat' split) <;> first | rfl | grind
def zundA (Z : ZT) (r t : Int) : Int := if Z 37 t.toNat < Z 21 r.toNat then Z 21 r.toNat else Z 37 t.toNat
def zUnd0 (Z : ZT) (r t : Int) : ZT := zs (zs (zs (zs Z 48 0 0) 21 r.toNat (Z 37 t.toNat)) 23 r.toNat (Z 38 t.toNat)) 24 (24 * r + zundA Z r t).toNat (Z 39 t.toNat)
def zUnd1 (Z : ZT) (r t : Int) : ZT := zUb (zUb (zUnd0 Z r t) r (24 * Z 20 r.toNat + zundA Z r t) (24 * r + zundA Z r t) t 0) r (24 * Z 20 r.toNat + zundA Z r t) (24 * r + zundA Z r t) t 1
def zUnd2 (Z : ZT) (r t : Int) : ZT := zUf (zUf (zUnd1 Z r t) r (24 * Z 20 r.toNat + zundA Z r t) t (zundA Z r t) 0) r (24 * Z 20 r.toNat + zundA Z r t) t (zundA Z r t) 1
def zUnd (Z : ZT) (m t : Int) : ZT := zs (zs (zUnd2 Z (Z 34 t.toNat) t) 26 (Z 34 t.toNat).toNat (Z 36 t.toNat)) 31 m.toNat (Z 33 t.toNat)
def zcUnd (Z : ZT) (m : Int) : Int := cd2 (¬ (0 ≤ m ∧ m ≤ Z 28 0 - 1)) (Z 31 m.toNat = -1 ∨ ¬ Z 26 (Z 34 (Z 31 m.toNat).toNat).toNat = Z 35 (Z 31 m.toNat).toNat)
/-- bounds of the steps' notes -/
def BL (Z : ZT) : Prop := (∀ m : Nat, m < 8 → -1 ≤ Z 31 m ∧ Z 31 m < 4096) ∧ ∀ t : Nat, t < 4096 → 0 ≤ Z 34 t ∧ Z 34 t < 20 ∧ 0 ≤ Z 37 t ∧ Z 37 t ≤ 23
theorem zUnd2_o {r t : Int} {i : Nat} (hi : (i != 22 && i != 25 && i != 21 && i != 23 && i != 24 && i != 48) = true) : zUnd2 Z r t i = Z i := by
  simp only [Bool.and_eq_true, bne_iff_ne, ne_eq] at hi
  obtain ⟨⟨⟨⟨⟨a1, a2⟩, a3⟩, a4⟩, a5⟩, a6⟩ := hi
  have q1 : (i != 22) = true := by simpa using a1
  have q2 : (i != 22 && i != 25) = true := by simp [a1, a2]
  unfold zUnd2 zUnd1 zUnd0
  rw [zUf_o q1, zUf_o q1, zUb_o q2, zUb_o q2, zs_oj (beq_ne a5), zs_oj (beq_ne a4), zs_oj (beq_ne a3), zs_oj (beq_ne a6)]
set_option maxHeartbeats 2000000 in
theorem kX8_undo {m : Int} (W : WfM h) (B : BI Z) (R : BR Z) (M : BM Z) (L : BL Z) (kE : 0 < zcUnd Z m → Q (mput h (zs Z 48 0 (zcUnd Z m))) (.inl (some (vi 0))))
    (kO : zcUnd Z m = 0 → Q (mput h (zUnd Z m (Z 31 m.toNat))) (.inl (some (vi (Z 34 (Z 31 m.toNat).toNat))))) : AC mX8_undo fX8_undo loX8_undo 0 0 (mput h Z) [vr mO, vi m] Q := by
  have M0 := M.1
  refine AC.mk (by decide) (Nat.le_of_ble_eq_true rfl) ?_
  have tl : ∀ t r c2, zcUnd Z m = 0 → Z 31 m.toNat = t → Z 34 t.toNat = r → (0 ≤ m ∧ m < 8) → (0 ≤ t ∧ t < 4096) → (0 ≤ r ∧ r < 20) → AW mX8_undo fX8_undo loX8_undo 0 0 Q 0 0 259 (mput h (zUnd2 Z r t)) [(8, vi (0 + 1 + 1)), (7, vi (24 * r + zundA Z r t)), (6, vi (24 * Z 20 r.toNat + zundA Z r t)), (5, vi (zundA Z r t)), (4, vi r), (3, vi t), (2, vi c2), (0, vr mO), (1, vi m)] [] := by
    intro t r c2 ec et er hm ht hr
    have o : ∀ i, (i != 22 && i != 25 && i != 21 && i != 23 && i != 24 && i != 48) = true → zUnd2 Z r t i = Z i := fun i hi => zUnd2_o hi
    refine AW.iload dX8_undo_259 rfl ?_
    refine AW.iconst dX8_undo_261 (by decide) ?_
    refine AW.icmp_ge (tgt := 385) dX8_undo_262 rfl (fun c_262 => ?_) (fun c_262 => ?_)
    · refine AW.aload_n dX8_undo_385 rfl ?_
      refine AW.mA 26 W dX8_undo_386 lkX8_80 rfl rfl ?_
      refine AW.iload dX8_undo_389 rfl ?_
      refine AW.aload_n dX8_undo_391 rfl ?_
      refine AW.mA 36 W dX8_undo_392 lkX8_101 rfl rfl ?_
      refine AW.iload_n dX8_undo_395 rfl ?_
      refine AW.mldE (j := 36) W dX8_undo_396 rfl rfl (by simp only [mlen]; omega) (by rw [o 36 rfl]) ?_
      refine AW.mst (j := 26) W dX8_undo_397 rfl rfl (by simp only [mlen]; omega) ?_
      refine AW.aload_n dX8_undo_398 rfl ?_
      refine AW.mA 31 W dX8_undo_399 lkX8_89 rfl rfl ?_
      refine AW.iload_n dX8_undo_402 rfl ?_
      refine AW.aload_n dX8_undo_403 rfl ?_
      refine AW.mA 33 W dX8_undo_404 lkX8_92 rfl rfl ?_
      refine AW.iload_n dX8_undo_407 rfl ?_
      refine AW.mldE (j := 33) W dX8_undo_408 rfl rfl (by simp only [mlen]; omega) (by apply zs_ne rfl; rw [o 33 rfl]) ?_
      refine AW.mst (j := 31) W dX8_undo_409 rfl rfl (by simp only [mlen]; omega) ?_
      refine AW.iload dX8_undo_410 rfl ?_
      refine AW.iret dX8_undo_412 rfl ?_
      have k := kO ec
      rw [et, er] at k
      refine finZ k ?_ rfl
      unfold zUnd
      rw [er]
    · exact absurd c_262 (by omega)
  have mid : ∀ t r c2, (-1 ≤ t ∧ t < 4096) → (0 ≤ r ∧ r < 20 ∧ 0 ≤ Z 37 t.toNat ∧ Z 37 t.toNat ≤ 23) → (0 ≤ Z 20 r.toNat ∧ Z 20 r.toNat < 4 ∧ 0 ≤ Z 21 r.toNat ∧ Z 21 r.toNat ≤ Z 1 (Z 20 r.toNat).toNat) → (0 ≤ zundA Z r t ∧ zundA Z r t ≤ 23) → 0 ≤ t → AW mX8_undo fX8_undo loX8_undo 0 0 Q 0 0 259 (mput h (zUnd2 Z r t)) [(8, vi (0 + 1 + 1)), (7, vi (24 * r + zundA Z r t)), (6, vi (24 * Z 20 r.toNat + zundA Z r t)), (5, vi (zundA Z r t)), (4, vi r), (3, vi t), (2, vi c2), (0, vr mO), (1, vi m)] [] → AW mX8_undo fX8_undo loX8_undo 0 0 Q 0 0 177 (mput h (zUnd1 Z r t)) [(8, vi (0 + 1 + 1)), (7, vi (24 * r + zundA Z r t)), (6, vi (24 * Z 20 r.toNat + zundA Z r t)), (5, vi (zundA Z r t)), (4, vi r), (3, vi t), (2, vi c2), (0, vr mO), (1, vi m)] [] := by
    intro t r c2 lb lb2 rb hA ht tl
    have B1 : BB (zUnd1 Z r t) := BB_c ((zUb_o rfl).trans (zUb_o rfl)) ((zUb_o rfl).trans (zUb_o rfl)) B.2.2.1
    refine AW.iload dX8_undo_177 rfl ?_
    refine AW.iconst dX8_undo_179 (by decide) ?_
    refine AW.icmp_ge (tgt := 256) dX8_undo_180 rfl (fun c_180 => ?_) (fun c_180 => ?_)
    · refine AW.iconst dX8_undo_256 (by decide) ?_
      refine AW.istore dX8_undo_257 rfl ?_
      refine AW.locs [(8, vi 0), (7, vi (24 * r + zundA Z r t)), (6, vi (24 * Z 20 r.toNat + zundA Z r t)), (5, vi (zundA Z r t)), (4, vi r), (3, vi t), (2, vi c2), (0, vr mO), (1, vi m)] ⟨rfl, rfl, rfl, rfl, rfl, rfl, rfl, rfl, rfl, trivial⟩ (X8_undo_f W B1 (by omega) (by omega) (by omega) (by omega) (X8_undo_f W (BB_c (zUf_o rfl) (zUf_o rfl) B1) (by omega) (by omega) (by omega) (by omega) tl))
    · exact absurd c_180 (by omega)
  refine AW.aload_n dX8_undo_0 rfl ?_
  refine AW.iload_n dX8_undo_1 rfl ?_
  refine AW.callV (as := [vi _]) dX8_undo_2 rfl rfl rfl okX8_isMover lkX8_315 W.1 rfl rfl rfl rfl rfl rfl rfl (kX8_isMover W (by assumption) (AW.k1 ?_))
  refine AW.istore_n dX8_undo_5 rfl ?_
  refine AW.iload_n dX8_undo_6 rfl ?_
  refine' AW.if_eqJ 20 (tgt := 19) dX8_undo_7 rfl _ _ _
  rotate_left 2
  · intro c_7 k_7
    refine AW.iconst dX8_undo_19 (by decide) ?_
    exact k_7
  · intro c_7 k_7
    have c := bz_n0.mp c_7
    refine AW.aload_n dX8_undo_10 rfl ?_
    refine AW.mA 31 W dX8_undo_11 lkX8_89 rfl rfl ?_
    refine AW.iload_n dX8_undo_14 rfl ?_
    refine AW.mldE (j := 31) W dX8_undo_15 rfl rfl (by simp only [mlen]; omega) rfl ?_
    refine AW.goto (tgt := 20) dX8_undo_16 rfl ?_
    exact k_7
  refine AW.top (y := if (0 ≤ m ∧ m ≤ Z 28 0 - 1) then Z 31 m.toNat else -1) (by simp only [bz_0]; (repeat' split) <;> simp_all) ?_
  refine AW.istore_n dX8_undo_20 rfl ?_
  refine AW.aload_n dX8_undo_21 rfl ?_
  refine AW.iload_n dX8_undo_22 rfl ?_
  refine' AW.if_neJ 60 (tgt := 30) dX8_undo_23 rfl _ _ _
  rotate_left 2
  · intro c_23 k_23
    refine AW.iload_n dX8_undo_30 rfl ?_
    refine AW.iconst dX8_undo_31 (by decide) ?_
    refine' AW.icmp_eqJ 60 (tgt := 55) dX8_undo_32 rfl _ _ _
    rotate_left 2
    · intro c_32 k_32
      refine AW.iconst dX8_undo_55 (by decide) ?_
      refine AW.goto (tgt := 60) dX8_undo_56 rfl ?_
      exact k_32
    · intro c_32 k_32
      have c := bz_n0.mp c_23
      have lb := L.1 m.toNat (by omega)
      have c32 : ¬ Z 31 m.toNat = -1 := fun z => c_32 (by rw [if_pos c]; exact z)
      have lb2 := L.2 (Z 31 m.toNat).toNat (by omega)
      refine AW.aload_n dX8_undo_35 rfl ?_
      refine AW.mA 26 W dX8_undo_36 lkX8_80 rfl rfl ?_
      refine AW.aload_n dX8_undo_39 rfl ?_
      refine AW.mA 34 W dX8_undo_40 lkX8_95 rfl rfl ?_
      refine AW.iload_n dX8_undo_43 rfl ?_
      refine AW.mldE (j := 34) W dX8_undo_44 rfl rfl (by rw [if_pos c]; simp only [mlen]; omega) rfl ?_
      refine AW.mldE (j := 26) W dX8_undo_45 rfl rfl (by rw [if_pos c]; simp only [mlen]; omega) rfl ?_
      refine AW.aload_n dX8_undo_46 rfl ?_
      refine AW.mA 35 W dX8_undo_47 lkX8_98 rfl rfl ?_
      refine AW.iload_n dX8_undo_50 rfl ?_
      refine AW.mldE (j := 35) W dX8_undo_51 rfl rfl (by rw [if_pos c]; simp only [mlen]; omega) rfl ?_
      refine' AW.icmp_eqJ 60 (tgt := 59) dX8_undo_52 rfl _ _ _
      rotate_left 2
      · intro c_52 k_52
        refine AW.iconst dX8_undo_59 (by decide) ?_
        exact k_52
      · intro c_52 k_52
        refine AW.iconst dX8_undo_55 (by decide) ?_
        refine AW.goto (tgt := 60) dX8_undo_56 rfl ?_
        exact k_52
      exact k_32
    exact k_23
  · intro c_23 k_23
    refine AW.iconst dX8_undo_26 (by decide) ?_
    refine AW.goto (tgt := 60) dX8_undo_27 rfl ?_
    exact k_23
  refine AW.top (y := zcUnd Z m) (by unfold zcUnd cd2; simp only [bz_0]; (repeat' split) <;> first | rfl | grind) ?_
  refine AW.callV (as := [vi _]) dX8_undo_60 rfl rfl rfl okX8_fails lkX8_162 W.1 rfl rfl rfl rfl rfl rfl rfl (kX8_fails W (AW.k1 ?_))
  refine AW.if_eq (tgt := 68) dX8_undo_63 rfl (fun c_63 => ?_) (fun c_63 => ?_)
  · have c := bz_0.mp c_63
    have e : zcUnd Z m = 0 := by unfold zcUnd cd2 at *; (repeat' split at c) <;> omega
    obtain ⟨c1, c2⟩ := cd2_0.mp c
    rw [Classical.not_not] at c1
    rw [not_or] at c2
    have lb := L.1 m.toNat (by omega)
    have lb2 := L.2 (Z 31 m.toNat).toNat (by omega)
    rw [e]
    obtain ⟨t, et⟩ : ∃ t, Z 31 m.toNat = t := ⟨_, rfl⟩
    rw [et] at lb lb2
    have c20 := c2.1
    rw [et] at c20
    have tl := tl t _ (bz (0 ≤ m ∧ m ≤ Z 28 0 - 1)) e et rfl (by omega) (by omega) ⟨lb2.1, lb2.2.1⟩
    refine AW.locs [(3, vi t), (2, vi (bz (0 ≤ m ∧ m ≤ Z 28 0 - 1))), (0, vr mO), (1, vi m)] ⟨by rw [if_pos c1, et]; rfl, rfl, rfl, rfl, trivial⟩ ?_
    have rb := R.2 (Z 34 t.toNat).toNat (by omega)
    have sb := B.1.2 (Z 20 (Z 34 t.toNat).toNat).toNat (by omega)
    have hA : 0 ≤ zundA Z (Z 34 t.toNat) t ∧ zundA Z (Z 34 t.toNat) t ≤ 23 := by unfold zundA; split <;> omega
    refine AW.aload_n dX8_undo_68 rfl ?_
    refine AW.mA 34 W dX8_undo_69 lkX8_95 rfl rfl ?_
    refine AW.iload_n dX8_undo_72 rfl ?_
    refine AW.mldE (j := 34) W dX8_undo_73 rfl rfl (by simp only [mlen]; omega) (by (repeat first | apply zs_ne rfl | apply zs_eq (by omega) | apply zs_miss (by omega)); exact rfl) ?_
    refine AW.istore dX8_undo_74 rfl ?_
    refine AW.aload_n dX8_undo_76 rfl ?_
    refine AW.mA 21 W dX8_undo_77 lkX8_65 rfl rfl ?_
    refine AW.iload dX8_undo_80 rfl ?_
    refine AW.mldE (j := 21) W dX8_undo_82 rfl rfl (by simp only [mlen]; omega) (by (repeat first | apply zs_ne rfl | apply zs_eq (by omega) | apply zs_miss (by omega)); exact rfl) ?_
    refine AW.aload_n dX8_undo_83 rfl ?_
    refine AW.mA 37 W dX8_undo_84 lkX8_104 rfl rfl ?_
    refine AW.iload_n dX8_undo_87 rfl ?_
    refine AW.mldE (j := 37) W dX8_undo_88 rfl rfl (by simp only [mlen]; omega) (by (repeat first | apply zs_ne rfl | apply zs_eq (by omega) | apply zs_miss (by omega)); exact rfl) ?_
    refine' AW.icmp_leJ 108 (tgt := 102) dX8_undo_89 rfl _ _ _
    rotate_left 2
    · intro c_89 k_89
      refine AW.aload_n dX8_undo_102 rfl ?_
      refine AW.mA 37 W dX8_undo_103 lkX8_104 rfl rfl ?_
      refine AW.iload_n dX8_undo_106 rfl ?_
      refine AW.mldE (j := 37) W dX8_undo_107 rfl rfl (by simp only [mlen]; omega) (by (repeat first | apply zs_ne rfl | apply zs_eq (by omega) | apply zs_miss (by omega)); exact rfl) ?_
      exact k_89
    · intro c_89 k_89
      refine AW.aload_n dX8_undo_92 rfl ?_
      refine AW.mA 21 W dX8_undo_93 lkX8_65 rfl rfl ?_
      refine AW.iload dX8_undo_96 rfl ?_
      refine AW.mldE (j := 21) W dX8_undo_98 rfl rfl (by simp only [mlen]; omega) (by (repeat first | apply zs_ne rfl | apply zs_eq (by omega) | apply zs_miss (by omega)); exact rfl) ?_
      refine AW.goto (tgt := 108) dX8_undo_99 rfl ?_
      exact k_89
    refine AW.top (y := zundA Z (Z 34 t.toNat) t) (by unfold zundA; (repeat' split) <;> first | rfl | omega) ?_
    refine AW.istore dX8_undo_108 rfl ?_
    refine AW.bipush dX8_undo_110 bp_24 (by decide) ?_
    refine AW.aload_n dX8_undo_112 rfl ?_
    refine AW.mA 20 W dX8_undo_113 lkX8_62 rfl rfl ?_
    refine AW.iload dX8_undo_116 rfl ?_
    refine AW.mldE (j := 20) W dX8_undo_118 rfl rfl (by simp only [mlen]; omega) (by (repeat first | apply zs_ne rfl | apply zs_eq (by omega) | apply zs_miss (by omega)); exact rfl) ?_
    refine AW.imulB dX8_undo_119 (by omega) ?_
    refine AW.iload dX8_undo_120 rfl ?_
    refine AW.iaddB dX8_undo_122 (by omega) ?_
    refine AW.istore dX8_undo_123 rfl ?_
    refine AW.bipush dX8_undo_125 bp_24 (by decide) ?_
    refine AW.iload dX8_undo_127 rfl ?_
    refine AW.imulB dX8_undo_129 (by omega) ?_
    refine AW.iload dX8_undo_130 rfl ?_
    refine AW.iaddB dX8_undo_132 (by omega) ?_
    refine AW.istore dX8_undo_133 rfl ?_
    refine AW.aload_n dX8_undo_135 rfl ?_
    refine AW.mA 21 W dX8_undo_136 lkX8_65 rfl rfl ?_
    refine AW.iload dX8_undo_139 rfl ?_
    refine AW.aload_n dX8_undo_141 rfl ?_
    refine AW.mA 37 W dX8_undo_142 lkX8_104 rfl rfl ?_
    refine AW.iload_n dX8_undo_145 rfl ?_
    refine AW.mldE (j := 37) W dX8_undo_146 rfl rfl (by simp only [mlen]; omega) (by (repeat first | apply zs_ne rfl | apply zs_eq (by omega) | apply zs_miss (by omega)); exact rfl) ?_
    refine AW.pcs (pc2 := 147) rfl ?_
    refine AW.mst (j := 21) W dX8_undo_147 rfl rfl (by simp only [mlen]; omega) ?_
    refine AW.aload_n dX8_undo_148 rfl ?_
    refine AW.mA 23 W dX8_undo_149 lkX8_71 rfl rfl ?_
    refine AW.iload dX8_undo_152 rfl ?_
    refine AW.aload_n dX8_undo_154 rfl ?_
    refine AW.mA 38 W dX8_undo_155 lkX8_107 rfl rfl ?_
    refine AW.iload_n dX8_undo_158 rfl ?_
    refine AW.mldE (j := 38) W dX8_undo_159 rfl rfl (by simp only [mlen]; omega) (by (repeat first | apply zs_ne rfl | apply zs_eq (by omega) | apply zs_miss (by omega)); exact rfl) ?_
    refine AW.mst (j := 23) W dX8_undo_160 rfl rfl (by simp only [mlen]; omega) ?_
    refine AW.aload_n dX8_undo_161 rfl ?_
    refine AW.mA 24 W dX8_undo_162 lkX8_74 rfl rfl ?_
    refine AW.iload dX8_undo_165 rfl ?_
    refine AW.aload_n dX8_undo_167 rfl ?_
    refine AW.mA 39 W dX8_undo_168 lkX8_110 rfl rfl ?_
    refine AW.iload_n dX8_undo_171 rfl ?_
    refine AW.mldE (j := 39) W dX8_undo_172 rfl rfl (by simp only [mlen]; omega) (by (repeat first | apply zs_ne rfl | apply zs_eq (by omega) | apply zs_miss (by omega)); exact rfl) ?_
    refine AW.mst (j := 24) W dX8_undo_173 rfl rfl (by simp only [mlen]; omega) ?_
    refine AW.iconst dX8_undo_174 (by decide) ?_
    refine AW.istore dX8_undo_175 rfl ?_
    refine AW.locs [(8, vi 0), (7, vi (24 * Z 34 t.toNat + zundA Z (Z 34 t.toNat) t)), (6, vi (24 * Z 20 (Z 34 t.toNat).toNat + zundA Z (Z 34 t.toNat) t)), (5, vi (zundA Z (Z 34 t.toNat) t)), (4, vi (Z 34 t.toNat)), (3, vi t), (2, vi (bz (0 ≤ m ∧ m ≤ Z 28 0 - 1))), (0, vr mO), (1, vi m)] ⟨rfl, rfl, rfl, rfl, rfl, rfl, rfl, rfl, rfl, trivial⟩ (AW.mZ (Z' := zUnd0 Z (Z 34 t.toNat) t) rfl (X8_undo_b W B.2.2.1 (by omega) (by omega) (by omega) (by omega) (by omega) (X8_undo_b W (BB_c (zUb_o rfl) (zUb_o rfl) B.2.2.1) (by omega) (by omega) (by omega) (by omega) (by omega) (AW.mZ (Z' := zUnd1 Z (Z 34 t.toNat) t) rfl ?_))))
    exact mid t (Z 34 t.toNat) _ lb lb2 rb hA (by omega) tl
  · refine AW.iconst dX8_undo_66 (by decide) ?_
    refine AW.iret dX8_undo_67 rfl ?_
    have c := bz_n0.mp c_63
    exact kE c
end M21
