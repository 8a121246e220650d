/-! ===== the law's steps ===== -/
section D4
variable {Q : AH → AO → Prop} {h g h1 : AH} {Z : ZT} {c b L a m f0 : Nat} {D K : Nat → Int} {W : Int}
theorem LC.n {d : Nat} {nf n' : Int} (C : LC h Z d D W nf K) (e : nf = n') : LC h Z d D W n' K := e ▸ C
abbrev lst (w one two three nm ot th fi se : Int) : AL := [(13, vi se), (12, vi fi), (11, vi th), (10, vi ot), (9, vi nm), (0, vr mF), (1, vr (la 1)), (2, vr (la 2)), (3, vr (la 3)), (4, vr (la 4)), (5, vi w), (6, vi one), (7, vi two), (8, vi three)]
set_option maxHeartbeats 4000000 in
theorem is_add1 {one two three nm ot th fi se kd v : Int} (J : IV L h Z c b) (V : JV h Z) (hv : Z 1 0 = (a : Int)) (ha : a ≤ 9) (h8 : Z 2 0 ≤ 8) (h1 : 0 ≤ one ∧ one < 10000) (h2 : 0 ≤ two ∧ two < 10000) (h3 : 0 ≤ three ∧ three < 10000) (hnm : 0 ≤ nm ∧ nm ≤ 5 ∨ nm = 26) (hot : 0 ≤ ot ∧ ot ≤ 6 ∨ ot = 26) (hth : 0 ≤ th ∧ th ≤ 6 ∨ th = 26) (efi : zfind Z 0 (Z 1 0) nm = fi) (ese : zfind Z 0 (Z 1 0) ot = se) (hkd : 0 ≤ kd ∧ kd ≤ 3) (hvl : v = 10000 ∨ (0 ≤ v ∧ v < 10000 ∧ (kd = 3 ∨ v ≤ zmost kd))) (k : ∀ g Y, IV L g Y c b → JV g Y → Q g (.inl (some (vi 1)))) : AW mL_isStep fL_isStep loL_isStep 10 60 Q 10 60 188 h ((15, vi v) :: (14, vi kd) :: lst 0 one two three nm ot th fi se) [] := by
  have K := J.K
  have b1 := K.b1
  have b2 := K.b2
  have zfi := zf_r K (a := Z 1 0) (n := nm)
  have zse := zf_r K (a := Z 1 0) (n := ot)
  rw [efi] at zfi
  rw [ese] at zse
  obtain ⟨m, hm⟩ := Int.eq_ofNat_of_zero_le b2.1
  have hnd : (one.tdiv 6).tmod 2 = 0 ∨ (one.tdiv 6).tmod 2 = 1 := by
    rw [tdv h1.1, tmd (by omega)]; omega
  by_cases hr : nm < 26 ∧ kd < 3 ∧ v < 10000
  · have hR : (0 ≤ nm ∧ nm ≤ 25) ∧ (0 ≤ kd ∧ kd ≤ 2) ∧ 0 ≤ v ∧ v ≤ zmost kd := by omega
    have zm := zmost_b kd
    by_cases hz : fi = -1
    · rcases hnd with hnd | hnd
      · refine AW.iload dL_isStep_188 rfl ?_
        refine AW.bipush dL_isStep_190 bp_26 (by decide) ?_
        refine AW.icmp_geF (tgt := 213) dL_isStep_192 rfl (by omega) ?_
        refine AW.iload dL_isStep_195 rfl ?_
        refine AW.iconst dL_isStep_197 (by decide) ?_
        refine AW.icmp_geF (tgt := 213) dL_isStep_198 rfl (by omega) ?_
        refine AW.iload dL_isStep_201 rfl ?_
        refine AW.sipush dL_isStep_203 sp_10000 (by decide) ?_
        refine AW.icmp_geF (tgt := 213) dL_isStep_206 rfl (by omega) ?_
        refine AW.iconst dL_isStep_209 (by decide) ?_
        refine AW.goto (tgt := 214) dL_isStep_210 rfl ?_
        refine AW.istore dL_isStep_214 rfl ?_
        refine AW.iload dL_isStep_216 rfl ?_
        refine AW.if_neT (tgt := 227) dL_isStep_218 rfl (by omega) ?_
        refine AW.iload dL_isStep_227 rfl ?_
        refine AW.if_ltT (tgt := 237) dL_isStep_229 rfl (by omega) ?_
        refine AW.aload dL_isStep_237 rfl ?_
        refine AW.iconst dL_isStep_239 (by decide) ?_
        refine AW.aldIE dL_isStep_240 J.T.a4 (by omega) (by omega) (by exact V.s.g1) ?_
        refine AW.istore dL_isStep_241 rfl ?_
        refine AW.iload dL_isStep_243 rfl ?_
        refine AW.if_ltF (tgt := 290) dL_isStep_245 rfl (by omega) ?_
        refine AW.aload_n dL_isStep_248 rfl ?_
        refine AW.pcs (pc2 := 249) rfl ?_
        refine AW.aload_n dL_isStep_249 rfl ?_
        refine AW.aload dL_isStep_250 rfl ?_
        refine AW.iconst dL_isStep_252 (by decide) ?_
        refine AW.iconst dL_isStep_253 (by decide) ?_
        refine AW.iconst dL_isStep_254 (by decide) ?_
        refine AW.iconst dL_isStep_255 (by decide) ?_
        refine AW.callS (as := [vq _, vq _, vq _, vi _, vi _, vi _, vi _]) dL_isStep_256 rfl rfl rfl okL_begins lkL_141 rfl rfl rfl (leb (by omega)) (leb (by omega)) rfl (kL_begins (K := fun _ => 0) (d := a + 1) J.T V.s (by omega) (by omega) (by omega) (by omega) (by omega) (by omega) (by omega) (fun g1 F1 C1 => (AW.k0 ?_)))
        have C1 := C1.n hm
        have T1 := F1.1.T J.T
        refine AW.aload_n dL_isStep_259 rfl ?_
        refine AW.aload_n dL_isStep_260 rfl ?_
        refine AW.aload_n dL_isStep_261 rfl ?_
        refine AW.aload dL_isStep_262 rfl ?_
        refine AW.iload dL_isStep_264 rfl ?_
        refine AW.iload dL_isStep_266 rfl ?_
        refine AW.iload dL_isStep_268 rfl ?_
        refine AW.iload dL_isStep_270 rfl ?_
        refine AW.bipush dL_isStep_272 bp_6 (by decide) ?_
        refine AW.idiv dL_isStep_274 (by omega) ?_
        refine AW.iconst dL_isStep_275 (by decide) ?_
        refine AW.irem dL_isStep_276 (by omega) ?_
        refine AW.top (y := 0) hnd ?_
        refine AW.iconst dL_isStep_277 (by decide) ?_
        refine AW.icmp_neT (tgt := 285) dL_isStep_278 rfl (by decide) ?_
        refine AW.iconst dL_isStep_285 (by decide) ?_
        refine AW.iconst dL_isStep_286 (by decide) ?_
        refine AW.callS (as := [vq _, vq _, vq _, vq _, vi _, vi _, vi _, vi _, vi _]) dL_isStep_287 rfl rfl rfl okL_makes lkL_145 rfl rfl rfl (leb (by omega)) (leb (by omega)) rfl (kL_makes00 (m := m) T1 C1 (by omega) (by omega) (by omega) (by omega) (zdg_0 K (by omega) (by omega) (by omega)) (by omega) (by omega) (by omega) (fun g2 F2 C2 => (AW.k0 ?_)))
        refine AW.pcs (pc2 := 290) rfl ?_
        refine AW.aload_n dL_isStep_290 rfl ?_
        refine AW.iconst dL_isStep_291 (by decide) ?_
        refine AW.iconst dL_isStep_292 (by decide) ?_
        refine AW.iload dL_isStep_293 rfl ?_
        refine AW.iload dL_isStep_295 rfl ?_
        refine AW.iload dL_isStep_297 rfl ?_
        refine AW.iload dL_isStep_299 rfl ?_
        refine AW.bipush dL_isStep_301 bp_6 (by decide) ?_
        refine AW.idiv dL_isStep_303 (by omega) ?_
        refine AW.iconst dL_isStep_304 (by decide) ?_
        refine AW.irem dL_isStep_305 (by omega) ?_
        refine AW.top (y := 0) hnd ?_
        refine AW.callSH (as := [vq _, vi _, vi _, vi _, vi _, vi _, vi _]) dL_isStep_306 rfl rfl rfl okL_does lkL_149 rfl rfl rfl (by omega) (by omega) rfl (q_add (J.fl (F1.tr F2).1) (by decide) (fun z => absurd hR z) (fun _ z => absurd (efi.trans hz) z) (fun _ _ g3 S3 I3 Fr3 => (AW.k1 ?_)))
        refine AW.iload dL_isStep_309 rfl ?_
        refine AW.icmp_neF (tgt := 318) dL_isStep_311 rfl (by rfl) ?_
        refine AW.iconst dL_isStep_314 (by decide) ?_
        refine AW.goto (tgt := 319) dL_isStep_315 rfl ?_
        refine AW.zret dL_isStep_319 rfl ?_ ?_
        · omega
        have q := g_add (nd := 0) J V (F1.tr F2) hv ha hm (by omega) (by omega) (by decide) C2 (fun i hi => rfl) (by omega) (if_pos rfl) S3 I3 Fr3
        exact k _ _ q.1 q.2
      · refine AW.iload dL_isStep_188 rfl ?_
        refine AW.bipush dL_isStep_190 bp_26 (by decide) ?_
        refine AW.icmp_geF (tgt := 213) dL_isStep_192 rfl (by omega) ?_
        refine AW.iload dL_isStep_195 rfl ?_
        refine AW.iconst dL_isStep_197 (by decide) ?_
        refine AW.icmp_geF (tgt := 213) dL_isStep_198 rfl (by omega) ?_
        refine AW.iload dL_isStep_201 rfl ?_
        refine AW.sipush dL_isStep_203 sp_10000 (by decide) ?_
        refine AW.icmp_geF (tgt := 213) dL_isStep_206 rfl (by omega) ?_
        refine AW.iconst dL_isStep_209 (by decide) ?_
        refine AW.goto (tgt := 214) dL_isStep_210 rfl ?_
        refine AW.istore dL_isStep_214 rfl ?_
        refine AW.iload dL_isStep_216 rfl ?_
        refine AW.if_neT (tgt := 227) dL_isStep_218 rfl (by omega) ?_
        refine AW.iload dL_isStep_227 rfl ?_
        refine AW.if_ltT (tgt := 237) dL_isStep_229 rfl (by omega) ?_
        refine AW.aload dL_isStep_237 rfl ?_
        refine AW.iconst dL_isStep_239 (by decide) ?_
        refine AW.aldIE dL_isStep_240 J.T.a4 (by omega) (by omega) (by exact V.s.g1) ?_
        refine AW.istore dL_isStep_241 rfl ?_
        refine AW.iload dL_isStep_243 rfl ?_
        refine AW.if_ltF (tgt := 290) dL_isStep_245 rfl (by omega) ?_
        refine AW.aload_n dL_isStep_248 rfl ?_
        refine AW.pcs (pc2 := 249) rfl ?_
        refine AW.aload_n dL_isStep_249 rfl ?_
        refine AW.aload dL_isStep_250 rfl ?_
        refine AW.iconst dL_isStep_252 (by decide) ?_
        refine AW.iconst dL_isStep_253 (by decide) ?_
        refine AW.iconst dL_isStep_254 (by decide) ?_
        refine AW.iconst dL_isStep_255 (by decide) ?_
        refine AW.callS (as := [vq _, vq _, vq _, vi _, vi _, vi _, vi _]) dL_isStep_256 rfl rfl rfl okL_begins lkL_141 rfl rfl rfl (leb (by omega)) (leb (by omega)) rfl (kL_begins (K := fun _ => 0) (d := a + 1) J.T V.s (by omega) (by omega) (by omega) (by omega) (by omega) (by omega) (by omega) (fun g1 F1 C1 => (AW.k0 ?_)))
        have C1 := C1.n hm
        have T1 := F1.1.T J.T
        refine AW.aload_n dL_isStep_259 rfl ?_
        refine AW.aload_n dL_isStep_260 rfl ?_
        refine AW.aload_n dL_isStep_261 rfl ?_
        refine AW.aload dL_isStep_262 rfl ?_
        refine AW.iload dL_isStep_264 rfl ?_
        refine AW.iload dL_isStep_266 rfl ?_
        refine AW.iload dL_isStep_268 rfl ?_
        refine AW.iload dL_isStep_270 rfl ?_
        refine AW.bipush dL_isStep_272 bp_6 (by decide) ?_
        refine AW.idiv dL_isStep_274 (by omega) ?_
        refine AW.iconst dL_isStep_275 (by decide) ?_
        refine AW.irem dL_isStep_276 (by omega) ?_
        refine AW.top (y := 1) hnd ?_
        refine AW.iconst dL_isStep_277 (by decide) ?_
        refine AW.icmp_neF (tgt := 285) dL_isStep_278 rfl (by decide) ?_
        refine AW.iconst dL_isStep_281 (by decide) ?_
        refine AW.goto (tgt := 286) dL_isStep_282 rfl ?_
        refine AW.iconst dL_isStep_286 (by decide) ?_
        refine AW.pcs (pc2 := 287) rfl ?_
        refine AW.callS (as := [vq _, vq _, vq _, vq _, vi _, vi _, vi _, vi _, vi _]) dL_isStep_287 rfl rfl rfl okL_makes lkL_145 rfl rfl rfl (leb (by omega)) (leb (by omega)) rfl (kL_makes10 (m := m) T1 C1 (by omega) (by omega) (by omega) (by omega) (zdg_0 K (by omega) (by omega) (by omega)) (by omega) (by omega) (by omega) (fun g2 F2 C2 => (AW.k0 ?_)))
        refine AW.aload_n dL_isStep_290 rfl ?_
        refine AW.iconst dL_isStep_291 (by decide) ?_
        refine AW.iconst dL_isStep_292 (by decide) ?_
        refine AW.iload dL_isStep_293 rfl ?_
        refine AW.iload dL_isStep_295 rfl ?_
        refine AW.iload dL_isStep_297 rfl ?_
        refine AW.iload dL_isStep_299 rfl ?_
        refine AW.bipush dL_isStep_301 bp_6 (by decide) ?_
        refine AW.idiv dL_isStep_303 (by omega) ?_
        refine AW.iconst dL_isStep_304 (by decide) ?_
        refine AW.irem dL_isStep_305 (by omega) ?_
        refine AW.top (y := 1) hnd ?_
        refine AW.callSH (as := [vq _, vi _, vi _, vi _, vi _, vi _, vi _]) dL_isStep_306 rfl rfl rfl okL_does lkL_149 rfl rfl rfl (by omega) (by omega) rfl (q_add (J.fl (F1.tr F2).1) (by decide) (fun z => absurd hR z) (fun _ z => absurd (efi.trans hz) z) (fun _ _ g3 S3 I3 Fr3 => (AW.k1 ?_)))
        refine AW.iload dL_isStep_309 rfl ?_
        refine AW.icmp_neF (tgt := 318) dL_isStep_311 rfl (by rfl) ?_
        refine AW.iconst dL_isStep_314 (by decide) ?_
        refine AW.goto (tgt := 319) dL_isStep_315 rfl ?_
        refine AW.zret dL_isStep_319 rfl ?_ ?_
        · omega
        have q := g_add (nd := 1) J V (F1.tr F2) hv ha hm (by omega) (by omega) (by decide) C2 (fun i hi => rfl) (by omega) (if_pos rfl) S3 I3 Fr3
        exact k _ _ q.1 q.2
    · refine AW.iload dL_isStep_188 rfl ?_
      refine AW.bipush dL_isStep_190 bp_26 (by decide) ?_
      refine AW.icmp_geF (tgt := 213) dL_isStep_192 rfl (by omega) ?_
      refine AW.iload dL_isStep_195 rfl ?_
      refine AW.iconst dL_isStep_197 (by decide) ?_
      refine AW.icmp_geF (tgt := 213) dL_isStep_198 rfl (by omega) ?_
      refine AW.iload dL_isStep_201 rfl ?_
      refine AW.sipush dL_isStep_203 sp_10000 (by decide) ?_
      refine AW.icmp_geF (tgt := 213) dL_isStep_206 rfl (by omega) ?_
      refine AW.iconst dL_isStep_209 (by decide) ?_
      refine AW.goto (tgt := 214) dL_isStep_210 rfl ?_
      refine AW.istore dL_isStep_214 rfl ?_
      refine AW.iload dL_isStep_216 rfl ?_
      refine AW.if_neT (tgt := 227) dL_isStep_218 rfl (by omega) ?_
      refine AW.iload dL_isStep_227 rfl ?_
      refine AW.if_ltF (tgt := 237) dL_isStep_229 rfl (by omega) ?_
      refine AW.bipush dL_isStep_232 bp_m100 (by decide) ?_
      refine AW.goto (tgt := 241) dL_isStep_234 rfl ?_
      refine AW.istore dL_isStep_241 rfl ?_
      refine AW.iload dL_isStep_243 rfl ?_
      refine AW.if_ltT (tgt := 290) dL_isStep_245 rfl (by omega) ?_
      refine AW.aload_n dL_isStep_290 rfl ?_
      refine AW.iconst dL_isStep_291 (by decide) ?_
      refine AW.pcs (pc2 := 292) rfl ?_
      refine AW.iconst dL_isStep_292 (by decide) ?_
      refine AW.iload dL_isStep_293 rfl ?_
      refine AW.iload dL_isStep_295 rfl ?_
      refine AW.iload dL_isStep_297 rfl ?_
      refine AW.iload dL_isStep_299 rfl ?_
      refine AW.bipush dL_isStep_301 bp_6 (by decide) ?_
      refine AW.idiv dL_isStep_303 (by omega) ?_
      refine AW.iconst dL_isStep_304 (by decide) ?_
      refine AW.irem dL_isStep_305 (by omega) ?_
      refine AW.callSH (as := [vq _, vi _, vi _, vi _, vi _, vi _, vi _]) dL_isStep_306 rfl rfl rfl okL_does lkL_149 rfl rfl rfl (by omega) (by omega) rfl (q_add J hnd (fun z => absurd hR z) (fun _ _ => (AW.k1 ?_)) (fun _ z => absurd (efi.symm.trans z) hz))
      refine AW.iload dL_isStep_309 rfl ?_
      refine AW.icmp_neF (tgt := 318) dL_isStep_311 rfl (by rfl) ?_
      refine AW.iconst dL_isStep_314 (by decide) ?_
      refine AW.goto (tgt := 319) dL_isStep_315 rfl ?_
      refine AW.zret dL_isStep_319 rfl ?_ ?_
      · omega
      exact k _ _ J V
  · have hR : ¬ ((0 ≤ nm ∧ nm ≤ 25) ∧ (0 ≤ kd ∧ kd ≤ 2) ∧ 0 ≤ v ∧ v ≤ zmost kd) := by have zm := zmost_b kd; omega
    by_cases r1 : nm < 26
    · by_cases r2 : kd < 3
      · refine AW.iload dL_isStep_188 rfl ?_
        refine AW.bipush dL_isStep_190 bp_26 (by decide) ?_
        refine AW.icmp_geF (tgt := 213) dL_isStep_192 rfl (by omega) ?_
        refine AW.iload dL_isStep_195 rfl ?_
        refine AW.iconst dL_isStep_197 (by decide) ?_
        refine AW.icmp_geF (tgt := 213) dL_isStep_198 rfl (by omega) ?_
        refine AW.iload dL_isStep_201 rfl ?_
        refine AW.sipush dL_isStep_203 sp_10000 (by decide) ?_
        refine AW.icmp_geT (tgt := 213) dL_isStep_206 rfl (by omega) ?_
        refine AW.iconst dL_isStep_213 (by decide) ?_
        refine AW.istore dL_isStep_214 rfl ?_
        refine AW.iload dL_isStep_216 rfl ?_
        refine AW.if_neF (tgt := 227) dL_isStep_218 rfl (by omega) ?_
        refine AW.sipush dL_isStep_221 sp_m200 (by decide) ?_
        refine AW.goto (tgt := 241) dL_isStep_224 rfl ?_
        refine AW.istore dL_isStep_241 rfl ?_
        refine AW.iload dL_isStep_243 rfl ?_
        refine AW.if_ltT (tgt := 290) dL_isStep_245 rfl (by omega) ?_
        refine AW.aload_n dL_isStep_290 rfl ?_
        refine AW.iconst dL_isStep_291 (by decide) ?_
        refine AW.iconst dL_isStep_292 (by decide) ?_
        refine AW.iload dL_isStep_293 rfl ?_
        refine AW.iload dL_isStep_295 rfl ?_
        refine AW.pcs (pc2 := 297) rfl ?_
        refine AW.iload dL_isStep_297 rfl ?_
        refine AW.iload dL_isStep_299 rfl ?_
        refine AW.bipush dL_isStep_301 bp_6 (by decide) ?_
        refine AW.idiv dL_isStep_303 (by omega) ?_
        refine AW.iconst dL_isStep_304 (by decide) ?_
        refine AW.irem dL_isStep_305 (by omega) ?_
        refine AW.callSH (as := [vq _, vi _, vi _, vi _, vi _, vi _, vi _]) dL_isStep_306 rfl rfl rfl okL_does lkL_149 rfl rfl rfl (by omega) (by omega) rfl (q_add J hnd (fun _ => (AW.k1 ?_)) (fun z => absurd z hR) (fun z => absurd z hR))
        refine AW.iload dL_isStep_309 rfl ?_
        refine AW.icmp_neF (tgt := 318) dL_isStep_311 rfl (by rfl) ?_
        refine AW.iconst dL_isStep_314 (by decide) ?_
        refine AW.goto (tgt := 319) dL_isStep_315 rfl ?_
        refine AW.zret dL_isStep_319 rfl ?_ ?_
        · omega
        exact k _ _ J V
      · refine AW.iload dL_isStep_188 rfl ?_
        refine AW.bipush dL_isStep_190 bp_26 (by decide) ?_
        refine AW.icmp_geF (tgt := 213) dL_isStep_192 rfl (by omega) ?_
        refine AW.iload dL_isStep_195 rfl ?_
        refine AW.iconst dL_isStep_197 (by decide) ?_
        refine AW.icmp_geT (tgt := 213) dL_isStep_198 rfl (by omega) ?_
        refine AW.iconst dL_isStep_213 (by decide) ?_
        refine AW.istore dL_isStep_214 rfl ?_
        refine AW.iload dL_isStep_216 rfl ?_
        refine AW.if_neF (tgt := 227) dL_isStep_218 rfl (by omega) ?_
        refine AW.sipush dL_isStep_221 sp_m200 (by decide) ?_
        refine AW.goto (tgt := 241) dL_isStep_224 rfl ?_
        refine AW.istore dL_isStep_241 rfl ?_
        refine AW.iload dL_isStep_243 rfl ?_
        refine AW.if_ltT (tgt := 290) dL_isStep_245 rfl (by omega) ?_
        refine AW.aload_n dL_isStep_290 rfl ?_
        refine AW.iconst dL_isStep_291 (by decide) ?_
        refine AW.iconst dL_isStep_292 (by decide) ?_
        refine AW.iload dL_isStep_293 rfl ?_
        refine AW.iload dL_isStep_295 rfl ?_
        refine AW.iload dL_isStep_297 rfl ?_
        refine AW.iload dL_isStep_299 rfl ?_
        refine AW.bipush dL_isStep_301 bp_6 (by decide) ?_
        refine AW.pcs (pc2 := 303) rfl ?_
        refine AW.idiv dL_isStep_303 (by omega) ?_
        refine AW.iconst dL_isStep_304 (by decide) ?_
        refine AW.irem dL_isStep_305 (by omega) ?_
        refine AW.callSH (as := [vq _, vi _, vi _, vi _, vi _, vi _, vi _]) dL_isStep_306 rfl rfl rfl okL_does lkL_149 rfl rfl rfl (by omega) (by omega) rfl (q_add J hnd (fun _ => (AW.k1 ?_)) (fun z => absurd z hR) (fun z => absurd z hR))
        refine AW.iload dL_isStep_309 rfl ?_
        refine AW.icmp_neF (tgt := 318) dL_isStep_311 rfl (by rfl) ?_
        refine AW.iconst dL_isStep_314 (by decide) ?_
        refine AW.goto (tgt := 319) dL_isStep_315 rfl ?_
        refine AW.zret dL_isStep_319 rfl ?_ ?_
        · omega
        exact k _ _ J V
    · refine AW.iload dL_isStep_188 rfl ?_
      refine AW.bipush dL_isStep_190 bp_26 (by decide) ?_
      refine AW.icmp_geT (tgt := 213) dL_isStep_192 rfl (by omega) ?_
      refine AW.iconst dL_isStep_213 (by decide) ?_
      refine AW.istore dL_isStep_214 rfl ?_
      refine AW.iload dL_isStep_216 rfl ?_
      refine AW.if_neF (tgt := 227) dL_isStep_218 rfl (by omega) ?_
      refine AW.sipush dL_isStep_221 sp_m200 (by decide) ?_
      refine AW.goto (tgt := 241) dL_isStep_224 rfl ?_
      refine AW.istore dL_isStep_241 rfl ?_
      refine AW.iload dL_isStep_243 rfl ?_
      refine AW.if_ltT (tgt := 290) dL_isStep_245 rfl (by omega) ?_
      refine AW.aload_n dL_isStep_290 rfl ?_
      refine AW.iconst dL_isStep_291 (by decide) ?_
      refine AW.iconst dL_isStep_292 (by decide) ?_
      refine AW.iload dL_isStep_293 rfl ?_
      refine AW.iload dL_isStep_295 rfl ?_
      refine AW.iload dL_isStep_297 rfl ?_
      refine AW.iload dL_isStep_299 rfl ?_
      refine AW.bipush dL_isStep_301 bp_6 (by decide) ?_
      refine AW.idiv dL_isStep_303 (by omega) ?_
      refine AW.iconst dL_isStep_304 (by decide) ?_
      refine AW.irem dL_isStep_305 (by omega) ?_
      refine AW.pcs (pc2 := 306) rfl ?_
      refine AW.callSH (as := [vq _, vi _, vi _, vi _, vi _, vi _, vi _]) dL_isStep_306 rfl rfl rfl okL_does lkL_149 rfl rfl rfl (by omega) (by omega) rfl (q_add J hnd (fun _ => (AW.k1 ?_)) (fun z => absurd z hR) (fun z => absurd z hR))
      refine AW.iload dL_isStep_309 rfl ?_
      refine AW.icmp_neF (tgt := 318) dL_isStep_311 rfl (by rfl) ?_
      refine AW.iconst dL_isStep_314 (by decide) ?_
      refine AW.goto (tgt := 319) dL_isStep_315 rfl ?_
      refine AW.zret dL_isStep_319 rfl ?_ ?_
      · omega
      exact k _ _ J V
set_option maxHeartbeats 4000000 in
theorem is_add {one two three nm ot th fi se : Int} (J : IV L h Z c b) (V : JV h Z) (hv : Z 1 0 = (a : Int)) (ha : a ≤ 9) (h8 : Z 2 0 ≤ 8) (h1 : 0 ≤ one ∧ one < 10000) (h2 : 0 ≤ two ∧ two < 10000) (h3 : 0 ≤ three ∧ three < 10000) (hnm : 0 ≤ nm ∧ nm ≤ 5 ∨ nm = 26) (hot : 0 ≤ ot ∧ ot ≤ 6 ∨ ot = 26) (hth : 0 ≤ th ∧ th ≤ 6 ∨ th = 26) (efi : zfind Z 0 (Z 1 0) nm = fi) (ese : zfind Z 0 (Z 1 0) ot = se) (k : ∀ g Y, IV L g Y c b → JV g Y → Q g (.inl (some (vi 1)))) : AW mL_isStep fL_isStep loL_isStep 10 60 Q 10 60 127 h (lst 0 one two three nm ot th fi se) [] := by
  have K := J.K
  have b1 := K.b1
  have b2 := K.b2
  have zfi := zf_r K (a := Z 1 0) (n := nm)
  have zse := zf_r K (a := Z 1 0) (n := ot)
  rw [efi] at zfi
  rw [ese] at zse
  obtain ⟨m, hm⟩ := Int.eq_ofNat_of_zero_le b2.1
  have t30 := tmr (x := three) (n := 30) h3.1 (by decide)
  have t4 := tmr (x := two) (n := 4) h2.1 (by decide)
  by_cases e30 : three.tmod 30 = 0
  · refine AW.iload dL_isStep_127 rfl ?_
    refine AW.if_neF (tgt := 320) dL_isStep_129 rfl (by omega) ?_
    refine AW.iload dL_isStep_132 rfl ?_
    refine AW.iconst dL_isStep_134 (by decide) ?_
    refine AW.irem dL_isStep_135 (by omega) ?_
    refine AW.istore dL_isStep_136 rfl ?_
    refine AW.iload dL_isStep_138 rfl ?_
    refine AW.bipush dL_isStep_140 bp_30 (by decide) ?_
    refine AW.irem dL_isStep_142 (by omega) ?_
    refine AW.if_neF (tgt := 152) dL_isStep_143 rfl (by exact e30) ?_
    refine AW.sipush dL_isStep_146 sp_10000 (by decide) ?_
    refine AW.goto (tgt := 186) dL_isStep_149 rfl ?_
    refine AW.istore dL_isStep_186 rfl ?_
    exact AW.locs ((15, vi 10000) :: (14, vi (two.tmod 4)) :: lst 0 one two three nm ot th fi se) ⟨rfl, rfl, rfl, rfl, rfl, rfl, rfl, rfl, rfl, rfl, rfl, rfl, rfl, rfl, rfl, rfl, trivial⟩ (is_add1 J V hv ha h8 h1 h2 h3 hnm hot hth efi ese (by omega) (Or.inl rfl) k)
  · have hk : two.tmod 4 = 0 ∨ two.tmod 4 = 1 ∨ two.tmod 4 = 2 ∨ two.tmod 4 = 3 := by omega
    rcases hk with hk | hk | hk | hk
    · have t := tmr (x := three) (n := 9000) h3.1 (by decide)
      refine AW.iload dL_isStep_127 rfl ?_
      refine AW.if_neF (tgt := 320) dL_isStep_129 rfl (by omega) ?_
      refine AW.iload dL_isStep_132 rfl ?_
      refine AW.iconst dL_isStep_134 (by decide) ?_
      refine AW.irem dL_isStep_135 (by omega) ?_
      refine AW.top (y := 0) hk ?_
      refine AW.istore dL_isStep_136 rfl ?_
      refine AW.iload dL_isStep_138 rfl ?_
      refine AW.bipush dL_isStep_140 bp_30 (by decide) ?_
      refine AW.irem dL_isStep_142 (by omega) ?_
      refine AW.if_neT (tgt := 152) dL_isStep_143 rfl (by exact e30) ?_
      refine AW.iload dL_isStep_152 rfl ?_
      refine AW.iconst dL_isStep_154 (by decide) ?_
      refine AW.icmp_neT (tgt := 165) dL_isStep_155 rfl (by omega) ?_
      refine AW.iload dL_isStep_165 rfl ?_
      refine AW.iconst dL_isStep_167 (by decide) ?_
      refine AW.icmp_neT (tgt := 180) dL_isStep_168 rfl (by omega) ?_
      refine AW.iload dL_isStep_180 rfl ?_
      refine AW.sipush dL_isStep_182 sp_9000 (by decide) ?_
      refine AW.irem dL_isStep_185 (by omega) ?_
      refine AW.istore dL_isStep_186 rfl ?_
      exact AW.locs ((15, vi (three.tmod 9000)) :: (14, vi 0) :: lst 0 one two three nm ot th fi se) ⟨rfl, rfl, rfl, rfl, rfl, rfl, rfl, rfl, rfl, rfl, rfl, rfl, rfl, rfl, rfl, rfl, trivial⟩ (is_add1 J V hv ha h8 h1 h2 h3 hnm hot hth efi ese (by decide) (Or.inr ⟨t.1, by omega, Or.inr (by rw [show zmost 0 = 9999 from rfl]; omega)⟩) k)
    · have t := tmr (x := three) (n := 2) h3.1 (by decide)
      refine AW.iload dL_isStep_127 rfl ?_
      refine AW.if_neF (tgt := 320) dL_isStep_129 rfl (by omega) ?_
      refine AW.iload dL_isStep_132 rfl ?_
      refine AW.iconst dL_isStep_134 (by decide) ?_
      refine AW.irem dL_isStep_135 (by omega) ?_
      refine AW.top (y := 1) hk ?_
      refine AW.istore dL_isStep_136 rfl ?_
      refine AW.iload dL_isStep_138 rfl ?_
      refine AW.bipush dL_isStep_140 bp_30 (by decide) ?_
      refine AW.irem dL_isStep_142 (by omega) ?_
      refine AW.if_neT (tgt := 152) dL_isStep_143 rfl (by exact e30) ?_
      refine AW.iload dL_isStep_152 rfl ?_
      refine AW.iconst dL_isStep_154 (by decide) ?_
      refine AW.icmp_neF (tgt := 165) dL_isStep_155 rfl (by omega) ?_
      refine AW.iload dL_isStep_158 rfl ?_
      refine AW.iconst dL_isStep_160 (by decide) ?_
      refine AW.irem dL_isStep_161 (by omega) ?_
      refine AW.goto (tgt := 186) dL_isStep_162 rfl ?_
      refine AW.istore dL_isStep_186 rfl ?_
      exact AW.locs ((15, vi (three.tmod 2)) :: (14, vi 1) :: lst 0 one two three nm ot th fi se) ⟨rfl, rfl, rfl, rfl, rfl, rfl, rfl, rfl, rfl, rfl, rfl, rfl, rfl, rfl, rfl, rfl, trivial⟩ (is_add1 J V hv ha h8 h1 h2 h3 hnm hot hth efi ese (by decide) (Or.inr ⟨t.1, by omega, Or.inr (by rw [show zmost 1 = 1 from rfl]; omega)⟩) k)
    · have t := tmr (x := three) (n := 1000) h3.1 (by decide)
      refine AW.iload dL_isStep_127 rfl ?_
      refine AW.if_neF (tgt := 320) dL_isStep_129 rfl (by omega) ?_
      refine AW.iload dL_isStep_132 rfl ?_
      refine AW.iconst dL_isStep_134 (by decide) ?_
      refine AW.irem dL_isStep_135 (by omega) ?_
      refine AW.top (y := 2) hk ?_
      refine AW.istore dL_isStep_136 rfl ?_
      refine AW.iload dL_isStep_138 rfl ?_
      refine AW.bipush dL_isStep_140 bp_30 (by decide) ?_
      refine AW.irem dL_isStep_142 (by omega) ?_
      refine AW.if_neT (tgt := 152) dL_isStep_143 rfl (by exact e30) ?_
      refine AW.iload dL_isStep_152 rfl ?_
      refine AW.iconst dL_isStep_154 (by decide) ?_
      refine AW.icmp_neT (tgt := 165) dL_isStep_155 rfl (by omega) ?_
      refine AW.iload dL_isStep_165 rfl ?_
      refine AW.iconst dL_isStep_167 (by decide) ?_
      refine AW.icmp_neF (tgt := 180) dL_isStep_168 rfl (by omega) ?_
      refine AW.iload dL_isStep_171 rfl ?_
      refine AW.sipush dL_isStep_173 sp_1000 (by decide) ?_
      refine AW.irem dL_isStep_176 (by omega) ?_
      refine AW.goto (tgt := 186) dL_isStep_177 rfl ?_
      refine AW.istore dL_isStep_186 rfl ?_
      exact AW.locs ((15, vi (three.tmod 1000)) :: (14, vi 2) :: lst 0 one two three nm ot th fi se) ⟨rfl, rfl, rfl, rfl, rfl, rfl, rfl, rfl, rfl, rfl, rfl, rfl, rfl, rfl, rfl, rfl, trivial⟩ (is_add1 J V hv ha h8 h1 h2 h3 hnm hot hth efi ese (by decide) (Or.inr ⟨t.1, by omega, Or.inr (by rw [show zmost 2 = 999 from rfl]; omega)⟩) k)
    · have t := tmr (x := three) (n := 9000) h3.1 (by decide)
      refine AW.iload dL_isStep_127 rfl ?_
      refine AW.if_neF (tgt := 320) dL_isStep_129 rfl (by omega) ?_
      refine AW.iload dL_isStep_132 rfl ?_
      refine AW.iconst dL_isStep_134 (by decide) ?_
      refine AW.irem dL_isStep_135 (by omega) ?_
      refine AW.top (y := 3) hk ?_
      refine AW.istore dL_isStep_136 rfl ?_
      refine AW.iload dL_isStep_138 rfl ?_
      refine AW.bipush dL_isStep_140 bp_30 (by decide) ?_
      refine AW.irem dL_isStep_142 (by omega) ?_
      refine AW.if_neT (tgt := 152) dL_isStep_143 rfl (by exact e30) ?_
      refine AW.iload dL_isStep_152 rfl ?_
      refine AW.iconst dL_isStep_154 (by decide) ?_
      refine AW.icmp_neT (tgt := 165) dL_isStep_155 rfl (by omega) ?_
      refine AW.iload dL_isStep_165 rfl ?_
      refine AW.iconst dL_isStep_167 (by decide) ?_
      refine AW.icmp_neT (tgt := 180) dL_isStep_168 rfl (by omega) ?_
      refine AW.iload dL_isStep_180 rfl ?_
      refine AW.sipush dL_isStep_182 sp_9000 (by decide) ?_
      refine AW.irem dL_isStep_185 (by omega) ?_
      refine AW.istore dL_isStep_186 rfl ?_
      exact AW.locs ((15, vi (three.tmod 9000)) :: (14, vi 3) :: lst 0 one two three nm ot th fi se) ⟨rfl, rfl, rfl, rfl, rfl, rfl, rfl, rfl, rfl, rfl, rfl, rfl, rfl, rfl, rfl, rfl, trivial⟩ (is_add1 J V hv ha h8 h1 h2 h3 hnm hot hth efi ese (by decide) (Or.inr ⟨t.1, by omega, Or.inl rfl⟩) k)
set_option maxHeartbeats 4000000 in
theorem is_ren {one two three nm ot th fi se : Int} (J : IV L h Z c b) (V : JV h Z) (hv : Z 1 0 = (a : Int)) (ha : a ≤ 9) (h8 : Z 2 0 ≤ 8) (h1 : 0 ≤ one ∧ one < 10000) (h2 : 0 ≤ two ∧ two < 10000) (h3 : 0 ≤ three ∧ three < 10000) (hnm : 0 ≤ nm ∧ nm ≤ 5 ∨ nm = 26) (hot : 0 ≤ ot ∧ ot ≤ 6 ∨ ot = 26) (hth : 0 ≤ th ∧ th ≤ 6 ∨ th = 26) (efi : zfind Z 0 (Z 1 0) nm = fi) (ese : zfind Z 0 (Z 1 0) ot = se) (k : ∀ g Y, IV L g Y c b → JV g Y → Q g (.inl (some (vi 1)))) : AW mL_isStep fL_isStep loL_isStep 10 60 Q 10 60 127 h (lst 1 one two three nm ot th fi se) [] := by
  have K := J.K
  have b1 := K.b1
  have b2 := K.b2
  have zfi := zf_r K (a := Z 1 0) (n := nm)
  have zse := zf_r K (a := Z 1 0) (n := ot)
  rw [efi] at zfi
  rw [ese] at zse
  obtain ⟨m, hm⟩ := Int.eq_ofNat_of_zero_le b2.1
  by_cases hf : fi = -1
  · refine AW.iload dL_isStep_127 rfl ?_
    refine AW.if_neT (tgt := 320) dL_isStep_129 rfl (by omega) ?_
    refine AW.iload dL_isStep_320 rfl ?_
    refine AW.iconst dL_isStep_322 (by decide) ?_
    refine AW.icmp_neF (tgt := 478) dL_isStep_323 rfl (by omega) ?_
    refine AW.iload dL_isStep_326 rfl ?_
    refine AW.if_geF (tgt := 337) dL_isStep_328 rfl (by omega) ?_
    refine AW.sipush dL_isStep_331 sp_m300 (by decide) ?_
    refine AW.goto (tgt := 366) dL_isStep_334 rfl ?_
    refine AW.istore dL_isStep_366 rfl ?_
    refine AW.iload dL_isStep_368 rfl ?_
    refine AW.if_ltT (tgt := 455) dL_isStep_370 rfl (by omega) ?_
    refine AW.aload_n dL_isStep_455 rfl ?_
    refine AW.iconst dL_isStep_456 (by decide) ?_
    refine AW.iconst dL_isStep_457 (by decide) ?_
    refine AW.iload dL_isStep_458 rfl ?_
    refine AW.iload dL_isStep_460 rfl ?_
    refine AW.iconst dL_isStep_462 (by decide) ?_
    refine AW.iconst dL_isStep_463 (by decide) ?_
    refine AW.callSH (as := [vq _, vi _, vi _, vi _, vi _, vi _, vi _]) dL_isStep_464 rfl rfl rfl okL_does lkL_149 rfl rfl rfl (by omega) (by omega) rfl (q_ren J (fun _ => (AW.k1 ?_)) (fun z => absurd (efi.trans hf) z) (fun z => absurd (efi.trans hf) z) (fun z => absurd (efi.trans hf) z))
    refine AW.iload dL_isStep_467 rfl ?_
    refine AW.icmp_neF (tgt := 476) dL_isStep_469 rfl (by rfl) ?_
    refine AW.iconst dL_isStep_472 (by decide) ?_
    refine AW.pcs (pc2 := 473) rfl ?_
    refine AW.goto (tgt := 477) dL_isStep_473 rfl ?_
    refine AW.zret dL_isStep_477 rfl ?_ ?_
    · omega
    exact k _ _ J V
  have hf' : ¬ zfind Z 0 (Z 1 0) nm = -1 := by rw [efi]; exact hf
  by_cases ho : ot = 26
  · have hO : ¬ (0 ≤ ot ∧ ot ≤ 25) := by omega
    refine AW.iload dL_isStep_127 rfl ?_
    refine AW.if_neT (tgt := 320) dL_isStep_129 rfl (by omega) ?_
    refine AW.iload dL_isStep_320 rfl ?_
    refine AW.iconst dL_isStep_322 (by decide) ?_
    refine AW.icmp_neF (tgt := 478) dL_isStep_323 rfl (by omega) ?_
    refine AW.iload dL_isStep_326 rfl ?_
    refine AW.if_geT (tgt := 337) dL_isStep_328 rfl (by omega) ?_
    refine AW.iload dL_isStep_337 rfl ?_
    refine AW.bipush dL_isStep_339 bp_26 (by decide) ?_
    refine AW.icmp_neF (tgt := 350) dL_isStep_341 rfl (by omega) ?_
    refine AW.sipush dL_isStep_344 sp_m200 (by decide) ?_
    refine AW.goto (tgt := 366) dL_isStep_347 rfl ?_
    refine AW.istore dL_isStep_366 rfl ?_
    refine AW.iload dL_isStep_368 rfl ?_
    refine AW.if_ltT (tgt := 455) dL_isStep_370 rfl (by omega) ?_
    refine AW.aload_n dL_isStep_455 rfl ?_
    refine AW.iconst dL_isStep_456 (by decide) ?_
    refine AW.iconst dL_isStep_457 (by decide) ?_
    refine AW.iload dL_isStep_458 rfl ?_
    refine AW.iload dL_isStep_460 rfl ?_
    refine AW.iconst dL_isStep_462 (by decide) ?_
    refine AW.iconst dL_isStep_463 (by decide) ?_
    refine AW.callSH (as := [vq _, vi _, vi _, vi _, vi _, vi _, vi _]) dL_isStep_464 rfl rfl rfl okL_does lkL_149 rfl rfl rfl (by omega) (by omega) rfl (q_ren J (fun z => absurd z hf') (fun _ _ => (AW.k1 ?_)) (fun _ z => absurd z hO) (fun _ z => absurd z hO))
    refine AW.pcs (pc2 := 467) rfl ?_
    refine AW.iload dL_isStep_467 rfl ?_
    refine AW.icmp_neF (tgt := 476) dL_isStep_469 rfl (by rfl) ?_
    refine AW.iconst dL_isStep_472 (by decide) ?_
    refine AW.goto (tgt := 477) dL_isStep_473 rfl ?_
    refine AW.zret dL_isStep_477 rfl ?_ ?_
    · omega
    exact k _ _ J V
  have hO : 0 ≤ ot ∧ ot ≤ 25 := by omega
  by_cases hs : se = -1
  · obtain ⟨f0, e0⟩ := Int.eq_ofNat_of_zero_le (show 0 ≤ fi by omega)
    subst e0
    have hp : ¬ Z 5 (48 * a + f0) = -1 := by
      have q := zf_x (Z := Z) (a := a) (n := nm) (by rw [← hv]; exact hf')
      rw [← hv, efi, Int.toNat_natCast] at q
      omega
    have eN := (zdg_n K (a := a) (f := f0) (by omega) (by omega)).2
    by_cases e6 : Z 6 (48 * a + f0) = 0
    · have eB : bz (31 < zdg Z (a + 1 - 1) f0) = 0 := bz_0.mpr (fun z => (eN.mp z).2 e6)
      have eS : (0 : Int) = if Z 6 (48 * a + f0) = 0 then 0 else 32 := by rw [if_pos e6]
      refine AW.iload dL_isStep_127 rfl ?_
      refine AW.if_neT (tgt := 320) dL_isStep_129 rfl (by omega) ?_
      refine AW.iload dL_isStep_320 rfl ?_
      refine AW.iconst dL_isStep_322 (by decide) ?_
      refine AW.icmp_neF (tgt := 478) dL_isStep_323 rfl (by omega) ?_
      refine AW.iload dL_isStep_326 rfl ?_
      refine AW.if_geT (tgt := 337) dL_isStep_328 rfl (by omega) ?_
      refine AW.iload dL_isStep_337 rfl ?_
      refine AW.bipush dL_isStep_339 bp_26 (by decide) ?_
      refine AW.icmp_neT (tgt := 350) dL_isStep_341 rfl (by omega) ?_
      refine AW.iload dL_isStep_350 rfl ?_
      refine AW.if_ltT (tgt := 360) dL_isStep_352 rfl (by omega) ?_
      refine AW.aload dL_isStep_360 rfl ?_
      refine AW.iconst dL_isStep_362 (by decide) ?_
      refine AW.aldIE dL_isStep_363 J.T.a4 (by omega) (by omega) (by exact V.s.g0.trans hv) ?_
      refine AW.iconst dL_isStep_364 (by decide) ?_
      refine AW.iaddB dL_isStep_365 (by omega) ?_
      refine AW.istore dL_isStep_366 rfl ?_
      refine AW.iload dL_isStep_368 rfl ?_
      refine AW.if_ltF (tgt := 455) dL_isStep_370 rfl (by omega) ?_
      refine AW.aload_n dL_isStep_373 rfl ?_
      refine AW.aload_n dL_isStep_374 rfl ?_
      refine AW.aload dL_isStep_375 rfl ?_
      refine AW.pcs (pc2 := 377) rfl ?_
      refine AW.iconst dL_isStep_377 (by decide) ?_
      refine AW.iload dL_isStep_378 rfl ?_
      refine AW.iconst dL_isStep_380 (by decide) ?_
      refine AW.iconst dL_isStep_381 (by decide) ?_
      refine AW.callS (as := [vq _, vq _, vq _, vi _, vi _, vi _, vi _]) dL_isStep_382 rfl rfl rfl okL_begins lkL_141 rfl rfl rfl (leb (by omega)) (leb (by omega)) rfl (kL_begins (K := fun _ => 0) (d := a + 1) J.T V.s (by omega) (by omega) (by omega) (by omega) (by omega) (by omega) (by omega) (fun g1 F1 C1 => (AW.k0 ?_)))
      have T1 := F1.1.T J.T
      refine AW.aload_n dL_isStep_385 rfl ?_
      refine AW.aload dL_isStep_386 rfl ?_
      refine AW.iconst dL_isStep_388 (by decide) ?_
      refine AW.aldIE dL_isStep_389 T1.a4 (by omega) (by omega) (by exact C1.g0) ?_
      refine AW.iload dL_isStep_390 rfl ?_
      refine AW.callS (as := [vq _, vi _, vi _]) dL_isStep_392 rfl rfl rfl okL_isNeeded lkL_103 rfl rfl rfl (leb (by omega)) (leb (by omega)) rfl (kL_isNeeded (a := a + 1) T1 (by omega) (by omega) (AW.k1 ?_))
      refine AW.top (y := 0) ((congrArg (fun x => bz (31 < x)) (C1.2.2.1 f0 (by omega))).trans eB) ?_
      refine AW.if_eqT (tgt := 404) dL_isStep_395 rfl (by decide) ?_
      refine AW.lconstI 0 dL_isStep_404 (by decide) ?_
      refine AW.lstore dL_isStep_405 rfl ?_
      refine AW.aload_n dL_isStep_407 rfl ?_
      refine AW.aload dL_isStep_408 rfl ?_
      refine AW.iload dL_isStep_410 rfl ?_
      refine AW.callS (as := [vq _, vq _, vi _]) dL_isStep_412 rfl rfl rfl okL_goes lkL_155 rfl rfl rfl (leb (by omega)) (leb (by omega)) rfl (kL_goes T1 C1 (by omega) (by omega) (fun g2 F2 C2 => (AW.k0 ?_)))
      have T2 := F2.1.T T1
      refine AW.aload_n dL_isStep_415 rfl ?_
      refine AW.aload dL_isStep_416 rfl ?_
      refine AW.iconst dL_isStep_418 (by decide) ?_
      refine AW.aldIE dL_isStep_419 T2.a4 (by omega) (by omega) (by exact C2.g0) ?_
      refine AW.dup2 dL_isStep_420 rfl rfl ?_
      refine AW.aldLE dL_isStep_421 T2.a1 (by omega) (by omega) (by (repeat first | apply hI_n1 rfl | apply hI_n3 rfl | apply hI_e (by omega) | apply hI_m (by omega)); exact rfl) ?_
      refine AW.pcs (pc2 := 422) rfl ?_
      refine AW.iload dL_isStep_422 rfl ?_
      refine AW.i2l dL_isStep_424 ?_
      refine AW.lconstI 1 dL_isStep_425 (by decide) ?_
      refine AW.laddI dL_isStep_426 ?_
      refine AW.lload dL_isStep_427 rfl ?_
      refine AW.laddI dL_isStep_429 ?_
      refine AW.bipush dL_isStep_430 bp_6 (by decide) ?_
      refine AW.iload dL_isStep_432 rfl ?_
      refine AW.imulB dL_isStep_434 (by omega) ?_
      refine AW.lshl dL_isStep_435 (by omega) ?_
      refine AW.lor dL_isStep_436 ?_
      refine AW.astL dL_isStep_437 T2.a1 (by omega) (by omega) ?_
      rw [Int.toNat_natCast]
      refine AW.gen (P := fun g => FG h g ∧ LC g Z (a + 1) (fun i => if i = f0 then ot + 1 + 0 else if i = f0 then 0 else zdg Z (a + 1 - 1) i) (1 + 8 * ((f0 : Int) + 1 + 16 * (-1 + 1)) + 524288 * 0) (Z 2 0) (fun _ => 0)) ⟨(F1.tr F2).w1, C2.dig (fun i hi => (stt_or (x := hL g2 (la 1) (a + 1)) ((C2.2.2.1 f0 (by omega)).trans (if_pos rfl)) (by omega) (by omega) hi).trans (by rw [C2.2.2.1 i hi]))⟩ (fun g3 ⟨F3, C3⟩ => ?_)
      have T3 := F3.1.T J.T
      refine AW.aload_n dL_isStep_438 rfl ?_
      refine AW.aload dL_isStep_439 rfl ?_
      refine AW.iconst dL_isStep_441 (by decide) ?_
      refine AW.aldIE dL_isStep_442 T3.a4 (by omega) (by omega) (by exact C3.g0) ?_
      refine AW.dup2 dL_isStep_443 rfl rfl ?_
      refine AW.aldIE dL_isStep_444 T3.a2 (by omega) (by omega) (by exact hIx (by omega) C3.w) ?_
      refine AW.sipush dL_isStep_445 sp_2048 (by decide) ?_
      refine AW.iload dL_isStep_448 rfl ?_
      refine AW.iconst dL_isStep_450 (by decide) ?_
      refine AW.iaddB dL_isStep_451 (by omega) ?_
      refine AW.imulB dL_isStep_452 (by omega) ?_
      refine AW.iaddB dL_isStep_453 (by omega) ?_
      refine AW.pcs (pc2 := 454) rfl ?_
      refine AW.astI dL_isStep_454 T3.a2 (by omega) (by omega) ?_
      rw [Int.toNat_natCast]
      refine AW.gen (P := fun g => FG h g ∧ LC g Z (a + 1) (fun i => if i = f0 then ot + 1 + 0 else if i = f0 then 0 else zdg Z (a + 1 - 1) i) (1 + 8 * ((f0 : Int) + 1 + 16 * (-1 + 1)) + 524288 * 0 + 2048 * ((f0 : Int) + 1)) (Z 2 0) (fun _ => 0)) ⟨F3.w2, C3.wrd⟩ (fun g4 ⟨F4, C4⟩ => ?_)
      refine AW.aload_n dL_isStep_455 rfl ?_
      refine AW.iconst dL_isStep_456 (by decide) ?_
      refine AW.iconst dL_isStep_457 (by decide) ?_
      refine AW.iload dL_isStep_458 rfl ?_
      refine AW.iload dL_isStep_460 rfl ?_
      refine AW.iconst dL_isStep_462 (by decide) ?_
      refine AW.iconst dL_isStep_463 (by decide) ?_
      refine AW.callSH (as := [vq _, vi _, vi _, vi _, vi _, vi _, vi _]) dL_isStep_464 rfl rfl rfl okL_does lkL_149 rfl rfl rfl (by omega) (by omega) rfl (q_ren (J.fl F4.1) (fun z => absurd z hf') (fun _ z => absurd hO z) (fun _ _ z => absurd (ese.trans hs) z) (fun _ _ _ g5 S5 I5 Fr5 => (AW.k1 ?_)))
      refine AW.iload dL_isStep_467 rfl ?_
      refine AW.icmp_neF (tgt := 476) dL_isStep_469 rfl (by rw [hv]) ?_
      refine AW.iconst dL_isStep_472 (by decide) ?_
      refine AW.goto (tgt := 477) dL_isStep_473 rfl ?_
      refine AW.zret dL_isStep_477 rfl ?_ ?_
      · omega
      have q := g_ren J V F4 hv ha (by omega) efi (by omega) hp hO.1 C4 (fun i hi => by rw [← eS]; show (if i = f0 then ot + 1 + 0 else if i = f0 then 0 else zdg Z a i) = _; by_cases ei : i = f0; (rw [if_pos ei, if_pos ei]); (rw [if_neg ei, if_neg ei, if_neg ei])) (by omega) S5 I5 Fr5
      exact k _ _ q.1 q.2
    · have eB : bz (31 < zdg Z (a + 1 - 1) f0) = 1 := bz_1.mpr (eN.mpr ⟨hp, e6⟩)
      have eS : (32 : Int) = if Z 6 (48 * a + f0) = 0 then 0 else 32 := by rw [if_neg e6]
      refine AW.iload dL_isStep_127 rfl ?_
      refine AW.if_neT (tgt := 320) dL_isStep_129 rfl (by omega) ?_
      refine AW.iload dL_isStep_320 rfl ?_
      refine AW.iconst dL_isStep_322 (by decide) ?_
      refine AW.icmp_neF (tgt := 478) dL_isStep_323 rfl (by omega) ?_
      refine AW.iload dL_isStep_326 rfl ?_
      refine AW.if_geT (tgt := 337) dL_isStep_328 rfl (by omega) ?_
      refine AW.iload dL_isStep_337 rfl ?_
      refine AW.bipush dL_isStep_339 bp_26 (by decide) ?_
      refine AW.icmp_neT (tgt := 350) dL_isStep_341 rfl (by omega) ?_
      refine AW.iload dL_isStep_350 rfl ?_
      refine AW.if_ltT (tgt := 360) dL_isStep_352 rfl (by omega) ?_
      refine AW.aload dL_isStep_360 rfl ?_
      refine AW.iconst dL_isStep_362 (by decide) ?_
      refine AW.aldIE dL_isStep_363 J.T.a4 (by omega) (by omega) (by exact V.s.g0.trans hv) ?_
      refine AW.iconst dL_isStep_364 (by decide) ?_
      refine AW.iaddB dL_isStep_365 (by omega) ?_
      refine AW.istore dL_isStep_366 rfl ?_
      refine AW.iload dL_isStep_368 rfl ?_
      refine AW.if_ltF (tgt := 455) dL_isStep_370 rfl (by omega) ?_
      refine AW.aload_n dL_isStep_373 rfl ?_
      refine AW.aload_n dL_isStep_374 rfl ?_
      refine AW.aload dL_isStep_375 rfl ?_
      refine AW.pcs (pc2 := 377) rfl ?_
      refine AW.iconst dL_isStep_377 (by decide) ?_
      refine AW.iload dL_isStep_378 rfl ?_
      refine AW.iconst dL_isStep_380 (by decide) ?_
      refine AW.iconst dL_isStep_381 (by decide) ?_
      refine AW.callS (as := [vq _, vq _, vq _, vi _, vi _, vi _, vi _]) dL_isStep_382 rfl rfl rfl okL_begins lkL_141 rfl rfl rfl (leb (by omega)) (leb (by omega)) rfl (kL_begins (K := fun _ => 0) (d := a + 1) J.T V.s (by omega) (by omega) (by omega) (by omega) (by omega) (by omega) (by omega) (fun g1 F1 C1 => (AW.k0 ?_)))
      have T1 := F1.1.T J.T
      refine AW.aload_n dL_isStep_385 rfl ?_
      refine AW.aload dL_isStep_386 rfl ?_
      refine AW.iconst dL_isStep_388 (by decide) ?_
      refine AW.aldIE dL_isStep_389 T1.a4 (by omega) (by omega) (by exact C1.g0) ?_
      refine AW.iload dL_isStep_390 rfl ?_
      refine AW.callS (as := [vq _, vi _, vi _]) dL_isStep_392 rfl rfl rfl okL_isNeeded lkL_103 rfl rfl rfl (leb (by omega)) (leb (by omega)) rfl (kL_isNeeded (a := a + 1) T1 (by omega) (by omega) (AW.k1 ?_))
      refine AW.top (y := 1) ((congrArg (fun x => bz (31 < x)) (C1.2.2.1 f0 (by omega))).trans eB) ?_
      refine AW.if_eqF (tgt := 404) dL_isStep_395 rfl (by decide) ?_
      refine AW.ldc2I (32) dL_isStep_398 lkL_153 (by decide) ?_
      refine AW.goto (tgt := 405) dL_isStep_401 rfl ?_
      refine AW.lstore dL_isStep_405 rfl ?_
      refine AW.aload_n dL_isStep_407 rfl ?_
      refine AW.aload dL_isStep_408 rfl ?_
      refine AW.iload dL_isStep_410 rfl ?_
      refine AW.callS (as := [vq _, vq _, vi _]) dL_isStep_412 rfl rfl rfl okL_goes lkL_155 rfl rfl rfl (leb (by omega)) (leb (by omega)) rfl (kL_goes T1 C1 (by omega) (by omega) (fun g2 F2 C2 => (AW.k0 ?_)))
      have T2 := F2.1.T T1
      refine AW.aload_n dL_isStep_415 rfl ?_
      refine AW.aload dL_isStep_416 rfl ?_
      refine AW.iconst dL_isStep_418 (by decide) ?_
      refine AW.aldIE dL_isStep_419 T2.a4 (by omega) (by omega) (by exact C2.g0) ?_
      refine AW.dup2 dL_isStep_420 rfl rfl ?_
      refine AW.pcs (pc2 := 421) rfl ?_
      refine AW.aldLE dL_isStep_421 T2.a1 (by omega) (by omega) (by (repeat first | apply hI_n1 rfl | apply hI_n3 rfl | apply hI_e (by omega) | apply hI_m (by omega)); exact rfl) ?_
      refine AW.iload dL_isStep_422 rfl ?_
      refine AW.i2l dL_isStep_424 ?_
      refine AW.lconstI 1 dL_isStep_425 (by decide) ?_
      refine AW.laddI dL_isStep_426 ?_
      refine AW.lload dL_isStep_427 rfl ?_
      refine AW.laddI dL_isStep_429 ?_
      refine AW.bipush dL_isStep_430 bp_6 (by decide) ?_
      refine AW.iload dL_isStep_432 rfl ?_
      refine AW.imulB dL_isStep_434 (by omega) ?_
      refine AW.lshl dL_isStep_435 (by omega) ?_
      refine AW.lor dL_isStep_436 ?_
      refine AW.astL dL_isStep_437 T2.a1 (by omega) (by omega) ?_
      rw [Int.toNat_natCast]
      refine AW.gen (P := fun g => FG h g ∧ LC g Z (a + 1) (fun i => if i = f0 then ot + 1 + 32 else if i = f0 then 0 else zdg Z (a + 1 - 1) i) (1 + 8 * ((f0 : Int) + 1 + 16 * (-1 + 1)) + 524288 * 0) (Z 2 0) (fun _ => 0)) ⟨(F1.tr F2).w1, C2.dig (fun i hi => (stt_or (x := hL g2 (la 1) (a + 1)) ((C2.2.2.1 f0 (by omega)).trans (if_pos rfl)) (by omega) (by omega) hi).trans (by rw [C2.2.2.1 i hi]))⟩ (fun g3 ⟨F3, C3⟩ => ?_)
      have T3 := F3.1.T J.T
      refine AW.aload_n dL_isStep_438 rfl ?_
      refine AW.aload dL_isStep_439 rfl ?_
      refine AW.iconst dL_isStep_441 (by decide) ?_
      refine AW.aldIE dL_isStep_442 T3.a4 (by omega) (by omega) (by exact C3.g0) ?_
      refine AW.dup2 dL_isStep_443 rfl rfl ?_
      refine AW.aldIE dL_isStep_444 T3.a2 (by omega) (by omega) (by exact hIx (by omega) C3.w) ?_
      refine AW.sipush dL_isStep_445 sp_2048 (by decide) ?_
      refine AW.iload dL_isStep_448 rfl ?_
      refine AW.iconst dL_isStep_450 (by decide) ?_
      refine AW.iaddB dL_isStep_451 (by omega) ?_
      refine AW.imulB dL_isStep_452 (by omega) ?_
      refine AW.pcs (pc2 := 453) rfl ?_
      refine AW.iaddB dL_isStep_453 (by omega) ?_
      refine AW.astI dL_isStep_454 T3.a2 (by omega) (by omega) ?_
      rw [Int.toNat_natCast]
      refine AW.gen (P := fun g => FG h g ∧ LC g Z (a + 1) (fun i => if i = f0 then ot + 1 + 32 else if i = f0 then 0 else zdg Z (a + 1 - 1) i) (1 + 8 * ((f0 : Int) + 1 + 16 * (-1 + 1)) + 524288 * 0 + 2048 * ((f0 : Int) + 1)) (Z 2 0) (fun _ => 0)) ⟨F3.w2, C3.wrd⟩ (fun g4 ⟨F4, C4⟩ => ?_)
      refine AW.aload_n dL_isStep_455 rfl ?_
      refine AW.iconst dL_isStep_456 (by decide) ?_
      refine AW.iconst dL_isStep_457 (by decide) ?_
      refine AW.iload dL_isStep_458 rfl ?_
      refine AW.iload dL_isStep_460 rfl ?_
      refine AW.iconst dL_isStep_462 (by decide) ?_
      refine AW.iconst dL_isStep_463 (by decide) ?_
      refine AW.callSH (as := [vq _, vi _, vi _, vi _, vi _, vi _, vi _]) dL_isStep_464 rfl rfl rfl okL_does lkL_149 rfl rfl rfl (by omega) (by omega) rfl (q_ren (J.fl F4.1) (fun z => absurd z hf') (fun _ z => absurd hO z) (fun _ _ z => absurd (ese.trans hs) z) (fun _ _ _ g5 S5 I5 Fr5 => (AW.k1 ?_)))
      refine AW.iload dL_isStep_467 rfl ?_
      refine AW.icmp_neF (tgt := 476) dL_isStep_469 rfl (by rw [hv]) ?_
      refine AW.iconst dL_isStep_472 (by decide) ?_
      refine AW.goto (tgt := 477) dL_isStep_473 rfl ?_
      refine AW.zret dL_isStep_477 rfl ?_ ?_
      · omega
      have q := g_ren J V F4 hv ha (by omega) efi (by omega) hp hO.1 C4 (fun i hi => by rw [← eS]; show (if i = f0 then ot + 1 + 32 else if i = f0 then 0 else zdg Z a i) = _; by_cases ei : i = f0; (rw [if_pos ei, if_pos ei]); (rw [if_neg ei, if_neg ei, if_neg ei])) (by omega) S5 I5 Fr5
      exact k _ _ q.1 q.2
  · refine AW.iload dL_isStep_127 rfl ?_
    refine AW.if_neT (tgt := 320) dL_isStep_129 rfl (by omega) ?_
    refine AW.iload dL_isStep_320 rfl ?_
    refine AW.iconst dL_isStep_322 (by decide) ?_
    refine AW.icmp_neF (tgt := 478) dL_isStep_323 rfl (by omega) ?_
    refine AW.iload dL_isStep_326 rfl ?_
    refine AW.if_geT (tgt := 337) dL_isStep_328 rfl (by omega) ?_
    refine AW.iload dL_isStep_337 rfl ?_
    refine AW.bipush dL_isStep_339 bp_26 (by decide) ?_
    refine AW.icmp_neT (tgt := 350) dL_isStep_341 rfl (by omega) ?_
    refine AW.iload dL_isStep_350 rfl ?_
    refine AW.if_ltF (tgt := 360) dL_isStep_352 rfl (by omega) ?_
    refine AW.bipush dL_isStep_355 bp_m100 (by decide) ?_
    refine AW.goto (tgt := 366) dL_isStep_357 rfl ?_
    refine AW.istore dL_isStep_366 rfl ?_
    refine AW.iload dL_isStep_368 rfl ?_
    refine AW.if_ltT (tgt := 455) dL_isStep_370 rfl (by omega) ?_
    refine AW.aload_n dL_isStep_455 rfl ?_
    refine AW.iconst dL_isStep_456 (by decide) ?_
    refine AW.iconst dL_isStep_457 (by decide) ?_
    refine AW.iload dL_isStep_458 rfl ?_
    refine AW.iload dL_isStep_460 rfl ?_
    refine AW.iconst dL_isStep_462 (by decide) ?_
    refine AW.pcs (pc2 := 463) rfl ?_
    refine AW.iconst dL_isStep_463 (by decide) ?_
    refine AW.callSH (as := [vq _, vi _, vi _, vi _, vi _, vi _, vi _]) dL_isStep_464 rfl rfl rfl okL_does lkL_149 rfl rfl rfl (by omega) (by omega) rfl (q_ren J (fun z => absurd z hf') (fun _ z => absurd hO z) (fun _ _ _ => (AW.k1 ?_)) (fun _ _ z => absurd (ese.symm.trans z) hs))
    refine AW.iload dL_isStep_467 rfl ?_
    refine AW.icmp_neF (tgt := 476) dL_isStep_469 rfl (by rfl) ?_
    refine AW.iconst dL_isStep_472 (by decide) ?_
    refine AW.goto (tgt := 477) dL_isStep_473 rfl ?_
    refine AW.zret dL_isStep_477 rfl ?_ ?_
    · omega
    exact k _ _ J V
end D4
