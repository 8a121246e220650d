/-! ===== the law: its loop, its end ===== -/
section I2
abbrev mL_law : MI := (yL_law, cL_law, 15, some .boolean, [])
abbrev fL_law : Nat := room_1.frames
abbrev loL_law : Nat := room_1.locals
abbrev lla : AL := [(0, vr nS), (1, vr mF), (2, vr (la 1)), (3, vr (la 2)), (4, vr (la 3)), (5, vr (la 4)), (6, vr (la 5)), (7, vr (la 6)), (8, vr (la 7)), (9, vr (la 8)), (10, vr (la 9)), (11, vr (la 10)), (12, vr (la 11))]
variable {Q : AH → AO → Prop} {h g : AH} {Z Y : ZT} {c b L : Nat} {mc ms bc bs : Nat}
set_option maxHeartbeats 2000000 in
/-- what is asked at the end -/
theorem law_end (J : IV L h Z c b) (V : JV h Z) (hc : c < 512) (k : ∀ g, Q g (.inl (some (vi 1)))) : AW mL_law fL_law loL_law mc ms Q 100 1000 224 h ((13, vi 1) :: lla) [] := by
  have K := J.K
  have v2 := V.b2
  have v3 := V.b3
  have b1 := K.b1
  have z20 : zinR Z 20 0 = -1 := by unfold zinR; rw [if_neg (by omega)]
  refine AW.iload dL_law_224 rfl ?_
  refine AW.if_eqF (tgt := 369) dL_law_226 rfl (by omega) ?_
  refine AW.aload_n dL_law_229 rfl ?_
  refine AW.iconst dL_law_230 (by decide) ?_
  refine AW.iconst dL_law_231 (by decide) ?_
  refine AW.bipush dL_law_232 bp_26 (by decide) ?_
  refine AW.iconst dL_law_234 (by decide) ?_
  refine AW.iconst dL_law_235 (by decide) ?_
  refine AW.iconst dL_law_236 (by decide) ?_
  refine AW.callSH (as := [vq _, vi _, vi _, vi _, vi _, vi _, vi _]) dL_law_237 rfl rfl rfl okL_does lkL_149 rfl rfl rfl (by omega) (by omega) rfl (q_addX J (by omega) (Or.inl rfl) (AW.k1 ?_))
  refine AW.sipush dL_law_240 sp_m300 (by decide) ?_
  refine AW.icmp_neF (tgt := 369) dL_law_243 rfl (by rfl) ?_
  refine AW.aload_n dL_law_246 rfl ?_
  refine AW.iconst dL_law_247 (by decide) ?_
  refine AW.iconst dL_law_248 (by decide) ?_
  refine AW.iconst dL_law_249 (by decide) ?_
  refine AW.iconst dL_law_250 (by decide) ?_
  refine AW.iconst dL_law_251 (by decide) ?_
  refine AW.iconst dL_law_252 (by decide) ?_
  refine AW.callSH (as := [vq _, vi _, vi _, vi _, vi _, vi _, vi _]) dL_law_253 rfl rfl rfl okL_does lkL_149 rfl rfl rfl (by omega) (by omega) rfl (q_renX J (by omega) (AW.k1 ?_))
  refine AW.sipush dL_law_256 sp_m300 (by decide) ?_
  refine AW.icmp_neF (tgt := 369) dL_law_259 rfl (by rfl) ?_
  refine AW.aload_n dL_law_262 rfl ?_
  refine AW.pcs (pc2 := 263) rfl ?_
  refine AW.iconst dL_law_263 (by decide) ?_
  refine AW.iconst dL_law_264 (by decide) ?_
  refine AW.bipush dL_law_265 bp_26 (by decide) ?_
  refine AW.iconst dL_law_267 (by decide) ?_
  refine AW.iconst dL_law_268 (by decide) ?_
  refine AW.iconst dL_law_269 (by decide) ?_
  refine AW.callSH (as := [vq _, vi _, vi _, vi _, vi _, vi _, vi _]) dL_law_270 rfl rfl rfl okL_does lkL_149 rfl rfl rfl (by omega) (by omega) rfl (q_spl J (fun _ => (AW.k1 ?_)) (fun z => absurd (zf_26 K) z) (fun z => absurd (zf_26 K) z) (fun z => absurd (zf_26 K) z))
  refine AW.sipush dL_law_273 sp_m300 (by decide) ?_
  refine AW.icmp_neF (tgt := 369) dL_law_276 rfl (by rfl) ?_
  refine AW.aload_n dL_law_279 rfl ?_
  refine AW.iconst dL_law_280 (by decide) ?_
  refine AW.iconst dL_law_281 (by decide) ?_
  refine AW.iconst dL_law_282 (by decide) ?_
  refine AW.iconst dL_law_283 (by decide) ?_
  refine AW.iconst dL_law_284 (by decide) ?_
  refine AW.iconst dL_law_285 (by decide) ?_
  refine AW.callSH (as := [vq _, vi _, vi _, vi _, vi _, vi _, vi _]) dL_law_286 rfl rfl rfl okL_does lkL_149 rfl rfl rfl (by omega) (by omega) rfl (q_droX J (by omega) (AW.k1 ?_))
  refine AW.sipush dL_law_289 sp_m300 (by decide) ?_
  refine AW.icmp_neF (tgt := 369) dL_law_292 rfl (by rfl) ?_
  refine AW.aload_n dL_law_295 rfl ?_
  refine AW.bipush dL_law_296 bp_7 (by decide) ?_
  refine AW.iconst dL_law_298 (by decide) ?_
  refine AW.iconst dL_law_299 (by decide) ?_
  refine AW.iconst dL_law_300 (by decide) ?_
  refine AW.pcs (pc2 := 301) rfl ?_
  refine AW.iconst dL_law_301 (by decide) ?_
  refine AW.iconst dL_law_302 (by decide) ?_
  refine AW.callSH (as := [vq _, vi _, vi _, vi _, vi _, vi _, vi _]) dL_law_303 rfl rfl rfl okL_does lkL_149 rfl rfl rfl (by omega) (by omega) rfl (q_row J V hc (fun _ => (AW.k1 ?_)) (fun z => absurd z.1 (by decide)))
  refine AW.sipush dL_law_306 sp_m300 (by decide) ?_
  refine AW.icmp_neF (tgt := 369) dL_law_309 rfl (by rfl) ?_
  refine AW.aload_n dL_law_312 rfl ?_
  refine AW.bipush dL_law_313 bp_8 (by decide) ?_
  refine AW.bipush dL_law_315 bp_20 (by decide) ?_
  refine AW.iconst dL_law_317 (by decide) ?_
  refine AW.iconst dL_law_318 (by decide) ?_
  refine AW.iconst dL_law_319 (by decide) ?_
  refine AW.iconst dL_law_320 (by decide) ?_
  refine AW.callSH (as := [vq _, vi _, vi _, vi _, vi _, vi _, vi _]) dL_law_321 rfl rfl rfl okL_does lkL_149 rfl rfl rfl (by omega) (by omega) rfl (q_set J hc (fun _ => (AW.k1 ?_)) (fun z => absurd z20 z) (fun z => absurd z20 z))
  refine AW.sipush dL_law_324 sp_m300 (by decide) ?_
  refine AW.icmp_neF (tgt := 369) dL_law_327 rfl (by rfl) ?_
  refine AW.aload_n dL_law_330 rfl ?_
  refine AW.bipush dL_law_331 bp_9 (by decide) ?_
  refine AW.iconst dL_law_333 (by decide) ?_
  refine AW.iconst dL_law_334 (by decide) ?_
  refine AW.iconst dL_law_335 (by decide) ?_
  refine AW.iconst dL_law_336 (by decide) ?_
  refine AW.iconst dL_law_337 (by decide) ?_
  refine AW.callSH (as := [vq _, vi _, vi _, vi _, vi _, vi _, vi _]) dL_law_338 rfl rfl rfl okL_does lkL_149 rfl rfl rfl (by omega) (by omega) rfl (q_movX J (by omega) (AW.k1 ?_))
  refine AW.sipush dL_law_341 sp_m300 (by decide) ?_
  refine AW.pcs (pc2 := 344) rfl ?_
  refine AW.icmp_neF (tgt := 369) dL_law_344 rfl (by rfl) ?_
  refine AW.aload_n dL_law_347 rfl ?_
  refine AW.bipush dL_law_348 bp_11 (by decide) ?_
  refine AW.bipush dL_law_350 bp_8 (by decide) ?_
  refine AW.iconst dL_law_352 (by decide) ?_
  refine AW.iconst dL_law_353 (by decide) ?_
  refine AW.iconst dL_law_354 (by decide) ?_
  refine AW.iconst dL_law_355 (by decide) ?_
  refine AW.callSH (as := [vq _, vi _, vi _, vi _, vi _, vi _, vi _]) dL_law_356 rfl rfl rfl okL_does lkL_149 rfl rfl rfl (by omega) (by omega) rfl (q_und J (by omega) (fun _ => (AW.k1 ?_)) (fun z => absurd z.2 (by omega)) (fun z => absurd z.2 (by omega)))
  refine AW.sipush dL_law_359 sp_m300 (by decide) ?_
  refine AW.icmp_neF (tgt := 369) dL_law_362 rfl (by rfl) ?_
  refine AW.iconst dL_law_365 (by decide) ?_
  refine AW.goto (tgt := 370) dL_law_366 rfl ?_
  refine AW.zret dL_law_370 rfl ?_ ?_
  · omega
  exact k _
set_option maxHeartbeats 2000000 in
theorem law_lp (hL9 : L < 2147483648) (k : ∀ (h : AH) (Z : ZT) (c b : Nat), c ≤ 58 → IV L h Z c b → JV h Z → AW mL_law fL_law loL_law mc ms Q bc bs 224 h ((13, vi 1) :: lla) []) : ∀ (n i c b : Nat) (h : AH) (Z : ZT), i ≤ 58 → 58 ≤ i + n → c ≤ i → IV L h Z c b → JV h Z → AW mL_law fL_law loL_law mc ms Q (bc + 560 * n) (bs + 3900 * n) 101 h ((14, vi (i : Int)) :: (13, vi 1) :: lla) [] := by
  intro n
  induction n with
  | zero =>
    intro i c b h Z h1 h2 h3 J V
    have e : i = 58 := by omega
    subst e
    refine AW.iload dL_law_101 rfl ?_
    refine AW.bipush dL_law_103 bp_58 (by decide) ?_
    refine AW.icmp_geT (tgt := 224) dL_law_105 rfl (by omega) ?_
    exact AW.locs ((13, vi 1) :: lla) ⟨rfl, rfl, rfl, rfl, rfl, rfl, rfl, rfl, rfl, rfl, rfl, rfl, rfl, rfl, trivial⟩ (k h Z c b h3 J V)
  | succ n ih =>
    intro i c b h Z h1 h2 h3 J V
    by_cases e : i = 58
    · exact AW.less (by omega) (by omega) (ih i c b h Z h1 (by omega) h3 J V)
    have hc : c < 512 := by omega
    have b1 := J.K.b1
    refine AW.iload dL_law_101 rfl ?_
    refine AW.bipush dL_law_103 bp_58 (by decide) ?_
    refine AW.icmp_geF (tgt := 224) dL_law_105 rfl (by omega) ?_
    refine AW.iload dL_law_108 rfl ?_
    refine AW.if_eqF (tgt := 224) dL_law_110 rfl (by decide) ?_
    refine AW.aload_n dL_law_113 rfl ?_
    refine AW.aload_n dL_law_114 rfl ?_
    refine AW.iconst dL_law_115 (by decide) ?_
    refine AW.iload dL_law_116 rfl ?_
    refine AW.imulB dL_law_118 (by omega) ?_
    refine AW.aload_n dL_law_119 rfl ?_
    refine AW.aload_n dL_law_120 rfl ?_
    refine AW.aload dL_law_121 rfl ?_
    refine AW.aload dL_law_123 rfl ?_
    refine AW.aload dL_law_125 rfl ?_
    refine AW.aload dL_law_127 rfl ?_
    refine AW.aload dL_law_129 rfl ?_
    refine AW.aload dL_law_131 rfl ?_
    refine AW.aload dL_law_133 rfl ?_
    refine AW.aload dL_law_135 rfl ?_
    refine AW.aload dL_law_137 rfl ?_
    refine AW.callS (as := [vq _, vq _, vi _, vq _, vq _, vq _, vq _, vq _, vq _, vq _, vq _, vq _, vq _, vq _]) dL_law_139 rfl rfl rfl okL_isDone lkL_184 rfl rfl rfl (leb (by omega)) (leb (by omega)) rfl (kL_isDone (i := 4 * (i : Int)) J V hc hL9 (by omega) (fun h1' Z1 c1 hc1 J1 V1 => (AW.k1 ?_)))
    have b1' := J1.K.b1
    refine AW.if_eqF (tgt := 215) dL_law_142 rfl (by decide) ?_
    refine AW.pcs (pc2 := 145) rfl ?_
    refine AW.aload_n dL_law_145 rfl ?_
    refine AW.aload_n dL_law_146 rfl ?_
    refine AW.aload_n dL_law_147 rfl ?_
    refine AW.aload dL_law_148 rfl ?_
    refine AW.aload dL_law_150 rfl ?_
    refine AW.aload_n dL_law_152 rfl ?_
    refine AW.iconst dL_law_153 (by decide) ?_
    refine AW.iload dL_law_154 rfl ?_
    refine AW.imulB dL_law_156 (by omega) ?_
    refine AW.iconst dL_law_157 (by decide) ?_
    refine AW.iaddB dL_law_158 (by omega) ?_
    refine AW.aload dL_law_159 rfl ?_
    refine AW.iconst dL_law_161 (by decide) ?_
    refine AW.aldIE dL_law_162 J1.T.a4 (by omega) (by omega) (by exact V1.s.g0) ?_
    refine AW.iconst dL_law_163 (by decide) ?_
    refine AW.iaddB dL_law_164 (by omega) ?_
    refine AW.callS (as := [vq _, vi _, vi _]) dL_law_165 rfl rfl rfl okL_part lkL_159 rfl rfl rfl (leb (by omega)) (leb (by omega)) rfl (kL_part J1.N hL9 (by omega) (by omega) (fun x x1 x2 => (AW.k1 ?_)))
    obtain ⟨a, rfl⟩ := Int.eq_ofNat_of_zero_le x1
    refine AW.callS (as := [vq _, vq _, vq _, vq _, vq _, vi _]) dL_law_168 rfl rfl rfl okL_isVersion lkL_188 rfl rfl rfl (leb (by omega)) (leb (by omega)) rfl (kL_isVersion (a := a) J1 V1 (by omega) (fun h2' b2 J2 e2 => (AW.k1 ?_)))
    have V2 := V1.as e2
    refine AW.if_eqF (tgt := 215) dL_law_171 rfl (by decide) ?_
    refine AW.aload_n dL_law_174 rfl ?_
    refine AW.aload_n dL_law_175 rfl ?_
    refine AW.aload_n dL_law_176 rfl ?_
    refine AW.aload dL_law_177 rfl ?_
    refine AW.aload dL_law_179 rfl ?_
    refine AW.pcs (pc2 := 181) rfl ?_
    refine AW.aload dL_law_181 rfl ?_
    refine AW.aload dL_law_183 rfl ?_
    refine AW.aload dL_law_185 rfl ?_
    refine AW.aload dL_law_187 rfl ?_
    refine AW.aload_n dL_law_189 rfl ?_
    refine AW.iconst dL_law_190 (by decide) ?_
    refine AW.iload dL_law_191 rfl ?_
    refine AW.imulB dL_law_193 (by omega) ?_
    refine AW.iconst dL_law_194 (by decide) ?_
    refine AW.iaddB dL_law_195 (by omega) ?_
    refine AW.aload dL_law_196 rfl ?_
    refine AW.iconst dL_law_198 (by decide) ?_
    refine AW.aldIE dL_law_199 J2.T.a4 (by omega) (by omega) (by exact V2.s.g0) ?_
    refine AW.iconst dL_law_200 (by decide) ?_
    refine AW.iaddB dL_law_201 (by omega) ?_
    refine AW.callS9 (as := [vq _, vi _, vi _]) dL_law_202 rfl rfl rfl okL_part lkL_159 rfl rfl rfl (leb (by omega)) (leb (by omega)) rfl (kL_part J2.N hL9 (by omega) (by omega) (fun y y1 y2 => (AW.k1 ?_)))
    obtain ⟨a', rfl⟩ := Int.eq_ofNat_of_zero_le y1
    refine AW.callS (as := [vq _, vq _, vq _, vq _, vq _, vq _, vq _, vq _, vq _, vi _]) dL_law_205 rfl rfl rfl okL_areRows lkL_192 rfl rfl rfl (leb (by omega)) (leb (by omega)) rfl (kL_areRows (a := a') J2 V2 (by omega) (fun h3' J3 V3 => (AW.k1 ?_)))
    refine AW.if_eqF (tgt := 215) dL_law_208 rfl (by decide) ?_
    refine AW.iconst dL_law_211 (by decide) ?_
    refine AW.goto (tgt := 216) dL_law_212 rfl ?_
    refine AW.istore dL_law_216 rfl ?_
    refine AW.iincB dL_law_218 rfl rfl (by omega) ?_
    refine AW.goto (tgt := 101) dL_law_221 rfl ?_
    refine AW.locs ((14, vi ((i + 1 : Nat) : Int)) :: (13, vi 1) :: lla) ⟨rfl, rfl, rfl, rfl, rfl, rfl, rfl, rfl, rfl, rfl, rfl, rfl, rfl, rfl, rfl, trivial⟩ (AW.less (by omega) (by omega) (ih (i + 1) c1 b2 h3' Z1 (by omega) (by omega) (by omega) J3 V3))
end I2
