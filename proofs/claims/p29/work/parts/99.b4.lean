/-! ===== the law's moves, from the entry ===== -/
section B4
variable {Q : AH → AO → Prop} {h g G : AH} {Z Y D C : ZT} {rl rz a : Nat} {mc ms bc bs : Nat} {loc : AL}
theorem inL_b {x : Int} (k : 0 ≤ x ∧ x < 200000000) : inL x := ⟨by omega, by omega⟩
set_option maxHeartbeats 4000000 in
theorem mv_A0 {nm : Int} (T : LT h) (S : LSc h Z) (K : QS Z) (B : VB Z rz) (h1 : 1 ≤ a) (ha : (a : Int) ≤ Z 1 0) (hr : rl < 5) (R : LR h Z rl rz) (en : nm = if Z 7 a = 1 then 1 else 0) (k : ∀ G, FR rl h G → LR G (zmv Z (rz : Int) 0 (a : Int) 0) rl rz → Q G (.inl none)) :
    AW mL_moves fL_moves loL_moves mc ms Q bc bs 84 h [(12, vi (zo Z a 0 1)), (11, vi (zo Z a 0 0)), (10, vi nm), (9, vi (a : Int)), (0, vr (la 1)), (1, vr (la 2)), (2, vr (la 3)), (3, vr (la 5)), (4, vr (la 6)), (5, vr (la 7)), (6, vi (rl : Int)), (7, vi 0), (8, vr (la 9))] [] := by
  have b1 := K.b1
  have b2 := K.b2
  have f0 := zo_r K h1 ha 0 0 (Or.inl rfl)
  have f1 := zo_r K h1 ha 0 1 (Or.inr rfl)
  have s0 := nL_sb K B h1 ha (u := 0) (Or.inl rfl)
  have s1 := nL_sb K B h1 ha (u := 0) (Or.inr rfl)
  have l0 := s0.b
  have l1 := s1.b
  obtain ⟨sG0, sG1⟩ := sb_G K h1 ha (Or.inl rfl) s0 s1
  have G0 := sG0.b
  have G1 := sG1.b
  obtain ⟨X0, XX⟩ := bx_rd B (a := a) (by omega)
  have X1 : Unit → _ := fun _ => XX.1
  have X2 : Unit → _ := fun _ => XX.2
  clear XX
  have e0 : Unit → (if 0 ≤ zo Z a 0 0 then Z 22 (48 * rz + (zo Z a 0 0).toNat) else -1) = nL Z rz a 0 0 := fun _ => by unfold nL; (repeat' split) <;> first | rfl | omega
  have e1 : Unit → (if 0 ≤ zo Z a 0 1 then Z 22 (48 * rz + (zo Z a 0 1).toNat) else -1) = nL Z rz a 0 1 := fun _ => by unfold nL; (repeat' split) <;> first | rfl | omega
  have kz := zmv_n (rz := rz) (u := 0) K h1 ha
  by_cases hm : Z 24 (24 * rz + a) = 1
  · have hm' : Z 24 (24 * rz + a) = (if (0 : Int) = 0 then 1 else 2) := by rw [hm]; rfl
    have HH : Unit → _ := fun _ => X2 () (by omega)
    have x6 := (HH ()).2.2.2.2.2.1
    have x7 := (HH ()).2.2.2.2.2.2
    refine AW.hin (la 6) (2 * rl + 1) (fun hq => ?_)
    rw [R.y1] at hq
    by_cases kb : nbk Z rz a 0 (nL Z rz a 0 0) (nL Z rz a 0 1)
    · have eC : nC Z rz a 0 = _ := zC_in hm' kb
      rw [kz, eC] at k
      refine AW.iload dL_moves_84 rfl ?_
      refine' AW.if_geJ 103 (tgt := 93) dL_moves_86 rfl _ _ _
      rotate_left 2
      · intro c_86 k_86
        refine AW.aload_n dL_moves_93 rfl ?_
        refine AW.bipush dL_moves_94 bp_10 (by decide) ?_
        refine AW.iload dL_moves_96 rfl ?_
        refine AW.imulB dL_moves_98 (by omega) ?_
        refine AW.iload dL_moves_99 rfl ?_
        refine AW.iaddB dL_moves_101 (by omega) ?_
        refine AW.aldIE dL_moves_102 T.a5 (by omega) (by omega) (by exact hIx (by omega) (R.x (k := (zo Z a 0 0).toNat) (by omega))) ?_
        exact k_86
      · intro c_86 k_86
        refine AW.iconst dL_moves_89 (by decide) ?_
        refine AW.goto (tgt := 103) dL_moves_90 rfl ?_
        exact k_86
      refine AW.top (y := nL Z rz a 0 0) (e0 ()) ?_
      refine AW.istore dL_moves_103 rfl ?_
      refine AW.iload dL_moves_105 rfl ?_
      refine' AW.if_geJ 124 (tgt := 114) dL_moves_107 rfl _ _ _
      rotate_left 2
      · intro c_107 k_107
        refine AW.aload_n dL_moves_114 rfl ?_
        refine AW.bipush dL_moves_115 bp_10 (by decide) ?_
        refine AW.iload dL_moves_117 rfl ?_
        refine AW.imulB dL_moves_119 (by omega) ?_
        refine AW.iload dL_moves_120 rfl ?_
        refine AW.iaddB dL_moves_122 (by omega) ?_
        refine AW.aldIE dL_moves_123 T.a5 (by omega) (by omega) (by exact hIx (by omega) (R.x (k := (zo Z a 0 1).toNat) (by omega))) ?_
        exact k_107
      · intro c_107 k_107
        refine AW.iconst dL_moves_110 (by decide) ?_
        refine AW.goto (tgt := 124) dL_moves_111 rfl ?_
        exact k_107
      refine AW.top (y := nL Z rz a 0 1) (e1 ()) ?_
      refine AW.istore dL_moves_124 rfl ?_
      refine AW.aload_n dL_moves_126 rfl ?_
      refine AW.aload_n dL_moves_127 rfl ?_
      refine AW.aload_n dL_moves_128 rfl ?_
      refine AW.iload dL_moves_129 rfl ?_
      refine AW.iload dL_moves_131 rfl ?_
      refine AW.iload dL_moves_133 rfl ?_
      refine AW.iload dL_moves_135 rfl ?_
      refine AW.aload dL_moves_137 rfl ?_
      refine AW.callS (as := [vq _, vq _, vq _, vi _, vi _, vi _, vi _, vq _]) dL_moves_139 rfl rfl rfl okL_tells lkL_107 rfl rfl rfl (leb (by omega)) (leb (by omega)) rfl (kL_tells T S K h1 ha (by omega) l0 l1 (fun g1 F1 y0 y1 => (AW.k0 ?_)))
      refine AW.aload dL_moves_142 rfl ?_
      refine AW.iconst dL_moves_144 (by decide) ?_
      refine AW.aldIE dL_moves_145 (F1.T T).a9 (by omega) (by omega) (by exact y0) ?_
      refine AW.istore dL_moves_146 rfl ?_
      refine AW.aload dL_moves_148 rfl ?_
      refine AW.iconst dL_moves_150 (by decide) ?_
      refine AW.aldIE dL_moves_151 (F1.T T).a9 (by omega) (by omega) (by exact y1) ?_
      refine AW.istore dL_moves_152 rfl ?_
      refine AW.locs [(16, vi _), (15, vi _), (14, vi _), (13, vi _), (12, vi _), (11, vi _), (10, vi nm), (9, vi (a : Int)), (0, vr (la 1)), (1, vr (la 2)), (2, vr (la 3)), (3, vr (la 5)), (4, vr (la 6)), (5, vr (la 7)), (6, vi (rl : Int)), (7, vi 0), (8, vr (la 9))] ⟨rfl, rfl, rfl, rfl, rfl, rfl, rfl, rfl, rfl, rfl, rfl, rfl, rfl, rfl, rfl, rfl, rfl, trivial⟩ ?_
      refine AW.aload dL_moves_154 rfl ?_
      refine AW.bipush dL_moves_156 bp_13 (by decide) ?_
      refine AW.iload dL_moves_158 rfl ?_
      refine AW.imulB dL_moves_160 (by omega) ?_
      refine AW.iload dL_moves_161 rfl ?_
      refine AW.pcs (pc2 := 163) rfl ?_
      refine AW.iaddB dL_moves_163 (by omega) ?_
      refine AW.aldLE dL_moves_164 (F1.T T).a7 (by omega) (by omega) (by exact hLx (by omega) ((R.fl F1 (by decide) (by decide) (by decide)).z (w := a) h1 (by omega))) ?_
      refine AW.lstore dL_moves_165 rfl ?_
      refine AW.lload dL_moves_167 rfl ?_
      refine AW.lconstI 0 dL_moves_169 (by decide) ?_
      refine AW.lcmpI dL_moves_170 (by exact ⟨by omega, by omega⟩) (by exact ⟨by omega, by omega⟩) ?_
      refine AW.if_leF (tgt := 333) dL_moves_171 rfl (by rw [if_pos (HH ()).1]; decide) ?_
      refine AW.lload dL_moves_174 rfl ?_
      refine AW.ldc2I (3) dL_moves_176 lkL_111 (by decide) ?_
      refine AW.lremI dL_moves_179 (by exact ⟨by omega, by omega⟩) (by omega) ?_
      refine AW.topl (y := Int64.ofInt 1) (by rw [(HH ()).2.1, hm]) ?_
      refine AW.iload dL_moves_180 rfl ?_
      refine AW.if_eqT (tgt := 191) dL_moves_182 rfl (by omega) ?_
      refine AW.lconstI 1 dL_moves_191 (by decide) ?_
      refine AW.lcmpI dL_moves_192 (by exact ⟨by omega, by omega⟩) (by exact ⟨by omega, by omega⟩) ?_
      refine AW.if_neF (tgt := 333) dL_moves_193 rfl (by decide) ?_
      refine AW.lload dL_moves_196 rfl ?_
      refine AW.ldc2I (3) dL_moves_198 lkL_111 (by decide) ?_
      refine AW.ldivI dL_moves_201 (by exact ⟨by omega, by omega⟩) (by omega) ?_
      refine AW.ldc2I (10001) dL_moves_202 lkL_115 (by decide) ?_
      refine AW.lremI dL_moves_205 (by exact inL_b (HH ()).2.2.1) (by omega) ?_
      refine AW.l2iI dL_moves_206 (by rw [(HH ()).2.2.2.1]; exact ⟨by omega, by omega⟩) ?_
      refine AW.top (y := Z 25 (2 * (24 * rz + a)) + 1) (HH ()).2.2.2.1 ?_
      refine AW.iconst dL_moves_207 (by decide) ?_
      refine AW.isubB dL_moves_208 (by omega) ?_
      refine AW.top (y := Z 25 (2 * (24 * rz + a))) (by omega) ?_
      refine AW.istore dL_moves_209 rfl ?_
      refine AW.pcs (pc2 := 211) rfl ?_
      refine AW.lload dL_moves_211 rfl ?_
      refine AW.ldc2I (30003) dL_moves_213 lkL_117 (by decide) ?_
      refine AW.ldivI dL_moves_216 (by exact ⟨by omega, by omega⟩) (by omega) ?_
      refine AW.l2iI dL_moves_217 (by rw [(HH ()).2.2.2.2.1]; exact ⟨by omega, by omega⟩) ?_
      refine AW.top (y := Z 25 (2 * (24 * rz + a) + 1) + 1) (HH ()).2.2.2.2.1 ?_
      refine AW.iconst dL_moves_218 (by decide) ?_
      refine AW.isubB dL_moves_219 (by omega) ?_
      refine AW.top (y := Z 25 (2 * (24 * rz + a) + 1)) (by omega) ?_
      refine AW.istore dL_moves_220 rfl ?_
      refine AW.locs [(20, vi _), (19, vi _), (16, vi _), (15, vi _), (14, vi _), (13, vi _), (12, vi _), (11, vi _), (10, vi nm), (9, vi (a : Int)), (0, vr (la 1)), (1, vr (la 2)), (2, vr (la 3)), (3, vr (la 5)), (4, vr (la 6)), (5, vr (la 7)), (6, vi (rl : Int)), (7, vi 0), (8, vr (la 9))] ⟨rfl, rfl, rfl, rfl, rfl, rfl, rfl, rfl, rfl, rfl, rfl, rfl, rfl, rfl, rfl, rfl, rfl, rfl, rfl, trivial⟩ ?_
      refine AW.aload dL_moves_222 rfl ?_
      refine AW.bipush dL_moves_224 bp_13 (by decide) ?_
      refine AW.iload dL_moves_226 rfl ?_
      refine AW.imulB dL_moves_228 (by omega) ?_
      refine AW.iload dL_moves_229 rfl ?_
      refine AW.iaddB dL_moves_231 (by omega) ?_
      refine AW.lconstI 0 dL_moves_232 (by decide) ?_
      refine AW.astL dL_moves_233 (F1.T T).a7 (by omega) (by omega) ?_
      rw [show (13 * (rl : Int) + (a : Int)).toNat = 13 * rl + a by omega]
      refine AW.gen (P := fun g => FR rl h g ∧ LR g (zs Z 24 (24 * rz + a) 0) rl rz) ⟨(FR.rf.f9 F1).w7 h1 (by omega), (R.fl F1 (by decide) (by decide) (by decide)).out h1 (by omega)⟩ (fun g2 ⟨W2, R2⟩ => ?_)
      have T2 := W2.1.T T
      have S2 := S.fr W2
      refine AW.aload_n dL_moves_234 rfl ?_
      refine AW.aload_n dL_moves_235 rfl ?_
      refine AW.aload_n dL_moves_236 rfl ?_
      refine AW.iload dL_moves_237 rfl ?_
      refine AW.iload dL_moves_239 rfl ?_
      refine AW.if_neF (tgt := 248) dL_moves_241 rfl (by omega) ?_
      refine AW.iconst dL_moves_244 (by decide) ?_
      refine AW.goto (tgt := 249) dL_moves_245 rfl ?_
      refine AW.iload dL_moves_249 rfl ?_
      refine AW.pcs (pc2 := 251) rfl ?_
      refine AW.iload dL_moves_251 rfl ?_
      refine AW.aload dL_moves_253 rfl ?_
      refine AW.callS (as := [vq _, vq _, vq _, vi _, vi _, vi _, vi _, vq _]) dL_moves_255 rfl rfl rfl okL_tells lkL_107 rfl rfl rfl (leb (by omega)) (leb (by omega)) rfl (kL_tells T2 S2 K h1 ha (by omega) x6 x7 (fun g3 F3 z0 z1 => (AW.k0 ?_)))
      refine AW.aload dL_moves_258 rfl ?_
      refine AW.iconst dL_moves_260 (by decide) ?_
      refine AW.aldIE dL_moves_261 (F3.T T2).a9 (by omega) (by omega) (by exact z0) ?_
      refine AW.iload dL_moves_262 rfl ?_
      refine' AW.icmp_neJ 281 (tgt := 280) dL_moves_264 rfl _ _ _
      rotate_left 2
      · intro c_264 k_264
        refine AW.iconst dL_moves_280 (by decide) ?_
        exact k_264
      · intro c_264 k_264
        refine AW.aload dL_moves_267 rfl ?_
        refine AW.iconst dL_moves_269 (by decide) ?_
        refine AW.aldIE dL_moves_270 (F3.T T2).a9 (by omega) (by omega) (by exact z1) ?_
        refine AW.iload dL_moves_271 rfl ?_
        refine' AW.icmp_neJ 281 (tgt := 280) dL_moves_273 rfl _ _ _
        rotate_left 2
        · intro c_273 k_273
          refine AW.iconst dL_moves_280 (by decide) ?_
          exact k_273
        · intro c_273 k_273
          refine AW.iconst dL_moves_276 (by decide) ?_
          refine AW.goto (tgt := 281) dL_moves_277 rfl ?_
          exact k_273
        exact k_264
      refine AW.top (y := 1) (by rw [if_neg (fun z => z kb.1), if_neg (fun z => z kb.2)]) ?_
      refine AW.istore dL_moves_281 rfl ?_
      have W3 := W2.f9 F3
      have T3 := F3.T T2
      have S3 := S.fr W3
      have R3 := R2.fl F3 (by decide) (by decide) (by decide)
      refine AW.iload dL_moves_283 rfl ?_
      refine AW.if_eqF (tgt := 293) dL_moves_285 rfl (by omega) ?_
      refine AW.iload dL_moves_288 rfl ?_
      refine AW.goto (tgt := 295) dL_moves_290 rfl ?_
      refine AW.istore dL_moves_295 rfl ?_
      refine AW.iload dL_moves_297 rfl ?_
      refine AW.if_eqF (tgt := 307) dL_moves_299 rfl (by omega) ?_
      refine AW.iload dL_moves_302 rfl ?_
      refine AW.goto (tgt := 309) dL_moves_304 rfl ?_
      refine AW.istore dL_moves_309 rfl ?_
      refine AW.locs [(21, vi _), (16, vi _), (15, vi _), (14, vi _), (13, vi _), (12, vi _), (11, vi _), (10, vi nm), (9, vi (a : Int)), (0, vr (la 1)), (1, vr (la 2)), (2, vr (la 3)), (3, vr (la 5)), (4, vr (la 6)), (5, vr (la 7)), (6, vi (rl : Int)), (7, vi 0), (8, vr (la 9))] ⟨rfl, rfl, rfl, rfl, rfl, rfl, rfl, rfl, rfl, rfl, rfl, rfl, rfl, rfl, rfl, rfl, rfl, rfl, trivial⟩ ?_
      refine AW.aload dL_moves_311 rfl ?_
      refine AW.iconst dL_moves_313 (by decide) ?_
      refine AW.iload dL_moves_314 rfl ?_
      refine AW.imulB dL_moves_316 (by omega) ?_
      refine AW.iconst dL_moves_317 (by decide) ?_
      refine AW.iaddB dL_moves_318 (by omega) ?_
      refine AW.dup2 dL_moves_319 rfl rfl ?_
      refine AW.aldIE dL_moves_320 (F3.T T2).a6 (by omega) (by omega) (by exact hIx (by omega) R3.y1) ?_
      refine AW.iload dL_moves_321 rfl ?_
      refine AW.if_eqF (tgt := 330) dL_moves_323 rfl (by omega) ?_
      refine AW.iconst dL_moves_326 (by decide) ?_
      refine AW.goto (tgt := 331) dL_moves_327 rfl ?_
      refine AW.pcs (pc2 := 331) rfl ?_
      refine AW.iadd dL_moves_331 ?_
      refine AW.astI dL_moves_332 (F3.T T2).a6 (by omega) (by omega) ?_
      refine AW.locs [(16, vi _), (15, vi _), (14, vi _), (13, vi _), (12, vi _), (11, vi _), (10, vi nm), (9, vi (a : Int)), (0, vr (la 1)), (1, vr (la 2)), (2, vr (la 3)), (3, vr (la 5)), (4, vr (la 6)), (5, vr (la 7)), (6, vi (rl : Int)), (7, vi 0), (8, vr (la 9))] ⟨rfl, rfl, rfl, rfl, rfl, rfl, rfl, rfl, rfl, rfl, rfl, rfl, rfl, rfl, rfl, rfl, rfl, trivial⟩ ?_
      rw [show (2 * (rl : Int) + 1).toNat = 2 * rl + 1 by omega]
      exact mv_B0 (C := zs Z 24 (24 * rz + a) 0) T3 (LSc.fr (FR.w6 (k := 1) FR.rf (by decide)) S3) K h1 ha hr (R3.los0 (by rw [Int.add_zero]; exact wr_id hq)) (sj_zs (by decide)) en l0 l1 x6 x7 (fun G F4 R4 => k G ((W3.w6 (k := 1) (by decide)).tr F4) R4)
    · have eC : nC Z rz a 0 = _ := zC_lo hm' kb
      have e281 : Unit → (if ¬ zG0 Z 1 0 (a : Int) (Z 25 (2 * (24 * rz + a))) (Z 25 (2 * (24 * rz + a) + 1)) = nL Z rz a 0 0 then (0 : Int) else if ¬ zG1 Z 1 0 (a : Int) (Z 25 (2 * (24 * rz + a))) = nL Z rz a 0 1 then 0 else 1) = 0 := fun _ => by
        by_cases c0 : zG0 Z 1 0 (a : Int) (Z 25 (2 * (24 * rz + a))) (Z 25 (2 * (24 * rz + a) + 1)) = nL Z rz a 0 0
        · rw [if_neg (fun z => z c0)]; exact if_pos (fun c1 => kb ⟨c0, c1⟩)
        · rw [if_pos c0]
      rw [kz, eC] at k
      refine AW.iload dL_moves_84 rfl ?_
      refine' AW.if_geJ 103 (tgt := 93) dL_moves_86 rfl _ _ _
      rotate_left 2
      · intro c_86 k_86
        refine AW.aload_n dL_moves_93 rfl ?_
        refine AW.bipush dL_moves_94 bp_10 (by decide) ?_
        refine AW.iload dL_moves_96 rfl ?_
        refine AW.imulB dL_moves_98 (by omega) ?_
        refine AW.iload dL_moves_99 rfl ?_
        refine AW.iaddB dL_moves_101 (by omega) ?_
        refine AW.aldIE dL_moves_102 T.a5 (by omega) (by omega) (by exact hIx (by omega) (R.x (k := (zo Z a 0 0).toNat) (by omega))) ?_
        exact k_86
      · intro c_86 k_86
        refine AW.iconst dL_moves_89 (by decide) ?_
        refine AW.goto (tgt := 103) dL_moves_90 rfl ?_
        exact k_86
      refine AW.top (y := nL Z rz a 0 0) (e0 ()) ?_
      refine AW.istore dL_moves_103 rfl ?_
      refine AW.iload dL_moves_105 rfl ?_
      refine' AW.if_geJ 124 (tgt := 114) dL_moves_107 rfl _ _ _
      rotate_left 2
      · intro c_107 k_107
        refine AW.aload_n dL_moves_114 rfl ?_
        refine AW.bipush dL_moves_115 bp_10 (by decide) ?_
        refine AW.iload dL_moves_117 rfl ?_
        refine AW.imulB dL_moves_119 (by omega) ?_
        refine AW.iload dL_moves_120 rfl ?_
        refine AW.iaddB dL_moves_122 (by omega) ?_
        refine AW.aldIE dL_moves_123 T.a5 (by omega) (by omega) (by exact hIx (by omega) (R.x (k := (zo Z a 0 1).toNat) (by omega))) ?_
        exact k_107
      · intro c_107 k_107
        refine AW.iconst dL_moves_110 (by decide) ?_
        refine AW.goto (tgt := 124) dL_moves_111 rfl ?_
        exact k_107
      refine AW.top (y := nL Z rz a 0 1) (e1 ()) ?_
      refine AW.istore dL_moves_124 rfl ?_
      refine AW.aload_n dL_moves_126 rfl ?_
      refine AW.aload_n dL_moves_127 rfl ?_
      refine AW.aload_n dL_moves_128 rfl ?_
      refine AW.iload dL_moves_129 rfl ?_
      refine AW.iload dL_moves_131 rfl ?_
      refine AW.iload dL_moves_133 rfl ?_
      refine AW.iload dL_moves_135 rfl ?_
      refine AW.aload dL_moves_137 rfl ?_
      refine AW.callS (as := [vq _, vq _, vq _, vi _, vi _, vi _, vi _, vq _]) dL_moves_139 rfl rfl rfl okL_tells lkL_107 rfl rfl rfl (leb (by omega)) (leb (by omega)) rfl (kL_tells T S K h1 ha (by omega) l0 l1 (fun g1 F1 y0 y1 => (AW.k0 ?_)))
      refine AW.aload dL_moves_142 rfl ?_
      refine AW.iconst dL_moves_144 (by decide) ?_
      refine AW.aldIE dL_moves_145 (F1.T T).a9 (by omega) (by omega) (by exact y0) ?_
      refine AW.istore dL_moves_146 rfl ?_
      refine AW.aload dL_moves_148 rfl ?_
      refine AW.iconst dL_moves_150 (by decide) ?_
      refine AW.aldIE dL_moves_151 (F1.T T).a9 (by omega) (by omega) (by exact y1) ?_
      refine AW.istore dL_moves_152 rfl ?_
      refine AW.locs [(16, vi _), (15, vi _), (14, vi _), (13, vi _), (12, vi _), (11, vi _), (10, vi nm), (9, vi (a : Int)), (0, vr (la 1)), (1, vr (la 2)), (2, vr (la 3)), (3, vr (la 5)), (4, vr (la 6)), (5, vr (la 7)), (6, vi (rl : Int)), (7, vi 0), (8, vr (la 9))] ⟨rfl, rfl, rfl, rfl, rfl, rfl, rfl, rfl, rfl, rfl, rfl, rfl, rfl, rfl, rfl, rfl, rfl, trivial⟩ ?_
      refine AW.aload dL_moves_154 rfl ?_
      refine AW.bipush dL_moves_156 bp_13 (by decide) ?_
      refine AW.iload dL_moves_158 rfl ?_
      refine AW.imulB dL_moves_160 (by omega) ?_
      refine AW.iload dL_moves_161 rfl ?_
      refine AW.pcs (pc2 := 163) rfl ?_
      refine AW.iaddB dL_moves_163 (by omega) ?_
      refine AW.aldLE dL_moves_164 (F1.T T).a7 (by omega) (by omega) (by exact hLx (by omega) ((R.fl F1 (by decide) (by decide) (by decide)).z (w := a) h1 (by omega))) ?_
      refine AW.lstore dL_moves_165 rfl ?_
      refine AW.lload dL_moves_167 rfl ?_
      refine AW.lconstI 0 dL_moves_169 (by decide) ?_
      refine AW.lcmpI dL_moves_170 (by exact ⟨by omega, by omega⟩) (by exact ⟨by omega, by omega⟩) ?_
      refine AW.if_leF (tgt := 333) dL_moves_171 rfl (by rw [if_pos (HH ()).1]; decide) ?_
      refine AW.lload dL_moves_174 rfl ?_
      refine AW.ldc2I (3) dL_moves_176 lkL_111 (by decide) ?_
      refine AW.lremI dL_moves_179 (by exact ⟨by omega, by omega⟩) (by omega) ?_
      refine AW.topl (y := Int64.ofInt 1) (by rw [(HH ()).2.1, hm]) ?_
      refine AW.iload dL_moves_180 rfl ?_
      refine AW.if_eqT (tgt := 191) dL_moves_182 rfl (by omega) ?_
      refine AW.lconstI 1 dL_moves_191 (by decide) ?_
      refine AW.lcmpI dL_moves_192 (by exact ⟨by omega, by omega⟩) (by exact ⟨by omega, by omega⟩) ?_
      refine AW.if_neF (tgt := 333) dL_moves_193 rfl (by decide) ?_
      refine AW.lload dL_moves_196 rfl ?_
      refine AW.ldc2I (3) dL_moves_198 lkL_111 (by decide) ?_
      refine AW.ldivI dL_moves_201 (by exact ⟨by omega, by omega⟩) (by omega) ?_
      refine AW.ldc2I (10001) dL_moves_202 lkL_115 (by decide) ?_
      refine AW.lremI dL_moves_205 (by exact inL_b (HH ()).2.2.1) (by omega) ?_
      refine AW.l2iI dL_moves_206 (by rw [(HH ()).2.2.2.1]; exact ⟨by omega, by omega⟩) ?_
      refine AW.top (y := Z 25 (2 * (24 * rz + a)) + 1) (HH ()).2.2.2.1 ?_
      refine AW.iconst dL_moves_207 (by decide) ?_
      refine AW.isubB dL_moves_208 (by omega) ?_
      refine AW.top (y := Z 25 (2 * (24 * rz + a))) (by omega) ?_
      refine AW.istore dL_moves_209 rfl ?_
      refine AW.pcs (pc2 := 211) rfl ?_
      refine AW.lload dL_moves_211 rfl ?_
      refine AW.ldc2I (30003) dL_moves_213 lkL_117 (by decide) ?_
      refine AW.ldivI dL_moves_216 (by exact ⟨by omega, by omega⟩) (by omega) ?_
      refine AW.l2iI dL_moves_217 (by rw [(HH ()).2.2.2.2.1]; exact ⟨by omega, by omega⟩) ?_
      refine AW.top (y := Z 25 (2 * (24 * rz + a) + 1) + 1) (HH ()).2.2.2.2.1 ?_
      refine AW.iconst dL_moves_218 (by decide) ?_
      refine AW.isubB dL_moves_219 (by omega) ?_
      refine AW.top (y := Z 25 (2 * (24 * rz + a) + 1)) (by omega) ?_
      refine AW.istore dL_moves_220 rfl ?_
      refine AW.locs [(20, vi _), (19, vi _), (16, vi _), (15, vi _), (14, vi _), (13, vi _), (12, vi _), (11, vi _), (10, vi nm), (9, vi (a : Int)), (0, vr (la 1)), (1, vr (la 2)), (2, vr (la 3)), (3, vr (la 5)), (4, vr (la 6)), (5, vr (la 7)), (6, vi (rl : Int)), (7, vi 0), (8, vr (la 9))] ⟨rfl, rfl, rfl, rfl, rfl, rfl, rfl, rfl, rfl, rfl, rfl, rfl, rfl, rfl, rfl, rfl, rfl, rfl, rfl, trivial⟩ ?_
      refine AW.aload dL_moves_222 rfl ?_
      refine AW.bipush dL_moves_224 bp_13 (by decide) ?_
      refine AW.iload dL_moves_226 rfl ?_
      refine AW.imulB dL_moves_228 (by omega) ?_
      refine AW.iload dL_moves_229 rfl ?_
      refine AW.iaddB dL_moves_231 (by omega) ?_
      refine AW.lconstI 0 dL_moves_232 (by decide) ?_
      refine AW.astL dL_moves_233 (F1.T T).a7 (by omega) (by omega) ?_
      rw [show (13 * (rl : Int) + (a : Int)).toNat = 13 * rl + a by omega]
      refine AW.gen (P := fun g => FR rl h g ∧ LR g (zs Z 24 (24 * rz + a) 0) rl rz) ⟨(FR.rf.f9 F1).w7 h1 (by omega), (R.fl F1 (by decide) (by decide) (by decide)).out h1 (by omega)⟩ (fun g2 ⟨W2, R2⟩ => ?_)
      have T2 := W2.1.T T
      have S2 := S.fr W2
      refine AW.aload_n dL_moves_234 rfl ?_
      refine AW.aload_n dL_moves_235 rfl ?_
      refine AW.aload_n dL_moves_236 rfl ?_
      refine AW.iload dL_moves_237 rfl ?_
      refine AW.iload dL_moves_239 rfl ?_
      refine AW.if_neF (tgt := 248) dL_moves_241 rfl (by omega) ?_
      refine AW.iconst dL_moves_244 (by decide) ?_
      refine AW.goto (tgt := 249) dL_moves_245 rfl ?_
      refine AW.iload dL_moves_249 rfl ?_
      refine AW.pcs (pc2 := 251) rfl ?_
      refine AW.iload dL_moves_251 rfl ?_
      refine AW.aload dL_moves_253 rfl ?_
      refine AW.callS (as := [vq _, vq _, vq _, vi _, vi _, vi _, vi _, vq _]) dL_moves_255 rfl rfl rfl okL_tells lkL_107 rfl rfl rfl (leb (by omega)) (leb (by omega)) rfl (kL_tells T2 S2 K h1 ha (by omega) x6 x7 (fun g3 F3 z0 z1 => (AW.k0 ?_)))
      refine AW.aload dL_moves_258 rfl ?_
      refine AW.iconst dL_moves_260 (by decide) ?_
      refine AW.aldIE dL_moves_261 (F3.T T2).a9 (by omega) (by omega) (by exact z0) ?_
      refine AW.iload dL_moves_262 rfl ?_
      refine' AW.icmp_neJ 281 (tgt := 280) dL_moves_264 rfl _ _ _
      rotate_left 2
      · intro c_264 k_264
        refine AW.iconst dL_moves_280 (by decide) ?_
        exact k_264
      · intro c_264 k_264
        refine AW.aload dL_moves_267 rfl ?_
        refine AW.iconst dL_moves_269 (by decide) ?_
        refine AW.aldIE dL_moves_270 (F3.T T2).a9 (by omega) (by omega) (by exact z1) ?_
        refine AW.iload dL_moves_271 rfl ?_
        refine' AW.icmp_neJ 281 (tgt := 280) dL_moves_273 rfl _ _ _
        rotate_left 2
        · intro c_273 k_273
          refine AW.iconst dL_moves_280 (by decide) ?_
          exact k_273
        · intro c_273 k_273
          refine AW.iconst dL_moves_276 (by decide) ?_
          refine AW.goto (tgt := 281) dL_moves_277 rfl ?_
          exact k_273
        exact k_264
      refine AW.top (y := 0) (e281 ()) ?_
      refine AW.istore dL_moves_281 rfl ?_
      have W3 := W2.f9 F3
      have T3 := F3.T T2
      have S3 := S.fr W3
      have R3 := R2.fl F3 (by decide) (by decide) (by decide)
      refine AW.iload dL_moves_283 rfl ?_
      refine AW.if_eqT (tgt := 293) dL_moves_285 rfl (by omega) ?_
      refine AW.iload dL_moves_293 rfl ?_
      refine AW.istore dL_moves_295 rfl ?_
      refine AW.iload dL_moves_297 rfl ?_
      refine AW.if_eqT (tgt := 307) dL_moves_299 rfl (by omega) ?_
      refine AW.iload dL_moves_307 rfl ?_
      refine AW.istore dL_moves_309 rfl ?_
      refine AW.locs [(21, vi _), (16, vi _), (15, vi _), (14, vi _), (13, vi _), (12, vi _), (11, vi _), (10, vi nm), (9, vi (a : Int)), (0, vr (la 1)), (1, vr (la 2)), (2, vr (la 3)), (3, vr (la 5)), (4, vr (la 6)), (5, vr (la 7)), (6, vi (rl : Int)), (7, vi 0), (8, vr (la 9))] ⟨rfl, rfl, rfl, rfl, rfl, rfl, rfl, rfl, rfl, rfl, rfl, rfl, rfl, rfl, rfl, rfl, rfl, rfl, trivial⟩ ?_
      refine AW.aload dL_moves_311 rfl ?_
      refine AW.iconst dL_moves_313 (by decide) ?_
      refine AW.iload dL_moves_314 rfl ?_
      refine AW.imulB dL_moves_316 (by omega) ?_
      refine AW.iconst dL_moves_317 (by decide) ?_
      refine AW.iaddB dL_moves_318 (by omega) ?_
      refine AW.dup2 dL_moves_319 rfl rfl ?_
      refine AW.aldIE dL_moves_320 (F3.T T2).a6 (by omega) (by omega) (by exact hIx (by omega) R3.y1) ?_
      refine AW.iload dL_moves_321 rfl ?_
      refine AW.if_eqT (tgt := 330) dL_moves_323 rfl (by omega) ?_
      refine AW.iconst dL_moves_330 (by decide) ?_
      refine AW.iadd dL_moves_331 ?_
      refine AW.astI dL_moves_332 (F3.T T2).a6 (by omega) (by omega) ?_
      refine AW.locs [(16, vi _), (15, vi _), (14, vi _), (13, vi _), (12, vi _), (11, vi _), (10, vi nm), (9, vi (a : Int)), (0, vr (la 1)), (1, vr (la 2)), (2, vr (la 3)), (3, vr (la 5)), (4, vr (la 6)), (5, vr (la 7)), (6, vi (rl : Int)), (7, vi 0), (8, vr (la 9))] ⟨rfl, rfl, rfl, rfl, rfl, rfl, rfl, rfl, rfl, rfl, rfl, rfl, rfl, rfl, rfl, rfl, rfl, trivial⟩ ?_
      rw [show (2 * (rl : Int) + 1).toNat = 2 * rl + 1 by omega]
      exact mv_B0 (C := zs (zs Z 24 (24 * rz + a) 0) 23 rz (wr (Z 23 rz + 1))) T3 (LSc.fr (FR.w6 (k := 1) FR.rf (by decide)) S3) K h1 ha hr R3.los (sj_tr (sj_zs (by decide)) (sj_zs (by decide))) en l0 l1 G0 G1 (fun G F4 R4 => k G ((W3.w6 (k := 1) (by decide)).tr F4) R4)
  · have hm' : ¬ Z 24 (24 * rz + a) = (if (0 : Int) = 0 then 1 else 2) := fun z => hm (by rw [z]; rfl)
    have eC : nC Z rz a 0 = _ := zC_no hm'
    rw [kz, eC] at k
    have fin : ∀ {G : AH}, FL (fun j => j = 9) h G → AW mL_moves fL_moves loL_moves mc ms Q bc bs 333 G [(16, vi (zG1 Z 0 0 (a : Int) (nL Z rz a 0 0))), (15, vi (zG0 Z 0 0 (a : Int) (nL Z rz a 0 0) (nL Z rz a 0 1))), (14, vi (nL Z rz a 0 1)), (13, vi (nL Z rz a 0 0)), (12, vi (zo Z a 0 1)), (11, vi (zo Z a 0 0)), (10, vi nm), (9, vi (a : Int)), (0, vr (la 1)), (1, vr (la 2)), (2, vr (la 3)), (3, vr (la 5)), (4, vr (la 6)), (5, vr (la 7)), (6, vi (rl : Int)), (7, vi 0), (8, vr (la 9))] [] := fun F1 => mv_B0 (C := Z) (F1.T T) (S.fl F1 (by decide) (by decide) (by decide) (by decide)) K h1 ha hr (R.fl F1 (by decide) (by decide) (by decide)) (fun _ _ => rfl) en l0 l1 G0 G1 (fun G F4 R4 => k G ((FR.rf.f9 F1).tr F4) R4)
    by_cases hz : Z 24 (24 * rz + a) = 0
    · have z0 := X1 () hz
      refine AW.iload dL_moves_84 rfl ?_
      refine' AW.if_geJ 103 (tgt := 93) dL_moves_86 rfl _ _ _
      rotate_left 2
      · intro c_86 k_86
        refine AW.aload_n dL_moves_93 rfl ?_
        refine AW.bipush dL_moves_94 bp_10 (by decide) ?_
        refine AW.iload dL_moves_96 rfl ?_
        refine AW.imulB dL_moves_98 (by omega) ?_
        refine AW.iload dL_moves_99 rfl ?_
        refine AW.iaddB dL_moves_101 (by omega) ?_
        refine AW.aldIE dL_moves_102 T.a5 (by omega) (by omega) (by exact hIx (by omega) (R.x (k := (zo Z a 0 0).toNat) (by omega))) ?_
        exact k_86
      · intro c_86 k_86
        refine AW.iconst dL_moves_89 (by decide) ?_
        refine AW.goto (tgt := 103) dL_moves_90 rfl ?_
        exact k_86
      refine AW.top (y := nL Z rz a 0 0) (e0 ()) ?_
      refine AW.istore dL_moves_103 rfl ?_
      refine AW.iload dL_moves_105 rfl ?_
      refine' AW.if_geJ 124 (tgt := 114) dL_moves_107 rfl _ _ _
      rotate_left 2
      · intro c_107 k_107
        refine AW.aload_n dL_moves_114 rfl ?_
        refine AW.bipush dL_moves_115 bp_10 (by decide) ?_
        refine AW.iload dL_moves_117 rfl ?_
        refine AW.imulB dL_moves_119 (by omega) ?_
        refine AW.iload dL_moves_120 rfl ?_
        refine AW.iaddB dL_moves_122 (by omega) ?_
        refine AW.aldIE dL_moves_123 T.a5 (by omega) (by omega) (by exact hIx (by omega) (R.x (k := (zo Z a 0 1).toNat) (by omega))) ?_
        exact k_107
      · intro c_107 k_107
        refine AW.iconst dL_moves_110 (by decide) ?_
        refine AW.goto (tgt := 124) dL_moves_111 rfl ?_
        exact k_107
      refine AW.top (y := nL Z rz a 0 1) (e1 ()) ?_
      refine AW.istore dL_moves_124 rfl ?_
      refine AW.aload_n dL_moves_126 rfl ?_
      refine AW.aload_n dL_moves_127 rfl ?_
      refine AW.aload_n dL_moves_128 rfl ?_
      refine AW.iload dL_moves_129 rfl ?_
      refine AW.iload dL_moves_131 rfl ?_
      refine AW.iload dL_moves_133 rfl ?_
      refine AW.iload dL_moves_135 rfl ?_
      refine AW.aload dL_moves_137 rfl ?_
      refine AW.callS (as := [vq _, vq _, vq _, vi _, vi _, vi _, vi _, vq _]) dL_moves_139 rfl rfl rfl okL_tells lkL_107 rfl rfl rfl (leb (by omega)) (leb (by omega)) rfl (kL_tells T S K h1 ha (by omega) l0 l1 (fun g1 F1 y0 y1 => (AW.k0 ?_)))
      refine AW.aload dL_moves_142 rfl ?_
      refine AW.iconst dL_moves_144 (by decide) ?_
      refine AW.aldIE dL_moves_145 (F1.T T).a9 (by omega) (by omega) (by exact y0) ?_
      refine AW.istore dL_moves_146 rfl ?_
      refine AW.aload dL_moves_148 rfl ?_
      refine AW.iconst dL_moves_150 (by decide) ?_
      refine AW.aldIE dL_moves_151 (F1.T T).a9 (by omega) (by omega) (by exact y1) ?_
      refine AW.istore dL_moves_152 rfl ?_
      refine AW.locs [(16, vi _), (15, vi _), (14, vi _), (13, vi _), (12, vi _), (11, vi _), (10, vi nm), (9, vi (a : Int)), (0, vr (la 1)), (1, vr (la 2)), (2, vr (la 3)), (3, vr (la 5)), (4, vr (la 6)), (5, vr (la 7)), (6, vi (rl : Int)), (7, vi 0), (8, vr (la 9))] ⟨rfl, rfl, rfl, rfl, rfl, rfl, rfl, rfl, rfl, rfl, rfl, rfl, rfl, rfl, rfl, rfl, rfl, trivial⟩ ?_
      refine AW.aload dL_moves_154 rfl ?_
      refine AW.bipush dL_moves_156 bp_13 (by decide) ?_
      refine AW.iload dL_moves_158 rfl ?_
      refine AW.imulB dL_moves_160 (by omega) ?_
      refine AW.iload dL_moves_161 rfl ?_
      refine AW.pcs (pc2 := 163) rfl ?_
      refine AW.iaddB dL_moves_163 (by omega) ?_
      refine AW.aldLE dL_moves_164 (F1.T T).a7 (by omega) (by omega) (by exact hLx (by omega) ((R.fl F1 (by decide) (by decide) (by decide)).z (w := a) h1 (by omega))) ?_
      refine AW.lstore dL_moves_165 rfl ?_
      refine AW.lload dL_moves_167 rfl ?_
      refine AW.lconstI 0 dL_moves_169 (by decide) ?_
      refine AW.lcmpI dL_moves_170 (by exact ⟨by omega, by omega⟩) (by exact ⟨by omega, by omega⟩) ?_
      refine AW.if_leT (tgt := 333) dL_moves_171 rfl (by rw [z0]; decide) ?_
      exact AW.locs [(16, vi _), (15, vi _), (14, vi _), (13, vi _), (12, vi _), (11, vi _), (10, vi nm), (9, vi (a : Int)), (0, vr (la 1)), (1, vr (la 2)), (2, vr (la 3)), (3, vr (la 5)), (4, vr (la 6)), (5, vr (la 7)), (6, vi (rl : Int)), (7, vi 0), (8, vr (la 9))] ⟨rfl, rfl, rfl, rfl, rfl, rfl, rfl, rfl, rfl, rfl, rfl, rfl, rfl, rfl, rfl, rfl, rfl, trivial⟩ (fin F1)
    · have HH : Unit → _ := fun _ => X2 () hz
      refine AW.iload dL_moves_84 rfl ?_
      refine' AW.if_geJ 103 (tgt := 93) dL_moves_86 rfl _ _ _
      rotate_left 2
      · intro c_86 k_86
        refine AW.aload_n dL_moves_93 rfl ?_
        refine AW.bipush dL_moves_94 bp_10 (by decide) ?_
        refine AW.iload dL_moves_96 rfl ?_
        refine AW.imulB dL_moves_98 (by omega) ?_
        refine AW.iload dL_moves_99 rfl ?_
        refine AW.iaddB dL_moves_101 (by omega) ?_
        refine AW.aldIE dL_moves_102 T.a5 (by omega) (by omega) (by exact hIx (by omega) (R.x (k := (zo Z a 0 0).toNat) (by omega))) ?_
        exact k_86
      · intro c_86 k_86
        refine AW.iconst dL_moves_89 (by decide) ?_
        refine AW.goto (tgt := 103) dL_moves_90 rfl ?_
        exact k_86
      refine AW.top (y := nL Z rz a 0 0) (e0 ()) ?_
      refine AW.istore dL_moves_103 rfl ?_
      refine AW.iload dL_moves_105 rfl ?_
      refine' AW.if_geJ 124 (tgt := 114) dL_moves_107 rfl _ _ _
      rotate_left 2
      · intro c_107 k_107
        refine AW.aload_n dL_moves_114 rfl ?_
        refine AW.bipush dL_moves_115 bp_10 (by decide) ?_
        refine AW.iload dL_moves_117 rfl ?_
        refine AW.imulB dL_moves_119 (by omega) ?_
        refine AW.iload dL_moves_120 rfl ?_
        refine AW.iaddB dL_moves_122 (by omega) ?_
        refine AW.aldIE dL_moves_123 T.a5 (by omega) (by omega) (by exact hIx (by omega) (R.x (k := (zo Z a 0 1).toNat) (by omega))) ?_
        exact k_107
      · intro c_107 k_107
        refine AW.iconst dL_moves_110 (by decide) ?_
        refine AW.goto (tgt := 124) dL_moves_111 rfl ?_
        exact k_107
      refine AW.top (y := nL Z rz a 0 1) (e1 ()) ?_
      refine AW.istore dL_moves_124 rfl ?_
      refine AW.aload_n dL_moves_126 rfl ?_
      refine AW.aload_n dL_moves_127 rfl ?_
      refine AW.aload_n dL_moves_128 rfl ?_
      refine AW.iload dL_moves_129 rfl ?_
      refine AW.iload dL_moves_131 rfl ?_
      refine AW.iload dL_moves_133 rfl ?_
      refine AW.iload dL_moves_135 rfl ?_
      refine AW.aload dL_moves_137 rfl ?_
      refine AW.callS (as := [vq _, vq _, vq _, vi _, vi _, vi _, vi _, vq _]) dL_moves_139 rfl rfl rfl okL_tells lkL_107 rfl rfl rfl (leb (by omega)) (leb (by omega)) rfl (kL_tells T S K h1 ha (by omega) l0 l1 (fun g1 F1 y0 y1 => (AW.k0 ?_)))
      refine AW.aload dL_moves_142 rfl ?_
      refine AW.iconst dL_moves_144 (by decide) ?_
      refine AW.aldIE dL_moves_145 (F1.T T).a9 (by omega) (by omega) (by exact y0) ?_
      refine AW.istore dL_moves_146 rfl ?_
      refine AW.aload dL_moves_148 rfl ?_
      refine AW.iconst dL_moves_150 (by decide) ?_
      refine AW.aldIE dL_moves_151 (F1.T T).a9 (by omega) (by omega) (by exact y1) ?_
      refine AW.istore dL_moves_152 rfl ?_
      refine AW.locs [(16, vi _), (15, vi _), (14, vi _), (13, vi _), (12, vi _), (11, vi _), (10, vi nm), (9, vi (a : Int)), (0, vr (la 1)), (1, vr (la 2)), (2, vr (la 3)), (3, vr (la 5)), (4, vr (la 6)), (5, vr (la 7)), (6, vi (rl : Int)), (7, vi 0), (8, vr (la 9))] ⟨rfl, rfl, rfl, rfl, rfl, rfl, rfl, rfl, rfl, rfl, rfl, rfl, rfl, rfl, rfl, rfl, rfl, trivial⟩ ?_
      refine AW.aload dL_moves_154 rfl ?_
      refine AW.bipush dL_moves_156 bp_13 (by decide) ?_
      refine AW.iload dL_moves_158 rfl ?_
      refine AW.imulB dL_moves_160 (by omega) ?_
      refine AW.iload dL_moves_161 rfl ?_
      refine AW.pcs (pc2 := 163) rfl ?_
      refine AW.iaddB dL_moves_163 (by omega) ?_
      refine AW.aldLE dL_moves_164 (F1.T T).a7 (by omega) (by omega) (by exact hLx (by omega) ((R.fl F1 (by decide) (by decide) (by decide)).z (w := a) h1 (by omega))) ?_
      refine AW.lstore dL_moves_165 rfl ?_
      refine AW.lload dL_moves_167 rfl ?_
      refine AW.lconstI 0 dL_moves_169 (by decide) ?_
      refine AW.lcmpI dL_moves_170 (by exact ⟨by omega, by omega⟩) (by exact ⟨by omega, by omega⟩) ?_
      refine AW.if_leF (tgt := 333) dL_moves_171 rfl (by rw [if_pos (HH ()).1]; decide) ?_
      refine AW.lload dL_moves_174 rfl ?_
      refine AW.ldc2I (3) dL_moves_176 lkL_111 (by decide) ?_
      refine AW.lremI dL_moves_179 (by exact ⟨by omega, by omega⟩) (by omega) ?_
      refine AW.topl (y := Int64.ofInt (Z 24 (24 * rz + a))) (by rw [(HH ()).2.1]) ?_
      refine AW.iload dL_moves_180 rfl ?_
      refine AW.if_eqT (tgt := 191) dL_moves_182 rfl (by omega) ?_
      refine AW.lconstI 1 dL_moves_191 (by decide) ?_
      refine AW.lcmpI dL_moves_192 (by have := (B.w (w := a) (by omega)).1; exact ⟨by omega, by omega⟩) (by exact ⟨by omega, by omega⟩) ?_
      refine AW.if_neT (tgt := 333) dL_moves_193 rfl (by have := (B.w (w := a) (by omega)).1; (repeat' split) <;> omega) ?_
      exact AW.locs [(16, vi _), (15, vi _), (14, vi _), (13, vi _), (12, vi _), (11, vi _), (10, vi nm), (9, vi (a : Int)), (0, vr (la 1)), (1, vr (la 2)), (2, vr (la 3)), (3, vr (la 5)), (4, vr (la 6)), (5, vr (la 7)), (6, vi (rl : Int)), (7, vi 0), (8, vr (la 9))] ⟨rfl, rfl, rfl, rfl, rfl, rfl, rfl, rfl, rfl, rfl, rfl, rfl, rfl, rfl, rfl, rfl, rfl, trivial⟩ (fin F1)
set_option maxHeartbeats 2000000 in
theorem kL_moves0 (T : LT h) (S : LSc h Z) (K : QS Z) (B : VB Z rz) (h1 : 1 ≤ a) (ha : (a : Int) ≤ Z 1 0) (hr : rl < 5) (hv : Z 21 rz = (a : Int)) (R : LR h Z rl rz) (k : ∀ G, FR rl h G → LR G (zmv Z (rz : Int) 0 (a : Int) 0) rl rz → Q G (.inl none)) :
    AC mL_moves fL_moves loL_moves 0 0 h [vr (la 1), vr (la 2), vr (la 3), vr (la 5), vr (la 6), vr (la 7), vi (rl : Int), vi 0, vr (la 9)] Q := by
  have b1 := K.b1
  refine AC.mk (by decide) (Nat.le_of_ble_eq_true rfl) ?_
  by_cases hw : Z 7 a = 1
  · have e0 : ∀ j, zo Z a 0 j = -1 := fun j => by unfold zo; rw [if_pos hw]
    refine AW.iload dL_moves_0 rfl ?_
    refine AW.if_eqT (tgt := 17) dL_moves_2 rfl (by omega) ?_
    refine AW.aload dL_moves_17 rfl ?_
    refine AW.iconst dL_moves_19 (by decide) ?_
    refine AW.iload dL_moves_20 rfl ?_
    refine AW.imulB dL_moves_22 (by omega) ?_
    refine AW.aldIE dL_moves_23 T.a6 (by omega) (by omega) (by exact hIx (by omega) R.y0) ?_
    refine AW.top (y := (a : Int)) (by omega) ?_
    refine AW.istore dL_moves_24 rfl ?_
    refine AW.aload_n dL_moves_26 rfl ?_
    refine AW.iload dL_moves_27 rfl ?_
    refine AW.aldIE dL_moves_29 T.a2 (by omega) (by omega) (by exact S.w (a := a) h1 ha) ?_
    refine AW.bipush dL_moves_30 bp_8 (by decide) ?_
    refine AW.irem dL_moves_32 (by omega) ?_
    refine AW.top (y := Z 7 a) (zwd_7 K h1 ha) ?_
    refine AW.iconst dL_moves_33 (by decide) ?_
    refine AW.icmp_neF (tgt := 41) dL_moves_34 rfl (by exact hw) ?_
    refine AW.iconst dL_moves_37 (by decide) ?_
    refine AW.goto (tgt := 42) dL_moves_38 rfl ?_
    refine AW.istore dL_moves_42 rfl ?_
    refine AW.iload dL_moves_44 rfl ?_
    refine AW.if_eqF (tgt := 53) dL_moves_46 rfl (by omega) ?_
    refine AW.iconst dL_moves_49 (by decide) ?_
    refine AW.goto (tgt := 62) dL_moves_50 rfl ?_
    refine AW.istore dL_moves_62 rfl ?_
    refine AW.pcs (pc2 := 64) rfl ?_
    refine AW.iload dL_moves_64 rfl ?_
    refine AW.if_eqF (tgt := 73) dL_moves_66 rfl (by omega) ?_
    refine AW.iconst dL_moves_69 (by decide) ?_
    refine AW.goto (tgt := 82) dL_moves_70 rfl ?_
    refine AW.istore dL_moves_82 rfl ?_
    refine AW.locs [(12, vi (-1)), (11, vi (-1)), (10, vi 1), (9, vi (a : Int)), (0, vr (la 1)), (1, vr (la 2)), (2, vr (la 3)), (3, vr (la 5)), (4, vr (la 6)), (5, vr (la 7)), (6, vi (rl : Int)), (7, vi 0), (8, vr (la 9))] ⟨rfl, rfl, rfl, rfl, rfl, rfl, rfl, rfl, rfl, rfl, rfl, rfl, rfl, trivial⟩ ?_
    have q := mv_A0 (mc := 0) (ms := 0) (bc := 0) (bs := 0) T S K B h1 ha hr R (by rw [if_pos hw]) k
    rw [e0, e0] at q
    exact q
  · have e0 : ∀ j, zsd Z a 0 j = zo Z a 0 j := fun j => by unfold zo; rw [if_neg hw]
    refine AW.iload dL_moves_0 rfl ?_
    refine AW.if_eqT (tgt := 17) dL_moves_2 rfl (by omega) ?_
    refine AW.aload dL_moves_17 rfl ?_
    refine AW.iconst dL_moves_19 (by decide) ?_
    refine AW.iload dL_moves_20 rfl ?_
    refine AW.imulB dL_moves_22 (by omega) ?_
    refine AW.aldIE dL_moves_23 T.a6 (by omega) (by omega) (by exact hIx (by omega) R.y0) ?_
    refine AW.top (y := (a : Int)) (by omega) ?_
    refine AW.istore dL_moves_24 rfl ?_
    refine AW.aload_n dL_moves_26 rfl ?_
    refine AW.iload dL_moves_27 rfl ?_
    refine AW.aldIE dL_moves_29 T.a2 (by omega) (by omega) (by exact S.w (a := a) h1 ha) ?_
    refine AW.bipush dL_moves_30 bp_8 (by decide) ?_
    refine AW.irem dL_moves_32 (by omega) ?_
    refine AW.top (y := Z 7 a) (zwd_7 K h1 ha) ?_
    refine AW.iconst dL_moves_33 (by decide) ?_
    refine AW.icmp_neT (tgt := 41) dL_moves_34 rfl (by exact hw) ?_
    refine AW.iconst dL_moves_41 (by decide) ?_
    refine AW.istore dL_moves_42 rfl ?_
    refine AW.iload dL_moves_44 rfl ?_
    refine AW.if_eqT (tgt := 53) dL_moves_46 rfl (by omega) ?_
    refine AW.aload_n dL_moves_53 rfl ?_
    refine AW.iload dL_moves_54 rfl ?_
    refine AW.iload dL_moves_56 rfl ?_
    refine AW.iconst dL_moves_58 (by decide) ?_
    refine AW.pcs (pc2 := 59) rfl ?_
    refine AW.callS (as := [vq _, vi _, vi _, vi _]) dL_moves_59 rfl rfl rfl okL_side lkL_86 rfl rfl rfl (leb (by omega)) (leb (by omega)) rfl (kL_side T S K h1 ha (by omega) (by omega) (AW.k1 ?_))
    refine AW.top (y := zo Z a 0 0) (e0 0) ?_
    refine AW.istore dL_moves_62 rfl ?_
    refine AW.iload dL_moves_64 rfl ?_
    refine AW.if_eqT (tgt := 73) dL_moves_66 rfl (by omega) ?_
    refine AW.aload_n dL_moves_73 rfl ?_
    refine AW.iload dL_moves_74 rfl ?_
    refine AW.iload dL_moves_76 rfl ?_
    refine AW.iconst dL_moves_78 (by decide) ?_
    refine AW.callS (as := [vq _, vi _, vi _, vi _]) dL_moves_79 rfl rfl rfl okL_side lkL_86 rfl rfl rfl (leb (by omega)) (leb (by omega)) rfl (kL_side T S K h1 ha (by omega) (by omega) (AW.k1 ?_))
    refine AW.top (y := zo Z a 0 1) (e0 1) ?_
    refine AW.istore dL_moves_82 rfl ?_
    exact AW.locs [(12, vi (zo Z a 0 1)), (11, vi (zo Z a 0 0)), (10, vi 0), (9, vi (a : Int)), (0, vr (la 1)), (1, vr (la 2)), (2, vr (la 3)), (3, vr (la 5)), (4, vr (la 6)), (5, vr (la 7)), (6, vi (rl : Int)), (7, vi 0), (8, vr (la 9))] ⟨rfl, rfl, rfl, rfl, rfl, rfl, rfl, rfl, rfl, rfl, rfl, rfl, rfl, trivial⟩ (mv_A0 T S K B h1 ha hr R (by rw [if_neg hw]) k)
set_option maxHeartbeats 4000000 in
theorem mv_A1 {nm : Int} (T : LT h) (S : LSc h Z) (K : QS Z) (B : VB Z rz) (h1 : 1 ≤ a) (ha : (a : Int) ≤ Z 1 0) (hr : rl < 5) (R : LR h Z rl rz) (en : nm = if Z 7 a = 1 then 1 else 0) (k : ∀ G, FR rl h G → LR G (zmv Z (rz : Int) 0 (a : Int) 1) rl rz → Q G (.inl none)) :
    AW mL_moves fL_moves loL_moves mc ms Q bc bs 84 h [(12, vi (zo Z a 1 1)), (11, vi (zo Z a 1 0)), (10, vi nm), (9, vi (a : Int)), (0, vr (la 1)), (1, vr (la 2)), (2, vr (la 3)), (3, vr (la 5)), (4, vr (la 6)), (5, vr (la 7)), (6, vi (rl : Int)), (7, vi 1), (8, vr (la 9))] [] := by
  have b1 := K.b1
  have b2 := K.b2
  have f0 := zo_r K h1 ha 1 0 (Or.inl rfl)
  have f1 := zo_r K h1 ha 1 1 (Or.inr rfl)
  have s0 := nL_sb K B h1 ha (u := 1) (Or.inl rfl)
  have s1 := nL_sb K B h1 ha (u := 1) (Or.inr rfl)
  have l0 := s0.b
  have l1 := s1.b
  obtain ⟨sG0, sG1⟩ := sb_G K h1 ha (Or.inr rfl) s0 s1
  have G0 := sG0.b
  have G1 := sG1.b
  obtain ⟨X0, XX⟩ := bx_rd B (a := a) (by omega)
  have X1 : Unit → _ := fun _ => XX.1
  have X2 : Unit → _ := fun _ => XX.2
  clear XX
  have e0 : Unit → (if 0 ≤ zo Z a 1 0 then Z 22 (48 * rz + (zo Z a 1 0).toNat) else -1) = nL Z rz a 1 0 := fun _ => by unfold nL; (repeat' split) <;> first | rfl | omega
  have e1 : Unit → (if 0 ≤ zo Z a 1 1 then Z 22 (48 * rz + (zo Z a 1 1).toNat) else -1) = nL Z rz a 1 1 := fun _ => by unfold nL; (repeat' split) <;> first | rfl | omega
  have kz := zmv_n (rz := rz) (u := 1) K h1 ha
  by_cases hm : Z 24 (24 * rz + a) = 2
  · have hm' : Z 24 (24 * rz + a) = (if (1 : Int) = 0 then 1 else 2) := by rw [hm]; rfl
    have HH : Unit → _ := fun _ => X2 () (by omega)
    have x6 := (HH ()).2.2.2.2.2.1
    have x7 := (HH ()).2.2.2.2.2.2
    refine AW.hin (la 6) (2 * rl + 1) (fun hq => ?_)
    rw [R.y1] at hq
    by_cases kb : nbk Z rz a 1 (nL Z rz a 1 0) (nL Z rz a 1 1)
    · have eC : nC Z rz a 1 = _ := zC_in hm' kb
      rw [kz, eC] at k
      refine AW.iload dL_moves_84 rfl ?_
      refine' AW.if_geJ 103 (tgt := 93) dL_moves_86 rfl _ _ _
      rotate_left 2
      · intro c_86 k_86
        refine AW.aload_n dL_moves_93 rfl ?_
        refine AW.bipush dL_moves_94 bp_10 (by decide) ?_
        refine AW.iload dL_moves_96 rfl ?_
        refine AW.imulB dL_moves_98 (by omega) ?_
        refine AW.iload dL_moves_99 rfl ?_
        refine AW.iaddB dL_moves_101 (by omega) ?_
        refine AW.aldIE dL_moves_102 T.a5 (by omega) (by omega) (by exact hIx (by omega) (R.x (k := (zo Z a 1 0).toNat) (by omega))) ?_
        exact k_86
      · intro c_86 k_86
        refine AW.iconst dL_moves_89 (by decide) ?_
        refine AW.goto (tgt := 103) dL_moves_90 rfl ?_
        exact k_86
      refine AW.top (y := nL Z rz a 1 0) (e0 ()) ?_
      refine AW.istore dL_moves_103 rfl ?_
      refine AW.iload dL_moves_105 rfl ?_
      refine' AW.if_geJ 124 (tgt := 114) dL_moves_107 rfl _ _ _
      rotate_left 2
      · intro c_107 k_107
        refine AW.aload_n dL_moves_114 rfl ?_
        refine AW.bipush dL_moves_115 bp_10 (by decide) ?_
        refine AW.iload dL_moves_117 rfl ?_
        refine AW.imulB dL_moves_119 (by omega) ?_
        refine AW.iload dL_moves_120 rfl ?_
        refine AW.iaddB dL_moves_122 (by omega) ?_
        refine AW.aldIE dL_moves_123 T.a5 (by omega) (by omega) (by exact hIx (by omega) (R.x (k := (zo Z a 1 1).toNat) (by omega))) ?_
        exact k_107
      · intro c_107 k_107
        refine AW.iconst dL_moves_110 (by decide) ?_
        refine AW.goto (tgt := 124) dL_moves_111 rfl ?_
        exact k_107
      refine AW.top (y := nL Z rz a 1 1) (e1 ()) ?_
      refine AW.istore dL_moves_124 rfl ?_
      refine AW.aload_n dL_moves_126 rfl ?_
      refine AW.aload_n dL_moves_127 rfl ?_
      refine AW.aload_n dL_moves_128 rfl ?_
      refine AW.iload dL_moves_129 rfl ?_
      refine AW.iload dL_moves_131 rfl ?_
      refine AW.iload dL_moves_133 rfl ?_
      refine AW.iload dL_moves_135 rfl ?_
      refine AW.aload dL_moves_137 rfl ?_
      refine AW.callS (as := [vq _, vq _, vq _, vi _, vi _, vi _, vi _, vq _]) dL_moves_139 rfl rfl rfl okL_tells lkL_107 rfl rfl rfl (leb (by omega)) (leb (by omega)) rfl (kL_tells T S K h1 ha (by omega) l0 l1 (fun g1 F1 y0 y1 => (AW.k0 ?_)))
      refine AW.aload dL_moves_142 rfl ?_
      refine AW.iconst dL_moves_144 (by decide) ?_
      refine AW.aldIE dL_moves_145 (F1.T T).a9 (by omega) (by omega) (by exact y0) ?_
      refine AW.istore dL_moves_146 rfl ?_
      refine AW.aload dL_moves_148 rfl ?_
      refine AW.iconst dL_moves_150 (by decide) ?_
      refine AW.aldIE dL_moves_151 (F1.T T).a9 (by omega) (by omega) (by exact y1) ?_
      refine AW.istore dL_moves_152 rfl ?_
      refine AW.locs [(16, vi _), (15, vi _), (14, vi _), (13, vi _), (12, vi _), (11, vi _), (10, vi nm), (9, vi (a : Int)), (0, vr (la 1)), (1, vr (la 2)), (2, vr (la 3)), (3, vr (la 5)), (4, vr (la 6)), (5, vr (la 7)), (6, vi (rl : Int)), (7, vi 1), (8, vr (la 9))] ⟨rfl, rfl, rfl, rfl, rfl, rfl, rfl, rfl, rfl, rfl, rfl, rfl, rfl, rfl, rfl, rfl, rfl, trivial⟩ ?_
      refine AW.aload dL_moves_154 rfl ?_
      refine AW.bipush dL_moves_156 bp_13 (by decide) ?_
      refine AW.iload dL_moves_158 rfl ?_
      refine AW.imulB dL_moves_160 (by omega) ?_
      refine AW.iload dL_moves_161 rfl ?_
      refine AW.pcs (pc2 := 163) rfl ?_
      refine AW.iaddB dL_moves_163 (by omega) ?_
      refine AW.aldLE dL_moves_164 (F1.T T).a7 (by omega) (by omega) (by exact hLx (by omega) ((R.fl F1 (by decide) (by decide) (by decide)).z (w := a) h1 (by omega))) ?_
      refine AW.lstore dL_moves_165 rfl ?_
      refine AW.lload dL_moves_167 rfl ?_
      refine AW.lconstI 0 dL_moves_169 (by decide) ?_
      refine AW.lcmpI dL_moves_170 (by exact ⟨by omega, by omega⟩) (by exact ⟨by omega, by omega⟩) ?_
      refine AW.if_leF (tgt := 333) dL_moves_171 rfl (by rw [if_pos (HH ()).1]; decide) ?_
      refine AW.lload dL_moves_174 rfl ?_
      refine AW.ldc2I (3) dL_moves_176 lkL_111 (by decide) ?_
      refine AW.lremI dL_moves_179 (by exact ⟨by omega, by omega⟩) (by omega) ?_
      refine AW.topl (y := Int64.ofInt 2) (by rw [(HH ()).2.1, hm]) ?_
      refine AW.iload dL_moves_180 rfl ?_
      refine AW.if_eqF (tgt := 191) dL_moves_182 rfl (by omega) ?_
      refine AW.ldc2I (2) dL_moves_185 lkL_113 (by decide) ?_
      refine AW.goto (tgt := 192) dL_moves_188 rfl ?_
      refine AW.lcmpI dL_moves_192 (by exact ⟨by omega, by omega⟩) (by exact ⟨by omega, by omega⟩) ?_
      refine AW.if_neF (tgt := 333) dL_moves_193 rfl (by decide) ?_
      refine AW.lload dL_moves_196 rfl ?_
      refine AW.ldc2I (3) dL_moves_198 lkL_111 (by decide) ?_
      refine AW.ldivI dL_moves_201 (by exact ⟨by omega, by omega⟩) (by omega) ?_
      refine AW.ldc2I (10001) dL_moves_202 lkL_115 (by decide) ?_
      refine AW.lremI dL_moves_205 (by exact inL_b (HH ()).2.2.1) (by omega) ?_
      refine AW.l2iI dL_moves_206 (by rw [(HH ()).2.2.2.1]; exact ⟨by omega, by omega⟩) ?_
      refine AW.top (y := Z 25 (2 * (24 * rz + a)) + 1) (HH ()).2.2.2.1 ?_
      refine AW.iconst dL_moves_207 (by decide) ?_
      refine AW.isubB dL_moves_208 (by omega) ?_
      refine AW.top (y := Z 25 (2 * (24 * rz + a))) (by omega) ?_
      refine AW.pcs (pc2 := 209) rfl ?_
      refine AW.istore dL_moves_209 rfl ?_
      refine AW.lload dL_moves_211 rfl ?_
      refine AW.ldc2I (30003) dL_moves_213 lkL_117 (by decide) ?_
      refine AW.ldivI dL_moves_216 (by exact ⟨by omega, by omega⟩) (by omega) ?_
      refine AW.l2iI dL_moves_217 (by rw [(HH ()).2.2.2.2.1]; exact ⟨by omega, by omega⟩) ?_
      refine AW.top (y := Z 25 (2 * (24 * rz + a) + 1) + 1) (HH ()).2.2.2.2.1 ?_
      refine AW.iconst dL_moves_218 (by decide) ?_
      refine AW.isubB dL_moves_219 (by omega) ?_
      refine AW.top (y := Z 25 (2 * (24 * rz + a) + 1)) (by omega) ?_
      refine AW.istore dL_moves_220 rfl ?_
      refine AW.locs [(20, vi _), (19, vi _), (16, vi _), (15, vi _), (14, vi _), (13, vi _), (12, vi _), (11, vi _), (10, vi nm), (9, vi (a : Int)), (0, vr (la 1)), (1, vr (la 2)), (2, vr (la 3)), (3, vr (la 5)), (4, vr (la 6)), (5, vr (la 7)), (6, vi (rl : Int)), (7, vi 1), (8, vr (la 9))] ⟨rfl, rfl, rfl, rfl, rfl, rfl, rfl, rfl, rfl, rfl, rfl, rfl, rfl, rfl, rfl, rfl, rfl, rfl, rfl, trivial⟩ ?_
      refine AW.aload dL_moves_222 rfl ?_
      refine AW.bipush dL_moves_224 bp_13 (by decide) ?_
      refine AW.iload dL_moves_226 rfl ?_
      refine AW.imulB dL_moves_228 (by omega) ?_
      refine AW.iload dL_moves_229 rfl ?_
      refine AW.iaddB dL_moves_231 (by omega) ?_
      refine AW.lconstI 0 dL_moves_232 (by decide) ?_
      refine AW.astL dL_moves_233 (F1.T T).a7 (by omega) (by omega) ?_
      rw [show (13 * (rl : Int) + (a : Int)).toNat = 13 * rl + a by omega]
      refine AW.gen (P := fun g => FR rl h g ∧ LR g (zs Z 24 (24 * rz + a) 0) rl rz) ⟨(FR.rf.f9 F1).w7 h1 (by omega), (R.fl F1 (by decide) (by decide) (by decide)).out h1 (by omega)⟩ (fun g2 ⟨W2, R2⟩ => ?_)
      have T2 := W2.1.T T
      have S2 := S.fr W2
      refine AW.aload_n dL_moves_234 rfl ?_
      refine AW.aload_n dL_moves_235 rfl ?_
      refine AW.aload_n dL_moves_236 rfl ?_
      refine AW.iload dL_moves_237 rfl ?_
      refine AW.iload dL_moves_239 rfl ?_
      refine AW.if_neT (tgt := 248) dL_moves_241 rfl (by omega) ?_
      refine AW.iconst dL_moves_248 (by decide) ?_
      refine AW.iload dL_moves_249 rfl ?_
      refine AW.pcs (pc2 := 251) rfl ?_
      refine AW.iload dL_moves_251 rfl ?_
      refine AW.aload dL_moves_253 rfl ?_
      refine AW.callS (as := [vq _, vq _, vq _, vi _, vi _, vi _, vi _, vq _]) dL_moves_255 rfl rfl rfl okL_tells lkL_107 rfl rfl rfl (leb (by omega)) (leb (by omega)) rfl (kL_tells T2 S2 K h1 ha (by omega) x6 x7 (fun g3 F3 z0 z1 => (AW.k0 ?_)))
      refine AW.aload dL_moves_258 rfl ?_
      refine AW.iconst dL_moves_260 (by decide) ?_
      refine AW.aldIE dL_moves_261 (F3.T T2).a9 (by omega) (by omega) (by exact z0) ?_
      refine AW.iload dL_moves_262 rfl ?_
      refine' AW.icmp_neJ 281 (tgt := 280) dL_moves_264 rfl _ _ _
      rotate_left 2
      · intro c_264 k_264
        refine AW.iconst dL_moves_280 (by decide) ?_
        exact k_264
      · intro c_264 k_264
        refine AW.aload dL_moves_267 rfl ?_
        refine AW.iconst dL_moves_269 (by decide) ?_
        refine AW.aldIE dL_moves_270 (F3.T T2).a9 (by omega) (by omega) (by exact z1) ?_
        refine AW.iload dL_moves_271 rfl ?_
        refine' AW.icmp_neJ 281 (tgt := 280) dL_moves_273 rfl _ _ _
        rotate_left 2
        · intro c_273 k_273
          refine AW.iconst dL_moves_280 (by decide) ?_
          exact k_273
        · intro c_273 k_273
          refine AW.iconst dL_moves_276 (by decide) ?_
          refine AW.goto (tgt := 281) dL_moves_277 rfl ?_
          exact k_273
        exact k_264
      refine AW.top (y := 1) (by rw [if_neg (fun z => z kb.1), if_neg (fun z => z kb.2)]) ?_
      refine AW.istore dL_moves_281 rfl ?_
      have W3 := W2.f9 F3
      have T3 := F3.T T2
      have S3 := S.fr W3
      have R3 := R2.fl F3 (by decide) (by decide) (by decide)
      refine AW.iload dL_moves_283 rfl ?_
      refine AW.if_eqF (tgt := 293) dL_moves_285 rfl (by omega) ?_
      refine AW.iload dL_moves_288 rfl ?_
      refine AW.goto (tgt := 295) dL_moves_290 rfl ?_
      refine AW.istore dL_moves_295 rfl ?_
      refine AW.iload dL_moves_297 rfl ?_
      refine AW.if_eqF (tgt := 307) dL_moves_299 rfl (by omega) ?_
      refine AW.iload dL_moves_302 rfl ?_
      refine AW.goto (tgt := 309) dL_moves_304 rfl ?_
      refine AW.istore dL_moves_309 rfl ?_
      refine AW.locs [(21, vi _), (16, vi _), (15, vi _), (14, vi _), (13, vi _), (12, vi _), (11, vi _), (10, vi nm), (9, vi (a : Int)), (0, vr (la 1)), (1, vr (la 2)), (2, vr (la 3)), (3, vr (la 5)), (4, vr (la 6)), (5, vr (la 7)), (6, vi (rl : Int)), (7, vi 1), (8, vr (la 9))] ⟨rfl, rfl, rfl, rfl, rfl, rfl, rfl, rfl, rfl, rfl, rfl, rfl, rfl, rfl, rfl, rfl, rfl, rfl, trivial⟩ ?_
      refine AW.aload dL_moves_311 rfl ?_
      refine AW.iconst dL_moves_313 (by decide) ?_
      refine AW.iload dL_moves_314 rfl ?_
      refine AW.imulB dL_moves_316 (by omega) ?_
      refine AW.iconst dL_moves_317 (by decide) ?_
      refine AW.iaddB dL_moves_318 (by omega) ?_
      refine AW.dup2 dL_moves_319 rfl rfl ?_
      refine AW.aldIE dL_moves_320 (F3.T T2).a6 (by omega) (by omega) (by exact hIx (by omega) R3.y1) ?_
      refine AW.iload dL_moves_321 rfl ?_
      refine AW.if_eqF (tgt := 330) dL_moves_323 rfl (by omega) ?_
      refine AW.iconst dL_moves_326 (by decide) ?_
      refine AW.goto (tgt := 331) dL_moves_327 rfl ?_
      refine AW.pcs (pc2 := 331) rfl ?_
      refine AW.iadd dL_moves_331 ?_
      refine AW.astI dL_moves_332 (F3.T T2).a6 (by omega) (by omega) ?_
      refine AW.locs [(16, vi _), (15, vi _), (14, vi _), (13, vi _), (12, vi _), (11, vi _), (10, vi nm), (9, vi (a : Int)), (0, vr (la 1)), (1, vr (la 2)), (2, vr (la 3)), (3, vr (la 5)), (4, vr (la 6)), (5, vr (la 7)), (6, vi (rl : Int)), (7, vi 1), (8, vr (la 9))] ⟨rfl, rfl, rfl, rfl, rfl, rfl, rfl, rfl, rfl, rfl, rfl, rfl, rfl, rfl, rfl, rfl, rfl, trivial⟩ ?_
      rw [show (2 * (rl : Int) + 1).toNat = 2 * rl + 1 by omega]
      exact mv_B1 (C := zs Z 24 (24 * rz + a) 0) T3 (LSc.fr (FR.w6 (k := 1) FR.rf (by decide)) S3) K h1 ha hr (R3.los0 (by rw [Int.add_zero]; exact wr_id hq)) (sj_zs (by decide)) en l0 l1 x6 x7 (fun G F4 R4 => k G ((W3.w6 (k := 1) (by decide)).tr F4) R4)
    · have eC : nC Z rz a 1 = _ := zC_lo hm' kb
      have e281 : Unit → (if ¬ zG0 Z 0 0 (a : Int) (Z 25 (2 * (24 * rz + a))) (Z 25 (2 * (24 * rz + a) + 1)) = nL Z rz a 1 0 then (0 : Int) else if ¬ zG1 Z 0 0 (a : Int) (Z 25 (2 * (24 * rz + a))) = nL Z rz a 1 1 then 0 else 1) = 0 := fun _ => by
        by_cases c0 : zG0 Z 0 0 (a : Int) (Z 25 (2 * (24 * rz + a))) (Z 25 (2 * (24 * rz + a) + 1)) = nL Z rz a 1 0
        · rw [if_neg (fun z => z c0)]; exact if_pos (fun c1 => kb ⟨c0, c1⟩)
        · rw [if_pos c0]
      rw [kz, eC] at k
      refine AW.iload dL_moves_84 rfl ?_
      refine' AW.if_geJ 103 (tgt := 93) dL_moves_86 rfl _ _ _
      rotate_left 2
      · intro c_86 k_86
        refine AW.aload_n dL_moves_93 rfl ?_
        refine AW.bipush dL_moves_94 bp_10 (by decide) ?_
        refine AW.iload dL_moves_96 rfl ?_
        refine AW.imulB dL_moves_98 (by omega) ?_
        refine AW.iload dL_moves_99 rfl ?_
        refine AW.iaddB dL_moves_101 (by omega) ?_
        refine AW.aldIE dL_moves_102 T.a5 (by omega) (by omega) (by exact hIx (by omega) (R.x (k := (zo Z a 1 0).toNat) (by omega))) ?_
        exact k_86
      · intro c_86 k_86
        refine AW.iconst dL_moves_89 (by decide) ?_
        refine AW.goto (tgt := 103) dL_moves_90 rfl ?_
        exact k_86
      refine AW.top (y := nL Z rz a 1 0) (e0 ()) ?_
      refine AW.istore dL_moves_103 rfl ?_
      refine AW.iload dL_moves_105 rfl ?_
      refine' AW.if_geJ 124 (tgt := 114) dL_moves_107 rfl _ _ _
      rotate_left 2
      · intro c_107 k_107
        refine AW.aload_n dL_moves_114 rfl ?_
        refine AW.bipush dL_moves_115 bp_10 (by decide) ?_
        refine AW.iload dL_moves_117 rfl ?_
        refine AW.imulB dL_moves_119 (by omega) ?_
        refine AW.iload dL_moves_120 rfl ?_
        refine AW.iaddB dL_moves_122 (by omega) ?_
        refine AW.aldIE dL_moves_123 T.a5 (by omega) (by omega) (by exact hIx (by omega) (R.x (k := (zo Z a 1 1).toNat) (by omega))) ?_
        exact k_107
      · intro c_107 k_107
        refine AW.iconst dL_moves_110 (by decide) ?_
        refine AW.goto (tgt := 124) dL_moves_111 rfl ?_
        exact k_107
      refine AW.top (y := nL Z rz a 1 1) (e1 ()) ?_
      refine AW.istore dL_moves_124 rfl ?_
      refine AW.aload_n dL_moves_126 rfl ?_
      refine AW.aload_n dL_moves_127 rfl ?_
      refine AW.aload_n dL_moves_128 rfl ?_
      refine AW.iload dL_moves_129 rfl ?_
      refine AW.iload dL_moves_131 rfl ?_
      refine AW.iload dL_moves_133 rfl ?_
      refine AW.iload dL_moves_135 rfl ?_
      refine AW.aload dL_moves_137 rfl ?_
      refine AW.callS (as := [vq _, vq _, vq _, vi _, vi _, vi _, vi _, vq _]) dL_moves_139 rfl rfl rfl okL_tells lkL_107 rfl rfl rfl (leb (by omega)) (leb (by omega)) rfl (kL_tells T S K h1 ha (by omega) l0 l1 (fun g1 F1 y0 y1 => (AW.k0 ?_)))
      refine AW.aload dL_moves_142 rfl ?_
      refine AW.iconst dL_moves_144 (by decide) ?_
      refine AW.aldIE dL_moves_145 (F1.T T).a9 (by omega) (by omega) (by exact y0) ?_
      refine AW.istore dL_moves_146 rfl ?_
      refine AW.aload dL_moves_148 rfl ?_
      refine AW.iconst dL_moves_150 (by decide) ?_
      refine AW.aldIE dL_moves_151 (F1.T T).a9 (by omega) (by omega) (by exact y1) ?_
      refine AW.istore dL_moves_152 rfl ?_
      refine AW.locs [(16, vi _), (15, vi _), (14, vi _), (13, vi _), (12, vi _), (11, vi _), (10, vi nm), (9, vi (a : Int)), (0, vr (la 1)), (1, vr (la 2)), (2, vr (la 3)), (3, vr (la 5)), (4, vr (la 6)), (5, vr (la 7)), (6, vi (rl : Int)), (7, vi 1), (8, vr (la 9))] ⟨rfl, rfl, rfl, rfl, rfl, rfl, rfl, rfl, rfl, rfl, rfl, rfl, rfl, rfl, rfl, rfl, rfl, trivial⟩ ?_
      refine AW.aload dL_moves_154 rfl ?_
      refine AW.bipush dL_moves_156 bp_13 (by decide) ?_
      refine AW.iload dL_moves_158 rfl ?_
      refine AW.imulB dL_moves_160 (by omega) ?_
      refine AW.iload dL_moves_161 rfl ?_
      refine AW.pcs (pc2 := 163) rfl ?_
      refine AW.iaddB dL_moves_163 (by omega) ?_
      refine AW.aldLE dL_moves_164 (F1.T T).a7 (by omega) (by omega) (by exact hLx (by omega) ((R.fl F1 (by decide) (by decide) (by decide)).z (w := a) h1 (by omega))) ?_
      refine AW.lstore dL_moves_165 rfl ?_
      refine AW.lload dL_moves_167 rfl ?_
      refine AW.lconstI 0 dL_moves_169 (by decide) ?_
      refine AW.lcmpI dL_moves_170 (by exact ⟨by omega, by omega⟩) (by exact ⟨by omega, by omega⟩) ?_
      refine AW.if_leF (tgt := 333) dL_moves_171 rfl (by rw [if_pos (HH ()).1]; decide) ?_
      refine AW.lload dL_moves_174 rfl ?_
      refine AW.ldc2I (3) dL_moves_176 lkL_111 (by decide) ?_
      refine AW.lremI dL_moves_179 (by exact ⟨by omega, by omega⟩) (by omega) ?_
      refine AW.topl (y := Int64.ofInt 2) (by rw [(HH ()).2.1, hm]) ?_
      refine AW.iload dL_moves_180 rfl ?_
      refine AW.if_eqF (tgt := 191) dL_moves_182 rfl (by omega) ?_
      refine AW.ldc2I (2) dL_moves_185 lkL_113 (by decide) ?_
      refine AW.goto (tgt := 192) dL_moves_188 rfl ?_
      refine AW.lcmpI dL_moves_192 (by exact ⟨by omega, by omega⟩) (by exact ⟨by omega, by omega⟩) ?_
      refine AW.if_neF (tgt := 333) dL_moves_193 rfl (by decide) ?_
      refine AW.lload dL_moves_196 rfl ?_
      refine AW.ldc2I (3) dL_moves_198 lkL_111 (by decide) ?_
      refine AW.ldivI dL_moves_201 (by exact ⟨by omega, by omega⟩) (by omega) ?_
      refine AW.ldc2I (10001) dL_moves_202 lkL_115 (by decide) ?_
      refine AW.lremI dL_moves_205 (by exact inL_b (HH ()).2.2.1) (by omega) ?_
      refine AW.l2iI dL_moves_206 (by rw [(HH ()).2.2.2.1]; exact ⟨by omega, by omega⟩) ?_
      refine AW.top (y := Z 25 (2 * (24 * rz + a)) + 1) (HH ()).2.2.2.1 ?_
      refine AW.iconst dL_moves_207 (by decide) ?_
      refine AW.isubB dL_moves_208 (by omega) ?_
      refine AW.top (y := Z 25 (2 * (24 * rz + a))) (by omega) ?_
      refine AW.pcs (pc2 := 209) rfl ?_
      refine AW.istore dL_moves_209 rfl ?_
      refine AW.lload dL_moves_211 rfl ?_
      refine AW.ldc2I (30003) dL_moves_213 lkL_117 (by decide) ?_
      refine AW.ldivI dL_moves_216 (by exact ⟨by omega, by omega⟩) (by omega) ?_
      refine AW.l2iI dL_moves_217 (by rw [(HH ()).2.2.2.2.1]; exact ⟨by omega, by omega⟩) ?_
      refine AW.top (y := Z 25 (2 * (24 * rz + a) + 1) + 1) (HH ()).2.2.2.2.1 ?_
      refine AW.iconst dL_moves_218 (by decide) ?_
      refine AW.isubB dL_moves_219 (by omega) ?_
      refine AW.top (y := Z 25 (2 * (24 * rz + a) + 1)) (by omega) ?_
      refine AW.istore dL_moves_220 rfl ?_
      refine AW.locs [(20, vi _), (19, vi _), (16, vi _), (15, vi _), (14, vi _), (13, vi _), (12, vi _), (11, vi _), (10, vi nm), (9, vi (a : Int)), (0, vr (la 1)), (1, vr (la 2)), (2, vr (la 3)), (3, vr (la 5)), (4, vr (la 6)), (5, vr (la 7)), (6, vi (rl : Int)), (7, vi 1), (8, vr (la 9))] ⟨rfl, rfl, rfl, rfl, rfl, rfl, rfl, rfl, rfl, rfl, rfl, rfl, rfl, rfl, rfl, rfl, rfl, rfl, rfl, trivial⟩ ?_
      refine AW.aload dL_moves_222 rfl ?_
      refine AW.bipush dL_moves_224 bp_13 (by decide) ?_
      refine AW.iload dL_moves_226 rfl ?_
      refine AW.imulB dL_moves_228 (by omega) ?_
      refine AW.iload dL_moves_229 rfl ?_
      refine AW.iaddB dL_moves_231 (by omega) ?_
      refine AW.lconstI 0 dL_moves_232 (by decide) ?_
      refine AW.astL dL_moves_233 (F1.T T).a7 (by omega) (by omega) ?_
      rw [show (13 * (rl : Int) + (a : Int)).toNat = 13 * rl + a by omega]
      refine AW.gen (P := fun g => FR rl h g ∧ LR g (zs Z 24 (24 * rz + a) 0) rl rz) ⟨(FR.rf.f9 F1).w7 h1 (by omega), (R.fl F1 (by decide) (by decide) (by decide)).out h1 (by omega)⟩ (fun g2 ⟨W2, R2⟩ => ?_)
      have T2 := W2.1.T T
      have S2 := S.fr W2
      refine AW.aload_n dL_moves_234 rfl ?_
      refine AW.aload_n dL_moves_235 rfl ?_
      refine AW.aload_n dL_moves_236 rfl ?_
      refine AW.iload dL_moves_237 rfl ?_
      refine AW.iload dL_moves_239 rfl ?_
      refine AW.if_neT (tgt := 248) dL_moves_241 rfl (by omega) ?_
      refine AW.iconst dL_moves_248 (by decide) ?_
      refine AW.iload dL_moves_249 rfl ?_
      refine AW.pcs (pc2 := 251) rfl ?_
      refine AW.iload dL_moves_251 rfl ?_
      refine AW.aload dL_moves_253 rfl ?_
      refine AW.callS (as := [vq _, vq _, vq _, vi _, vi _, vi _, vi _, vq _]) dL_moves_255 rfl rfl rfl okL_tells lkL_107 rfl rfl rfl (leb (by omega)) (leb (by omega)) rfl (kL_tells T2 S2 K h1 ha (by omega) x6 x7 (fun g3 F3 z0 z1 => (AW.k0 ?_)))
      refine AW.aload dL_moves_258 rfl ?_
      refine AW.iconst dL_moves_260 (by decide) ?_
      refine AW.aldIE dL_moves_261 (F3.T T2).a9 (by omega) (by omega) (by exact z0) ?_
      refine AW.iload dL_moves_262 rfl ?_
      refine' AW.icmp_neJ 281 (tgt := 280) dL_moves_264 rfl _ _ _
      rotate_left 2
      · intro c_264 k_264
        refine AW.iconst dL_moves_280 (by decide) ?_
        exact k_264
      · intro c_264 k_264
        refine AW.aload dL_moves_267 rfl ?_
        refine AW.iconst dL_moves_269 (by decide) ?_
        refine AW.aldIE dL_moves_270 (F3.T T2).a9 (by omega) (by omega) (by exact z1) ?_
        refine AW.iload dL_moves_271 rfl ?_
        refine' AW.icmp_neJ 281 (tgt := 280) dL_moves_273 rfl _ _ _
        rotate_left 2
        · intro c_273 k_273
          refine AW.iconst dL_moves_280 (by decide) ?_
          exact k_273
        · intro c_273 k_273
          refine AW.iconst dL_moves_276 (by decide) ?_
          refine AW.goto (tgt := 281) dL_moves_277 rfl ?_
          exact k_273
        exact k_264
      refine AW.top (y := 0) (e281 ()) ?_
      refine AW.istore dL_moves_281 rfl ?_
      have W3 := W2.f9 F3
      have T3 := F3.T T2
      have S3 := S.fr W3
      have R3 := R2.fl F3 (by decide) (by decide) (by decide)
      refine AW.iload dL_moves_283 rfl ?_
      refine AW.if_eqT (tgt := 293) dL_moves_285 rfl (by omega) ?_
      refine AW.iload dL_moves_293 rfl ?_
      refine AW.istore dL_moves_295 rfl ?_
      refine AW.iload dL_moves_297 rfl ?_
      refine AW.if_eqT (tgt := 307) dL_moves_299 rfl (by omega) ?_
      refine AW.iload dL_moves_307 rfl ?_
      refine AW.istore dL_moves_309 rfl ?_
      refine AW.locs [(21, vi _), (16, vi _), (15, vi _), (14, vi _), (13, vi _), (12, vi _), (11, vi _), (10, vi nm), (9, vi (a : Int)), (0, vr (la 1)), (1, vr (la 2)), (2, vr (la 3)), (3, vr (la 5)), (4, vr (la 6)), (5, vr (la 7)), (6, vi (rl : Int)), (7, vi 1), (8, vr (la 9))] ⟨rfl, rfl, rfl, rfl, rfl, rfl, rfl, rfl, rfl, rfl, rfl, rfl, rfl, rfl, rfl, rfl, rfl, rfl, trivial⟩ ?_
      refine AW.aload dL_moves_311 rfl ?_
      refine AW.iconst dL_moves_313 (by decide) ?_
      refine AW.iload dL_moves_314 rfl ?_
      refine AW.imulB dL_moves_316 (by omega) ?_
      refine AW.iconst dL_moves_317 (by decide) ?_
      refine AW.iaddB dL_moves_318 (by omega) ?_
      refine AW.dup2 dL_moves_319 rfl rfl ?_
      refine AW.aldIE dL_moves_320 (F3.T T2).a6 (by omega) (by omega) (by exact hIx (by omega) R3.y1) ?_
      refine AW.iload dL_moves_321 rfl ?_
      refine AW.if_eqT (tgt := 330) dL_moves_323 rfl (by omega) ?_
      refine AW.iconst dL_moves_330 (by decide) ?_
      refine AW.iadd dL_moves_331 ?_
      refine AW.astI dL_moves_332 (F3.T T2).a6 (by omega) (by omega) ?_
      refine AW.locs [(16, vi _), (15, vi _), (14, vi _), (13, vi _), (12, vi _), (11, vi _), (10, vi nm), (9, vi (a : Int)), (0, vr (la 1)), (1, vr (la 2)), (2, vr (la 3)), (3, vr (la 5)), (4, vr (la 6)), (5, vr (la 7)), (6, vi (rl : Int)), (7, vi 1), (8, vr (la 9))] ⟨rfl, rfl, rfl, rfl, rfl, rfl, rfl, rfl, rfl, rfl, rfl, rfl, rfl, rfl, rfl, rfl, rfl, trivial⟩ ?_
      rw [show (2 * (rl : Int) + 1).toNat = 2 * rl + 1 by omega]
      exact mv_B1 (C := zs (zs Z 24 (24 * rz + a) 0) 23 rz (wr (Z 23 rz + 1))) T3 (LSc.fr (FR.w6 (k := 1) FR.rf (by decide)) S3) K h1 ha hr R3.los (sj_tr (sj_zs (by decide)) (sj_zs (by decide))) en l0 l1 G0 G1 (fun G F4 R4 => k G ((W3.w6 (k := 1) (by decide)).tr F4) R4)
  · have hm' : ¬ Z 24 (24 * rz + a) = (if (1 : Int) = 0 then 1 else 2) := fun z => hm (by rw [z]; rfl)
    have eC : nC Z rz a 1 = _ := zC_no hm'
    rw [kz, eC] at k
    have fin : ∀ {G : AH}, FL (fun j => j = 9) h G → AW mL_moves fL_moves loL_moves mc ms Q bc bs 333 G [(16, vi (zG1 Z 1 0 (a : Int) (nL Z rz a 1 0))), (15, vi (zG0 Z 1 0 (a : Int) (nL Z rz a 1 0) (nL Z rz a 1 1))), (14, vi (nL Z rz a 1 1)), (13, vi (nL Z rz a 1 0)), (12, vi (zo Z a 1 1)), (11, vi (zo Z a 1 0)), (10, vi nm), (9, vi (a : Int)), (0, vr (la 1)), (1, vr (la 2)), (2, vr (la 3)), (3, vr (la 5)), (4, vr (la 6)), (5, vr (la 7)), (6, vi (rl : Int)), (7, vi 1), (8, vr (la 9))] [] := fun F1 => mv_B1 (C := Z) (F1.T T) (S.fl F1 (by decide) (by decide) (by decide) (by decide)) K h1 ha hr (R.fl F1 (by decide) (by decide) (by decide)) (fun _ _ => rfl) en l0 l1 G0 G1 (fun G F4 R4 => k G ((FR.rf.f9 F1).tr F4) R4)
    by_cases hz : Z 24 (24 * rz + a) = 0
    · have z0 := X1 () hz
      refine AW.iload dL_moves_84 rfl ?_
      refine' AW.if_geJ 103 (tgt := 93) dL_moves_86 rfl _ _ _
      rotate_left 2
      · intro c_86 k_86
        refine AW.aload_n dL_moves_93 rfl ?_
        refine AW.bipush dL_moves_94 bp_10 (by decide) ?_
        refine AW.iload dL_moves_96 rfl ?_
        refine AW.imulB dL_moves_98 (by omega) ?_
        refine AW.iload dL_moves_99 rfl ?_
        refine AW.iaddB dL_moves_101 (by omega) ?_
        refine AW.aldIE dL_moves_102 T.a5 (by omega) (by omega) (by exact hIx (by omega) (R.x (k := (zo Z a 1 0).toNat) (by omega))) ?_
        exact k_86
      · intro c_86 k_86
        refine AW.iconst dL_moves_89 (by decide) ?_
        refine AW.goto (tgt := 103) dL_moves_90 rfl ?_
        exact k_86
      refine AW.top (y := nL Z rz a 1 0) (e0 ()) ?_
      refine AW.istore dL_moves_103 rfl ?_
      refine AW.iload dL_moves_105 rfl ?_
      refine' AW.if_geJ 124 (tgt := 114) dL_moves_107 rfl _ _ _
      rotate_left 2
      · intro c_107 k_107
        refine AW.aload_n dL_moves_114 rfl ?_
        refine AW.bipush dL_moves_115 bp_10 (by decide) ?_
        refine AW.iload dL_moves_117 rfl ?_
        refine AW.imulB dL_moves_119 (by omega) ?_
        refine AW.iload dL_moves_120 rfl ?_
        refine AW.iaddB dL_moves_122 (by omega) ?_
        refine AW.aldIE dL_moves_123 T.a5 (by omega) (by omega) (by exact hIx (by omega) (R.x (k := (zo Z a 1 1).toNat) (by omega))) ?_
        exact k_107
      · intro c_107 k_107
        refine AW.iconst dL_moves_110 (by decide) ?_
        refine AW.goto (tgt := 124) dL_moves_111 rfl ?_
        exact k_107
      refine AW.top (y := nL Z rz a 1 1) (e1 ()) ?_
      refine AW.istore dL_moves_124 rfl ?_
      refine AW.aload_n dL_moves_126 rfl ?_
      refine AW.aload_n dL_moves_127 rfl ?_
      refine AW.aload_n dL_moves_128 rfl ?_
      refine AW.iload dL_moves_129 rfl ?_
      refine AW.iload dL_moves_131 rfl ?_
      refine AW.iload dL_moves_133 rfl ?_
      refine AW.iload dL_moves_135 rfl ?_
      refine AW.aload dL_moves_137 rfl ?_
      refine AW.callS (as := [vq _, vq _, vq _, vi _, vi _, vi _, vi _, vq _]) dL_moves_139 rfl rfl rfl okL_tells lkL_107 rfl rfl rfl (leb (by omega)) (leb (by omega)) rfl (kL_tells T S K h1 ha (by omega) l0 l1 (fun g1 F1 y0 y1 => (AW.k0 ?_)))
      refine AW.aload dL_moves_142 rfl ?_
      refine AW.iconst dL_moves_144 (by decide) ?_
      refine AW.aldIE dL_moves_145 (F1.T T).a9 (by omega) (by omega) (by exact y0) ?_
      refine AW.istore dL_moves_146 rfl ?_
      refine AW.aload dL_moves_148 rfl ?_
      refine AW.iconst dL_moves_150 (by decide) ?_
      refine AW.aldIE dL_moves_151 (F1.T T).a9 (by omega) (by omega) (by exact y1) ?_
      refine AW.istore dL_moves_152 rfl ?_
      refine AW.locs [(16, vi _), (15, vi _), (14, vi _), (13, vi _), (12, vi _), (11, vi _), (10, vi nm), (9, vi (a : Int)), (0, vr (la 1)), (1, vr (la 2)), (2, vr (la 3)), (3, vr (la 5)), (4, vr (la 6)), (5, vr (la 7)), (6, vi (rl : Int)), (7, vi 1), (8, vr (la 9))] ⟨rfl, rfl, rfl, rfl, rfl, rfl, rfl, rfl, rfl, rfl, rfl, rfl, rfl, rfl, rfl, rfl, rfl, trivial⟩ ?_
      refine AW.aload dL_moves_154 rfl ?_
      refine AW.bipush dL_moves_156 bp_13 (by decide) ?_
      refine AW.iload dL_moves_158 rfl ?_
      refine AW.imulB dL_moves_160 (by omega) ?_
      refine AW.iload dL_moves_161 rfl ?_
      refine AW.pcs (pc2 := 163) rfl ?_
      refine AW.iaddB dL_moves_163 (by omega) ?_
      refine AW.aldLE dL_moves_164 (F1.T T).a7 (by omega) (by omega) (by exact hLx (by omega) ((R.fl F1 (by decide) (by decide) (by decide)).z (w := a) h1 (by omega))) ?_
      refine AW.lstore dL_moves_165 rfl ?_
      refine AW.lload dL_moves_167 rfl ?_
      refine AW.lconstI 0 dL_moves_169 (by decide) ?_
      refine AW.lcmpI dL_moves_170 (by exact ⟨by omega, by omega⟩) (by exact ⟨by omega, by omega⟩) ?_
      refine AW.if_leT (tgt := 333) dL_moves_171 rfl (by rw [z0]; decide) ?_
      exact AW.locs [(16, vi _), (15, vi _), (14, vi _), (13, vi _), (12, vi _), (11, vi _), (10, vi nm), (9, vi (a : Int)), (0, vr (la 1)), (1, vr (la 2)), (2, vr (la 3)), (3, vr (la 5)), (4, vr (la 6)), (5, vr (la 7)), (6, vi (rl : Int)), (7, vi 1), (8, vr (la 9))] ⟨rfl, rfl, rfl, rfl, rfl, rfl, rfl, rfl, rfl, rfl, rfl, rfl, rfl, rfl, rfl, rfl, rfl, trivial⟩ (fin F1)
    · have HH : Unit → _ := fun _ => X2 () hz
      refine AW.iload dL_moves_84 rfl ?_
      refine' AW.if_geJ 103 (tgt := 93) dL_moves_86 rfl _ _ _
      rotate_left 2
      · intro c_86 k_86
        refine AW.aload_n dL_moves_93 rfl ?_
        refine AW.bipush dL_moves_94 bp_10 (by decide) ?_
        refine AW.iload dL_moves_96 rfl ?_
        refine AW.imulB dL_moves_98 (by omega) ?_
        refine AW.iload dL_moves_99 rfl ?_
        refine AW.iaddB dL_moves_101 (by omega) ?_
        refine AW.aldIE dL_moves_102 T.a5 (by omega) (by omega) (by exact hIx (by omega) (R.x (k := (zo Z a 1 0).toNat) (by omega))) ?_
        exact k_86
      · intro c_86 k_86
        refine AW.iconst dL_moves_89 (by decide) ?_
        refine AW.goto (tgt := 103) dL_moves_90 rfl ?_
        exact k_86
      refine AW.top (y := nL Z rz a 1 0) (e0 ()) ?_
      refine AW.istore dL_moves_103 rfl ?_
      refine AW.iload dL_moves_105 rfl ?_
      refine' AW.if_geJ 124 (tgt := 114) dL_moves_107 rfl _ _ _
      rotate_left 2
      · intro c_107 k_107
        refine AW.aload_n dL_moves_114 rfl ?_
        refine AW.bipush dL_moves_115 bp_10 (by decide) ?_
        refine AW.iload dL_moves_117 rfl ?_
        refine AW.imulB dL_moves_119 (by omega) ?_
        refine AW.iload dL_moves_120 rfl ?_
        refine AW.iaddB dL_moves_122 (by omega) ?_
        refine AW.aldIE dL_moves_123 T.a5 (by omega) (by omega) (by exact hIx (by omega) (R.x (k := (zo Z a 1 1).toNat) (by omega))) ?_
        exact k_107
      · intro c_107 k_107
        refine AW.iconst dL_moves_110 (by decide) ?_
        refine AW.goto (tgt := 124) dL_moves_111 rfl ?_
        exact k_107
      refine AW.top (y := nL Z rz a 1 1) (e1 ()) ?_
      refine AW.istore dL_moves_124 rfl ?_
      refine AW.aload_n dL_moves_126 rfl ?_
      refine AW.aload_n dL_moves_127 rfl ?_
      refine AW.aload_n dL_moves_128 rfl ?_
      refine AW.iload dL_moves_129 rfl ?_
      refine AW.iload dL_moves_131 rfl ?_
      refine AW.iload dL_moves_133 rfl ?_
      refine AW.iload dL_moves_135 rfl ?_
      refine AW.aload dL_moves_137 rfl ?_
      refine AW.callS (as := [vq _, vq _, vq _, vi _, vi _, vi _, vi _, vq _]) dL_moves_139 rfl rfl rfl okL_tells lkL_107 rfl rfl rfl (leb (by omega)) (leb (by omega)) rfl (kL_tells T S K h1 ha (by omega) l0 l1 (fun g1 F1 y0 y1 => (AW.k0 ?_)))
      refine AW.aload dL_moves_142 rfl ?_
      refine AW.iconst dL_moves_144 (by decide) ?_
      refine AW.aldIE dL_moves_145 (F1.T T).a9 (by omega) (by omega) (by exact y0) ?_
      refine AW.istore dL_moves_146 rfl ?_
      refine AW.aload dL_moves_148 rfl ?_
      refine AW.iconst dL_moves_150 (by decide) ?_
      refine AW.aldIE dL_moves_151 (F1.T T).a9 (by omega) (by omega) (by exact y1) ?_
      refine AW.istore dL_moves_152 rfl ?_
      refine AW.locs [(16, vi _), (15, vi _), (14, vi _), (13, vi _), (12, vi _), (11, vi _), (10, vi nm), (9, vi (a : Int)), (0, vr (la 1)), (1, vr (la 2)), (2, vr (la 3)), (3, vr (la 5)), (4, vr (la 6)), (5, vr (la 7)), (6, vi (rl : Int)), (7, vi 1), (8, vr (la 9))] ⟨rfl, rfl, rfl, rfl, rfl, rfl, rfl, rfl, rfl, rfl, rfl, rfl, rfl, rfl, rfl, rfl, rfl, trivial⟩ ?_
      refine AW.aload dL_moves_154 rfl ?_
      refine AW.bipush dL_moves_156 bp_13 (by decide) ?_
      refine AW.iload dL_moves_158 rfl ?_
      refine AW.imulB dL_moves_160 (by omega) ?_
      refine AW.iload dL_moves_161 rfl ?_
      refine AW.pcs (pc2 := 163) rfl ?_
      refine AW.iaddB dL_moves_163 (by omega) ?_
      refine AW.aldLE dL_moves_164 (F1.T T).a7 (by omega) (by omega) (by exact hLx (by omega) ((R.fl F1 (by decide) (by decide) (by decide)).z (w := a) h1 (by omega))) ?_
      refine AW.lstore dL_moves_165 rfl ?_
      refine AW.lload dL_moves_167 rfl ?_
      refine AW.lconstI 0 dL_moves_169 (by decide) ?_
      refine AW.lcmpI dL_moves_170 (by exact ⟨by omega, by omega⟩) (by exact ⟨by omega, by omega⟩) ?_
      refine AW.if_leF (tgt := 333) dL_moves_171 rfl (by rw [if_pos (HH ()).1]; decide) ?_
      refine AW.lload dL_moves_174 rfl ?_
      refine AW.ldc2I (3) dL_moves_176 lkL_111 (by decide) ?_
      refine AW.lremI dL_moves_179 (by exact ⟨by omega, by omega⟩) (by omega) ?_
      refine AW.topl (y := Int64.ofInt (Z 24 (24 * rz + a))) (by rw [(HH ()).2.1]) ?_
      refine AW.iload dL_moves_180 rfl ?_
      refine AW.if_eqF (tgt := 191) dL_moves_182 rfl (by omega) ?_
      refine AW.ldc2I (2) dL_moves_185 lkL_113 (by decide) ?_
      refine AW.goto (tgt := 192) dL_moves_188 rfl ?_
      refine AW.lcmpI dL_moves_192 (by have := (B.w (w := a) (by omega)).1; exact ⟨by omega, by omega⟩) (by exact ⟨by omega, by omega⟩) ?_
      refine AW.if_neT (tgt := 333) dL_moves_193 rfl (by have := (B.w (w := a) (by omega)).1; (repeat' split) <;> omega) ?_
      exact AW.locs [(16, vi _), (15, vi _), (14, vi _), (13, vi _), (12, vi _), (11, vi _), (10, vi nm), (9, vi (a : Int)), (0, vr (la 1)), (1, vr (la 2)), (2, vr (la 3)), (3, vr (la 5)), (4, vr (la 6)), (5, vr (la 7)), (6, vi (rl : Int)), (7, vi 1), (8, vr (la 9))] ⟨rfl, rfl, rfl, rfl, rfl, rfl, rfl, rfl, rfl, rfl, rfl, rfl, rfl, rfl, rfl, rfl, rfl, trivial⟩ (fin F1)
set_option maxHeartbeats 2000000 in
theorem kL_moves1 (T : LT h) (S : LSc h Z) (K : QS Z) (B : VB Z rz) (h1 : 1 ≤ a) (ha : (a : Int) ≤ Z 1 0) (hr : rl < 5) (hv : Z 21 rz = (a : Int) - 1) (R : LR h Z rl rz) (k : ∀ G, FR rl h G → LR G (zmv Z (rz : Int) 0 (a : Int) 1) rl rz → Q G (.inl none)) :
    AC mL_moves fL_moves loL_moves 0 0 h [vr (la 1), vr (la 2), vr (la 3), vr (la 5), vr (la 6), vr (la 7), vi (rl : Int), vi 1, vr (la 9)] Q := by
  have b1 := K.b1
  refine AC.mk (by decide) (Nat.le_of_ble_eq_true rfl) ?_
  by_cases hw : Z 7 a = 1
  · have e0 : ∀ j, zo Z a 1 j = -1 := fun j => by unfold zo; rw [if_pos hw]
    refine AW.iload dL_moves_0 rfl ?_
    refine AW.if_eqF (tgt := 17) dL_moves_2 rfl (by omega) ?_
    refine AW.aload dL_moves_5 rfl ?_
    refine AW.iconst dL_moves_7 (by decide) ?_
    refine AW.iload dL_moves_8 rfl ?_
    refine AW.imulB dL_moves_10 (by omega) ?_
    refine AW.aldIE dL_moves_11 T.a6 (by omega) (by omega) (by exact hIx (by omega) R.y0) ?_
    refine AW.iconst dL_moves_12 (by decide) ?_
    refine AW.iaddB dL_moves_13 (by omega) ?_
    refine AW.goto (tgt := 24) dL_moves_14 rfl ?_
    refine AW.top (y := (a : Int)) (by omega) ?_
    refine AW.istore dL_moves_24 rfl ?_
    refine AW.aload_n dL_moves_26 rfl ?_
    refine AW.iload dL_moves_27 rfl ?_
    refine AW.aldIE dL_moves_29 T.a2 (by omega) (by omega) (by exact S.w (a := a) h1 ha) ?_
    refine AW.bipush dL_moves_30 bp_8 (by decide) ?_
    refine AW.irem dL_moves_32 (by omega) ?_
    refine AW.top (y := Z 7 a) (zwd_7 K h1 ha) ?_
    refine AW.iconst dL_moves_33 (by decide) ?_
    refine AW.icmp_neF (tgt := 41) dL_moves_34 rfl (by exact hw) ?_
    refine AW.iconst dL_moves_37 (by decide) ?_
    refine AW.goto (tgt := 42) dL_moves_38 rfl ?_
    refine AW.istore dL_moves_42 rfl ?_
    refine AW.iload dL_moves_44 rfl ?_
    refine AW.if_eqF (tgt := 53) dL_moves_46 rfl (by omega) ?_
    refine AW.pcs (pc2 := 49) rfl ?_
    refine AW.iconst dL_moves_49 (by decide) ?_
    refine AW.goto (tgt := 62) dL_moves_50 rfl ?_
    refine AW.istore dL_moves_62 rfl ?_
    refine AW.iload dL_moves_64 rfl ?_
    refine AW.if_eqF (tgt := 73) dL_moves_66 rfl (by omega) ?_
    refine AW.iconst dL_moves_69 (by decide) ?_
    refine AW.goto (tgt := 82) dL_moves_70 rfl ?_
    refine AW.istore dL_moves_82 rfl ?_
    refine AW.locs [(12, vi (-1)), (11, vi (-1)), (10, vi 1), (9, vi (a : Int)), (0, vr (la 1)), (1, vr (la 2)), (2, vr (la 3)), (3, vr (la 5)), (4, vr (la 6)), (5, vr (la 7)), (6, vi (rl : Int)), (7, vi 1), (8, vr (la 9))] ⟨rfl, rfl, rfl, rfl, rfl, rfl, rfl, rfl, rfl, rfl, rfl, rfl, rfl, trivial⟩ ?_
    have q := mv_A1 (mc := 0) (ms := 0) (bc := 0) (bs := 0) T S K B h1 ha hr R (by rw [if_pos hw]) k
    rw [e0, e0] at q
    exact q
  · have e0 : ∀ j, zsd Z a 1 j = zo Z a 1 j := fun j => by unfold zo; rw [if_neg hw]
    refine AW.iload dL_moves_0 rfl ?_
    refine AW.if_eqF (tgt := 17) dL_moves_2 rfl (by omega) ?_
    refine AW.aload dL_moves_5 rfl ?_
    refine AW.iconst dL_moves_7 (by decide) ?_
    refine AW.iload dL_moves_8 rfl ?_
    refine AW.imulB dL_moves_10 (by omega) ?_
    refine AW.aldIE dL_moves_11 T.a6 (by omega) (by omega) (by exact hIx (by omega) R.y0) ?_
    refine AW.iconst dL_moves_12 (by decide) ?_
    refine AW.iaddB dL_moves_13 (by omega) ?_
    refine AW.goto (tgt := 24) dL_moves_14 rfl ?_
    refine AW.top (y := (a : Int)) (by omega) ?_
    refine AW.istore dL_moves_24 rfl ?_
    refine AW.aload_n dL_moves_26 rfl ?_
    refine AW.iload dL_moves_27 rfl ?_
    refine AW.aldIE dL_moves_29 T.a2 (by omega) (by omega) (by exact S.w (a := a) h1 ha) ?_
    refine AW.bipush dL_moves_30 bp_8 (by decide) ?_
    refine AW.irem dL_moves_32 (by omega) ?_
    refine AW.top (y := Z 7 a) (zwd_7 K h1 ha) ?_
    refine AW.iconst dL_moves_33 (by decide) ?_
    refine AW.icmp_neT (tgt := 41) dL_moves_34 rfl (by exact hw) ?_
    refine AW.iconst dL_moves_41 (by decide) ?_
    refine AW.istore dL_moves_42 rfl ?_
    refine AW.iload dL_moves_44 rfl ?_
    refine AW.if_eqT (tgt := 53) dL_moves_46 rfl (by omega) ?_
    refine AW.aload_n dL_moves_53 rfl ?_
    refine AW.pcs (pc2 := 54) rfl ?_
    refine AW.iload dL_moves_54 rfl ?_
    refine AW.iload dL_moves_56 rfl ?_
    refine AW.iconst dL_moves_58 (by decide) ?_
    refine AW.callS (as := [vq _, vi _, vi _, vi _]) dL_moves_59 rfl rfl rfl okL_side lkL_86 rfl rfl rfl (leb (by omega)) (leb (by omega)) rfl (kL_side T S K h1 ha (by omega) (by omega) (AW.k1 ?_))
    refine AW.top (y := zo Z a 1 0) (e0 0) ?_
    refine AW.istore dL_moves_62 rfl ?_
    refine AW.iload dL_moves_64 rfl ?_
    refine AW.if_eqT (tgt := 73) dL_moves_66 rfl (by omega) ?_
    refine AW.aload_n dL_moves_73 rfl ?_
    refine AW.iload dL_moves_74 rfl ?_
    refine AW.iload dL_moves_76 rfl ?_
    refine AW.iconst dL_moves_78 (by decide) ?_
    refine AW.callS (as := [vq _, vi _, vi _, vi _]) dL_moves_79 rfl rfl rfl okL_side lkL_86 rfl rfl rfl (leb (by omega)) (leb (by omega)) rfl (kL_side T S K h1 ha (by omega) (by omega) (AW.k1 ?_))
    refine AW.top (y := zo Z a 1 1) (e0 1) ?_
    refine AW.istore dL_moves_82 rfl ?_
    exact AW.locs [(12, vi (zo Z a 1 1)), (11, vi (zo Z a 1 0)), (10, vi 0), (9, vi (a : Int)), (0, vr (la 1)), (1, vr (la 2)), (2, vr (la 3)), (3, vr (la 5)), (4, vr (la 6)), (5, vr (la 7)), (6, vi (rl : Int)), (7, vi 1), (8, vr (la 9))] ⟨rfl, rfl, rfl, rfl, rfl, rfl, rfl, rfl, rfl, rfl, rfl, rfl, rfl, trivial⟩ (mv_A1 T S K B h1 ha hr R (by rw [if_neg hw]) k)
/-- a move of a row, as law and model have it -/
theorem kL_moves {u : Int} (T : LT h) (S : LSc h Z) (K : QS Z) (B : VB Z rz) (h1 : 1 ≤ a) (ha : (a : Int) ≤ Z 1 0) (hr : rl < 5) (hu : u = 0 ∨ u = 1) (hv : Z 21 rz = (if u = 0 then (a : Int) else (a : Int) - 1)) (R : LR h Z rl rz) (k : ∀ G, FR rl h G → LR G (zmv Z (rz : Int) 0 (a : Int) u) rl rz → Q G (.inl none)) :
    AC mL_moves fL_moves loL_moves 0 0 h [vr (la 1), vr (la 2), vr (la 3), vr (la 5), vr (la 6), vr (la 7), vi (rl : Int), vi u, vr (la 9)] Q := by
  rcases hu with rfl | rfl
  · exact kL_moves0 T S K B h1 ha hr (by rw [hv]; rfl) R k
  · exact kL_moves1 T S K B h1 ha hr (by rw [hv]; rfl) R k
end B4
