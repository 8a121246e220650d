/-! ===== the law's look at the rows ===== -/
section C4
variable {Q : AH → AO → Prop} {h g G : AH} {Z Y : ZT} {c b L a r : Nat} {mc ms bc bs : Nat}
theorem zstA_i {i : Nat} : zstA Z (r : Int) (i + 1) = zstA Z (r : Int) i + (if 0 < Z 24 (24 * r + i) then 1 else 0) := by
  show zstA Z (r : Int) i + (if 0 < Z 24 (24 * (r : Int) + (i : Int)).toNat then 1 else 0) = _
  rw [show (24 * (r : Int) + (i : Int)).toNat = 24 * r + i by omega]
theorem zstA_12 (K : QS Z) (B : VB Z r) : ∀ m : Nat, m ≤ 12 → zstA Z (r : Int) (12 + m) = zstA Z (r : Int) 12
  | 0, _ => rfl
  | m + 1, hm => by
    have b1 := K.b1
    have w := (B.w (w := 12 + m) (by omega)).2.1
    have e : ¬ 0 < Z 24 (24 * r + (12 + m)) := fun z => by have := (w (by omega)).2.1; omega
    rw [show 12 + (m + 1) = 12 + m + 1 by omega, zstA_i, if_neg e, Int.add_zero]
    exact zstA_12 K B m (by omega)
theorem zstA_1 (B : VB Z r) : zstA Z (r : Int) 1 = 0 := by
  have w := (B.w (w := 0) (by omega)).2.1
  have e : ¬ 0 < Z 24 (24 * r + 0) := fun z => by have := (w (by omega)).1; omega
  rw [show (1 : Nat) = 0 + 1 from rfl, zstA_i, if_neg e]
  rfl
/-- a name stands for one field -/
theorem zf_u (J : IV L h Z c b) {v f : Nat} (hv : (v : Int) ≤ Z 1 0) (hf : (f : Int) < Z 2 0) (hn : ¬ Z 5 (48 * v + f) = -1) : zfind Z 0 (v : Int) (Z 5 (48 * v + f)) = (f : Int) := by
  have K := J.K
  have b1 := K.b1
  have b2 := K.b2
  have n0 := (K.nm (v := v) (f := f) (by omega) (by omega)).1
  obtain ⟨S, W⟩ := J.S.zs0 J.z0
  have q := S.2.2.2.1 v (Z 5 (48 * v + f)).toNat hv (by omega)
  have e : zfind Z 0 (v : Int) (Z 5 (48 * v + f)) = cfn h 0 (v : Int) (Z 5 (48 * v + f)) := S.fnd W (by omega)
  rw [e]
  have h0 := S.2.1
  unfold SHd at h0
  unfold cfn
  rw [Int.toNat_natCast, if_pos (by omega)]
  exact (q.2 f hf).mpr (by rw [show 48 * (24 * 0 + v) + f = 48 * v + f by omega]; omega)
abbrev lrw (a r : Nat) : AL := [(11, vi (r : Int)), (10, vi 1), (0, vr mF), (1, vr (la 1)), (2, vr (la 2)), (3, vr (la 3)), (4, vr (la 4)), (5, vr (la 5)), (6, vr (la 6)), (7, vr (la 7)), (8, vr (la 9)), (9, vi (a : Int))]
abbrev lcn (Z : ZT) (a r i : Nat) : AL := [(13, vi (i : Int)), (12, vi (zstA Z (r : Int) i)), (11, vi (r : Int)), (10, vi 1), (0, vr mF), (1, vr (la 1)), (2, vr (la 2)), (3, vr (la 3)), (4, vr (la 4)), (5, vr (la 5)), (6, vr (la 6)), (7, vr (la 7)), (8, vr (la 9)), (9, vi (a : Int))]
abbrev lrk (a r i : Nat) : AL := [(13, vi (i : Int)), (11, vi (r : Int)), (10, vi 1), (0, vr mF), (1, vr (la 1)), (2, vr (la 2)), (3, vr (la 3)), (4, vr (la 4)), (5, vr (la 5)), (6, vr (la 6)), (7, vr (la 7)), (8, vr (la 9)), (9, vi (a : Int))]
set_option maxHeartbeats 1000000 in
theorem ar_cnt (T : LT h) (B : VB Z r) (R : LR h Z r r) (hr : r < 4) (k : AW mL_areRows fL_areRows loL_areRows mc ms Q bc bs 117 h (lcn Z a r 12) []) : ∀ m i : Nat, 1 ≤ i → i ≤ 12 → 12 ≤ i + m → AW mL_areRows fL_areRows loL_areRows mc ms Q bc bs 78 h (lcn Z a r i) [] := by
  intro m
  induction m with
  | zero =>
    intro i h1 h2 h3
    have e : i = 12 := by omega
    subst e
    refine AW.iload dL_areRows_78 rfl ?_
    refine AW.bipush dL_areRows_80 bp_12 (by decide) ?_
    refine AW.icmp_geT (tgt := 117) dL_areRows_82 rfl (by omega) ?_
    exact k
  | succ m ih =>
    intro i h1 h2 h3
    by_cases e : i = 12
    · exact ih i h1 h2 (by omega)
    have zr := zstA_rng (Z := Z) (r := (r : Int)) i
    obtain ⟨x1, x2, x3⟩ := bx_rd B (a := i) (by omega)
    have nx := ih (i + 1) (by omega) (by omega) (by omega)
    have w0 := (B.w (w := i) (by omega)).1
    by_cases e0 : Z 24 (24 * r + i) = 0
    · have x0 := x2 e0
      have es : zstA Z (r : Int) i + 0 = zstA Z (r : Int) (i + 1) := by rw [zstA_i, if_neg (by omega)]
      clear x2 x3
      refine AW.iload dL_areRows_78 rfl ?_
      refine AW.bipush dL_areRows_80 bp_12 (by decide) ?_
      refine AW.icmp_geF (tgt := 117) dL_areRows_82 rfl (by omega) ?_
      refine AW.iload dL_areRows_85 rfl ?_
      refine AW.aload dL_areRows_87 rfl ?_
      refine AW.bipush dL_areRows_89 bp_13 (by decide) ?_
      refine AW.iload dL_areRows_91 rfl ?_
      refine AW.imulB dL_areRows_93 (by omega) ?_
      refine AW.iload dL_areRows_94 rfl ?_
      refine AW.iaddB dL_areRows_96 (by omega) ?_
      refine AW.aldLE dL_areRows_97 T.a7 (by omega) (by omega) (by exact hLx (by omega) (R.z (w := i) h1 (by omega))) ?_
      refine AW.lconstI 0 dL_areRows_98 (by decide) ?_
      refine AW.lcmpI dL_areRows_99 (by exact ⟨by omega, by omega⟩) (by exact ⟨by omega, by omega⟩) ?_
      refine AW.if_leT (tgt := 107) dL_areRows_100 rfl (by rw [x0]; decide) ?_
      refine AW.iconst dL_areRows_107 (by decide) ?_
      refine AW.iaddB dL_areRows_108 (by omega) ?_
      refine AW.top es ?_
      refine AW.istore dL_areRows_109 rfl ?_
      refine AW.iincB dL_areRows_111 rfl rfl (by omega) ?_
      refine AW.goto (tgt := 78) dL_areRows_114 rfl ?_
      exact AW.locs (lcn Z a r (i + 1)) ⟨rfl, rfl, rfl, rfl, rfl, rfl, rfl, rfl, rfl, rfl, rfl, rfl, rfl, rfl, trivial⟩ nx
    · have x0 := (x3 e0).1
      have es : zstA Z (r : Int) i + 1 = zstA Z (r : Int) (i + 1) := by rw [zstA_i, if_pos (by omega)]
      clear x2 x3
      refine AW.iload dL_areRows_78 rfl ?_
      refine AW.bipush dL_areRows_80 bp_12 (by decide) ?_
      refine AW.icmp_geF (tgt := 117) dL_areRows_82 rfl (by omega) ?_
      refine AW.iload dL_areRows_85 rfl ?_
      refine AW.aload dL_areRows_87 rfl ?_
      refine AW.bipush dL_areRows_89 bp_13 (by decide) ?_
      refine AW.iload dL_areRows_91 rfl ?_
      refine AW.imulB dL_areRows_93 (by omega) ?_
      refine AW.iload dL_areRows_94 rfl ?_
      refine AW.iaddB dL_areRows_96 (by omega) ?_
      refine AW.aldLE dL_areRows_97 T.a7 (by omega) (by omega) (by exact hLx (by omega) (R.z (w := i) h1 (by omega))) ?_
      refine AW.lconstI 0 dL_areRows_98 (by decide) ?_
      refine AW.lcmpI dL_areRows_99 (by exact ⟨by omega, by omega⟩) (by exact ⟨by omega, by omega⟩) ?_
      refine AW.if_leF (tgt := 107) dL_areRows_100 rfl (by rw [if_pos x0]; decide) ?_
      refine AW.iconst dL_areRows_103 (by decide) ?_
      refine AW.goto (tgt := 108) dL_areRows_104 rfl ?_
      refine AW.iaddB dL_areRows_108 (by omega) ?_
      refine AW.top es ?_
      refine AW.istore dL_areRows_109 rfl ?_
      refine AW.iincB dL_areRows_111 rfl rfl (by omega) ?_
      refine AW.goto (tgt := 78) dL_areRows_114 rfl ?_
      exact AW.locs (lcn Z a r (i + 1)) ⟨rfl, rfl, rfl, rfl, rfl, rfl, rfl, rfl, rfl, rfl, rfl, rfl, rfl, rfl, trivial⟩ nx
set_option maxHeartbeats 1000000 in
theorem ar_rep (J : IV L h Z c b) (V : JV h Z) (hr : (r : Int) < Z 19 0) (k : AW mL_areRows fL_areRows loL_areRows mc ms Q bc bs 257 h (lrw a r) []) : ∀ m i : Nat, (i : Int) ≤ Z 2 0 → Z 2 0 ≤ (i : Int) + m → AW mL_areRows fL_areRows loL_areRows mc ms Q (bc + 4 * m) (bs + 24 * m) 183 h (lrk a r i) [] := by
  have K := J.K
  have b1 := K.b1
  have b2 := K.b2
  have v2 := V.b2
  obtain ⟨R, B, h20⟩ := V.r hr
  have bv := B.v
  obtain ⟨w, hw⟩ := Int.eq_ofNat_of_zero_le bv.1
  rw [hw] at bv
  intro m
  induction m with
  | zero =>
    intro i h2 h3
    refine AW.iload dL_areRows_183 rfl ?_
    refine AW.aload dL_areRows_185 rfl ?_
    refine AW.iconst dL_areRows_187 (by decide) ?_
    refine AW.aldIE dL_areRows_188 J.T.a4 (by omega) (by omega) (by exact V.s.g1) ?_
    refine AW.icmp_geT (tgt := 257) dL_areRows_189 rfl (by omega) ?_
    exact AW.locs (lrw a r) ⟨rfl, rfl, rfl, rfl, rfl, rfl, rfl, rfl, rfl, rfl, rfl, rfl, trivial⟩ k
  | succ m ih =>
    intro i h2 h3
    by_cases e : (i : Int) = Z 2 0
    · exact AW.less (by omega) (by omega) (ih i h2 (by omega))
    have nx := ih (i + 1) (by omega) (by omega)
    have n0 := (K.nm (v := w) (f := i) (by omega) (by omega)).1
    have eu := zf_u J (v := w) (f := i) bv.2 (by omega)
    have q0 := (K.nm (v := w) (f := i) (by omega) (by omega)).1
    by_cases e0 : Z 5 (48 * w + i) = -1
    · refine AW.iload dL_areRows_183 rfl ?_
      refine AW.aload dL_areRows_185 rfl ?_
      refine AW.iconst dL_areRows_187 (by decide) ?_
      refine AW.aldIE dL_areRows_188 J.T.a4 (by omega) (by omega) (by exact V.s.g1) ?_
      refine AW.icmp_geF (tgt := 257) dL_areRows_189 rfl (by omega) ?_
      refine AW.iload dL_areRows_192 rfl ?_
      refine AW.if_eqF (tgt := 257) dL_areRows_194 rfl (by omega) ?_
      refine AW.aload_n dL_areRows_197 rfl ?_
      refine AW.aload dL_areRows_198 rfl ?_
      refine AW.iconst dL_areRows_200 (by decide) ?_
      refine AW.iload dL_areRows_201 rfl ?_
      refine AW.imulB dL_areRows_203 (by omega) ?_
      refine AW.aldIE dL_areRows_204 J.T.a6 (by omega) (by omega) (by exact hIx (by omega) (R.y0.trans hw)) ?_
      refine AW.iload dL_areRows_205 rfl ?_
      refine AW.callS (as := [vq _, vi _, vi _]) dL_areRows_207 rfl rfl rfl okL_state lkL_79 rfl rfl rfl (leb (by omega)) (leb (by omega)) rfl (kL_stZ J.T V.s K bv.2 (by omega) (AW.k1 ?_))
      refine AW.bipush dL_areRows_210 bp_32 (by decide) ?_
      refine AW.irem dL_areRows_212 (by omega) ?_
      refine AW.top (zdg_n K (by omega) (by omega)).1 ?_
      refine AW.iconst dL_areRows_213 (by decide) ?_
      refine AW.isubB dL_areRows_214 (by omega) ?_
      refine AW.istore dL_areRows_215 rfl ?_
      refine AW.iload dL_areRows_217 rfl ?_
      refine AW.if_ltT (tgt := 244) dL_areRows_219 rfl (by omega) ?_
      refine AW.iconst dL_areRows_244 (by decide) ?_
      refine AW.pcs (pc2 := 245) rfl ?_
      refine AW.goto (tgt := 249) dL_areRows_245 rfl ?_
      refine AW.istore dL_areRows_249 rfl ?_
      refine AW.iincB dL_areRows_251 rfl rfl (by omega) ?_
      refine AW.goto (tgt := 183) dL_areRows_254 rfl ?_
      refine AW.less (bc' := bc + 4 * m) (bs' := bs + 24 * m) (by omega) (by omega) ?_
      exact AW.locs (lrk a r (i + 1)) ⟨rfl, rfl, rfl, rfl, rfl, rfl, rfl, rfl, rfl, rfl, rfl, rfl, rfl, trivial⟩ nx
    · have eu := eu e0
      refine AW.iload dL_areRows_183 rfl ?_
      refine AW.aload dL_areRows_185 rfl ?_
      refine AW.iconst dL_areRows_187 (by decide) ?_
      refine AW.aldIE dL_areRows_188 J.T.a4 (by omega) (by omega) (by exact V.s.g1) ?_
      refine AW.icmp_geF (tgt := 257) dL_areRows_189 rfl (by omega) ?_
      refine AW.iload dL_areRows_192 rfl ?_
      refine AW.if_eqF (tgt := 257) dL_areRows_194 rfl (by omega) ?_
      refine AW.aload_n dL_areRows_197 rfl ?_
      refine AW.aload dL_areRows_198 rfl ?_
      refine AW.iconst dL_areRows_200 (by decide) ?_
      refine AW.iload dL_areRows_201 rfl ?_
      refine AW.imulB dL_areRows_203 (by omega) ?_
      refine AW.aldIE dL_areRows_204 J.T.a6 (by omega) (by omega) (by exact hIx (by omega) (R.y0.trans hw)) ?_
      refine AW.iload dL_areRows_205 rfl ?_
      refine AW.callS (as := [vq _, vi _, vi _]) dL_areRows_207 rfl rfl rfl okL_state lkL_79 rfl rfl rfl (leb (by omega)) (leb (by omega)) rfl (kL_stZ J.T V.s K bv.2 (by omega) (AW.k1 ?_))
      refine AW.bipush dL_areRows_210 bp_32 (by decide) ?_
      refine AW.irem dL_areRows_212 (by omega) ?_
      refine AW.top (zdg_n K (by omega) (by omega)).1 ?_
      refine AW.iconst dL_areRows_213 (by decide) ?_
      refine AW.isubB dL_areRows_214 (by omega) ?_
      refine AW.top (y := Z 5 (48 * w + i)) (by omega) ?_
      refine AW.istore dL_areRows_215 rfl ?_
      refine AW.iload dL_areRows_217 rfl ?_
      refine AW.if_ltF (tgt := 244) dL_areRows_219 rfl (by omega) ?_
      refine AW.aload_n dL_areRows_222 rfl ?_
      refine AW.pcs (pc2 := 223) rfl ?_
      refine AW.iload dL_areRows_223 rfl ?_
      refine AW.iload dL_areRows_225 rfl ?_
      refine AW.callV (as := [vi _, vi _]) dL_areRows_227 rfl rfl rfl okX7_replayed lkL_68 J.F rfl rfl rfl rfl (leb (by omega)) (leb (by omega)) rfl (t_re J hr h20 (by rw [hw, eu]; omega) (AW.k1 ?_))
      refine AW.top (y := Z 22 (48 * r + i)) (by rw [hw, eu]; rfl) ?_
      refine AW.aload dL_areRows_230 rfl ?_
      refine AW.bipush dL_areRows_232 bp_10 (by decide) ?_
      refine AW.iload dL_areRows_234 rfl ?_
      refine AW.imulB dL_areRows_236 (by omega) ?_
      refine AW.iload dL_areRows_237 rfl ?_
      refine AW.iaddB dL_areRows_239 (by omega) ?_
      refine AW.aldIE dL_areRows_240 J.T.a5 (by omega) (by omega) (by exact hIx (by omega) (R.x (k := i) (by omega))) ?_
      refine AW.icmp_neF (tgt := 248) dL_areRows_241 rfl (by rfl) ?_
      refine AW.iconst dL_areRows_244 (by decide) ?_
      refine AW.goto (tgt := 249) dL_areRows_245 rfl ?_
      refine AW.istore dL_areRows_249 rfl ?_
      refine AW.iincB dL_areRows_251 rfl rfl (by omega) ?_
      refine AW.goto (tgt := 183) dL_areRows_254 rfl ?_
      refine AW.less (bc' := bc + 4 * m) (bs' := bs + 24 * m) (by omega) (by omega) ?_
      exact AW.locs (lrk a r (i + 1)) ⟨rfl, rfl, rfl, rfl, rfl, rfl, rfl, rfl, rfl, rfl, rfl, rfl, rfl, trivial⟩ nx
/-- the law's own row is a copy -/
theorem LR.cp (R : LR h Z 4 r) : LR h (zcpy (zs Z 48 0 0) r 20) 4 20 := by
  obtain ⟨-, c2, c3, c4, c5, c6⟩ := zcpy_n (Z := zs Z 48 0 0) (q := r) (q' := 20)
  obtain ⟨r1, r2, r3, r4⟩ := R
  refine ⟨fun k hk => (r1 k hk).trans (c4 k (by omega)).symm, r2.trans c2.symm, r3.trans c3.symm, fun w h1 h2 => ?_⟩
  rw [r4 w h1 h2]
  have q0 := c6 (2 * w) (by omega)
  have q1 := c6 (2 * w + 1) (by omega)
  have q2 := c5 w (by omega)
  unfold zbxv
  rw [show 2 * (24 * 20 + w) = 48 * 20 + 2 * w by omega, show 48 * 20 + 2 * w + 1 = 48 * 20 + (2 * w + 1) by omega, q0, q1, q2]
  show Int64.ofInt (if Z 24 (24 * r + w) = 0 then 0 else Z 24 (24 * r + w) + 3 * (Z 25 (2 * (24 * r + w)) + 1 + 10001 * (Z 25 (2 * (24 * r + w) + 1) + 1))) = Int64.ofInt (if Z 24 (24 * r + w) = 0 then 0 else Z 24 (24 * r + w) + 3 * (Z 25 (48 * r + 2 * w) + 1 + 10001 * (Z 25 (48 * r + (2 * w + 1)) + 1)))
  rw [show 2 * (24 * r + w) = 48 * r + 2 * w by omega, show 48 * r + 2 * w + 1 = 48 * r + (2 * w + 1) by omega]
theorem sj_off {j : Nat} (hj : sj j = true) : (j != 20 && offR j) = true := by
  unfold sj at hj
  simp only [Bool.or_eq_true, beq_iff_eq] at hj
  rcases hj with ((((((((rfl | rfl) | rfl) | rfl) | rfl) | rfl) | rfl) | rfl) | rfl) | rfl <;> rfl
theorem sj_cp {q : Nat} : ∀ j, sj j = true → zcpy (zs Z 48 0 0) r q j = Z j := fun j hj => by
  rw [zcpy_o (sj_off hj), zs_oj (sj_lt hj (by decide))]
theorem VB.cp (B : VB Z r) : VB (zcpy (zs Z 48 0 0) r 20) 20 := by
  obtain ⟨-, c2, -, c4, c5, c6⟩ := zcpy_n (Z := zs Z 48 0 0) (q := r) (q' := 20)
  have e24 : ∀ w : Nat, w < 24 → zcpy (zs Z 48 0 0) r 20 24 (24 * 20 + w) = Z 24 (24 * r + w) := fun w hw => c5 w hw
  have e25 : ∀ w : Nat, w < 24 → zcpy (zs Z 48 0 0) r 20 25 (2 * (24 * 20 + w)) = Z 25 (2 * (24 * r + w)) := fun w hw => by
    rw [show 2 * (24 * 20 + w) = 48 * 20 + 2 * w by omega, show 2 * (24 * r + w) = 48 * r + 2 * w by omega]
    exact c6 (2 * w) (by omega)
  have e26 : ∀ w : Nat, w < 24 → zcpy (zs Z 48 0 0) r 20 25 (2 * (24 * 20 + w) + 1) = Z 25 (2 * (24 * r + w) + 1) := fun w hw => by
    rw [show 2 * (24 * 20 + w) + 1 = 48 * 20 + (2 * w + 1) by omega, show 2 * (24 * r + w) + 1 = 48 * r + (2 * w + 1) by omega]
    exact c6 (2 * w + 1) (by omega)
  refine VB.byS sj_cp (fun k hk => ?_) ?_ (fun w hw => ?_)
  · rw [show zcpy (zs Z 48 0 0) r 20 22 (48 * 20 + k) = Z 22 (48 * r + k) from c4 k hk]; exact B.x hk
  · rw [show zcpy (zs Z 48 0 0) r 20 21 20 = Z 21 r from c2]; exact B.v
  · rw [e24 w hw, e25 w hw, e26 w hw]; exact B.w hw
set_option maxHeartbeats 1000000 in
/-- the law's moves of its own row -/
theorem ar_mov (J : IV L h Z c b) (V : JV h Z) (B : VB Z r) (ha : (a : Int) ≤ Z 1 0) (R : LR h (zcpy (zs Z 48 0 0) r 20) 4 20) (k : ∀ G, FR 4 h G → LR G (zmt (zcpy (zs Z 48 0 0) r 20) 20 0 (a : Int)) 4 20 → AW mL_areRows fL_areRows loL_areRows mc ms Q bc bs 312 G (lrw a r) []) : AW mL_areRows fL_areRows loL_areRows mc ms Q bc bs 269 h (lrw a r) [] := by
  have b1 := J.K.b1
  have eY := sj_cp (Z := Z) (r := r) (q := 20)
  have BY := B.cp
  have KY : QS (zcpy (zs Z 48 0 0) r 20) := J.K.o eY
  have SY : LSc h (zcpy (zs Z 48 0 0) r 20) := V.s.o eY
  have eu : zcpy (zs Z 48 0 0) r 20 1 0 = Z 1 0 := by rw [eY 1 rfl]
  generalize zcpy (zs Z 48 0 0) r 20 = Y at *
  have bY := BY.v
  obtain ⟨w, hw⟩ := Int.eq_ofNat_of_zero_le bY.1
  have u21 : ∀ n : Nat, zmtU Y 20 0 n 21 20 = Y 21 20 + (n : Int) := fun n => zmtU_21 (r := 20) n
  have d21 : ∀ n : Nat, zmtD Y 20 0 n 21 20 = Y 21 20 - (n : Int) := fun n => zmtD_21 (r := 20) n
  by_cases hd : (w : Int) ≤ (a : Int)
  · have fin : zmt Y 20 0 (a : Int) = zmtU Y 20 0 (a - w) := by
      unfold zmt
      rw [show Y 21 (20 : Int).toNat = (w : Int) from hw, show ((a : Int) - (w : Int)).toNat = a - w by omega, show ((w : Int) - (a : Int)).toNat = 0 by omega]
      rfl
    rw [fin] at k
    have lp : ∀ (m n : Nat) (G : AH), w + n + m = a → FR 4 h G → LR G (zmtU Y 20 0 n) 4 20 → VB (zmtU Y 20 0 n) 20 → (∀ j, sj j = true → zmtU Y 20 0 n j = Y j) → AW mL_areRows fL_areRows loL_areRows mc ms Q bc bs 269 G (lrw a r) [] := by
      intro m
      induction m with
      | zero =>
        intro n G hn F R B e
        have T := F.1.T J.T
        have y0 : hI G (la 6) 8 = (a : Int) := R.y0.trans (by rw [u21, hw]; omega)
        have k' := k G F (by rw [show a - w = n by omega]; exact R)
        refine AW.aload dL_areRows_269 rfl ?_
        refine AW.bipush dL_areRows_271 bp_8 (by decide) ?_
        refine AW.aldIE dL_areRows_273 T.a6 (by omega) (by omega) (by exact y0) ?_
        refine AW.iload dL_areRows_274 rfl ?_
        refine AW.icmp_eqT (tgt := 312) dL_areRows_276 rfl (by rfl) ?_
        exact k'
      | succ m ih =>
        intro n G hn F R B e
        have T := F.1.T J.T
        have y0 : hI G (la 6) 8 = ((w + n : Nat) : Int) := R.y0.trans (by rw [u21, hw]; omega)
        have es : zmtU Y 20 0 (n + 1) = zmv (zmtU Y 20 0 n) ((20 : Nat) : Int) 0 ((w + n + 1 : Nat) : Int) 1 := by
          rw [zmtU_s, show Y 21 (20 : Int).toNat = (w : Int) from hw]
          rw [show (w : Int) + (n : Int) + 1 = ((w + n + 1 : Nat) : Int) by omega]
          rfl
        have KG : QS (zmtU Y 20 0 n) := KY.o e
        have e1 : zmtU Y 20 0 n 1 0 = Z 1 0 := by rw [e 1 rfl]; exact eu
        refine AW.aload dL_areRows_269 rfl ?_
        refine AW.bipush dL_areRows_271 bp_8 (by decide) ?_
        refine AW.aldIE dL_areRows_273 T.a6 (by omega) (by omega) (by exact y0) ?_
        refine AW.iload dL_areRows_274 rfl ?_
        refine AW.icmp_eqF (tgt := 312) dL_areRows_276 rfl (by omega) ?_
        refine AW.aload_n dL_areRows_279 rfl ?_
        refine AW.aload_n dL_areRows_280 rfl ?_
        refine AW.aload_n dL_areRows_281 rfl ?_
        refine AW.aload dL_areRows_282 rfl ?_
        refine AW.aload dL_areRows_284 rfl ?_
        refine AW.aload dL_areRows_286 rfl ?_
        refine AW.iconst dL_areRows_288 (by decide) ?_
        refine AW.aload dL_areRows_289 rfl ?_
        refine AW.bipush dL_areRows_291 bp_8 (by decide) ?_
        refine AW.aldIE dL_areRows_293 T.a6 (by omega) (by omega) (by exact y0) ?_
        refine AW.iload dL_areRows_294 rfl ?_
        refine AW.icmp_geF (tgt := 303) dL_areRows_296 rfl (by omega) ?_
        refine AW.iconst dL_areRows_299 (by decide) ?_
        refine AW.goto (tgt := 304) dL_areRows_300 rfl ?_
        refine AW.aload dL_areRows_304 rfl ?_
        refine AW.callS (as := [vq _, vq _, vq _, vq _, vq _, vq _, vi _, vi _, vq _]) dL_areRows_306 rfl rfl rfl okL_moves lkL_135 rfl rfl rfl (leb (by omega)) (leb (by omega)) rfl (kL_moves (rl := 4) (Z := zmtU Y 20 0 n) (rz := 20) (a := w + n + 1) T ((SY.o e).fr F) KG B (by omega) (by rw [e1]; omega) (by omega) (Or.inr rfl) (by rw [if_neg (by decide), u21, hw]; omega) R (fun G' F' R' => (AW.k0 ?_)))
        refine AW.goto (tgt := 269) dL_areRows_309 rfl ?_
        rw [← es] at R'
        exact ih (n + 1) G' (by omega) (F.tr F') R' (by rw [es]; exact B.mv KG (by omega) (by rw [e1]; omega) (Or.inr rfl)) (by rw [es]; exact sj_tr e sj_mv)
    exact lp (a - w) 0 h (by omega) FR.rf R BY (fun _ _ => rfl)
  · have fin : zmt Y 20 0 (a : Int) = zmtD Y 20 0 (w - a) := by
      unfold zmt
      rw [show Y 21 (20 : Int).toNat = (w : Int) from hw, show ((a : Int) - (w : Int)).toNat = 0 by omega, show ((w : Int) - (a : Int)).toNat = w - a by omega]
      rfl
    rw [fin] at k
    have lp : ∀ (m n : Nat) (G : AH), a + n + m = w → FR 4 h G → LR G (zmtD Y 20 0 n) 4 20 → VB (zmtD Y 20 0 n) 20 → (∀ j, sj j = true → zmtD Y 20 0 n j = Y j) → AW mL_areRows fL_areRows loL_areRows mc ms Q bc bs 269 G (lrw a r) [] := by
      intro m
      induction m with
      | zero =>
        intro n G hn F R B e
        have T := F.1.T J.T
        have y0 : hI G (la 6) 8 = (a : Int) := R.y0.trans (by rw [d21, hw]; omega)
        have k' := k G F (by rw [show w - a = n by omega]; exact R)
        refine AW.aload dL_areRows_269 rfl ?_
        refine AW.bipush dL_areRows_271 bp_8 (by decide) ?_
        refine AW.aldIE dL_areRows_273 T.a6 (by omega) (by omega) (by exact y0) ?_
        refine AW.iload dL_areRows_274 rfl ?_
        refine AW.icmp_eqT (tgt := 312) dL_areRows_276 rfl (by rfl) ?_
        exact k'
      | succ m ih =>
        intro n G hn F R B e
        have T := F.1.T J.T
        have y0 : hI G (la 6) 8 = ((w - n : Nat) : Int) := R.y0.trans (by rw [d21, hw]; omega)
        have es : zmtD Y 20 0 (n + 1) = zmv (zmtD Y 20 0 n) ((20 : Nat) : Int) 0 ((w - n : Nat) : Int) 0 := by
          rw [zmtD_s, show Y 21 (20 : Int).toNat = (w : Int) from hw]
          rw [show (w : Int) - (n : Int) = ((w - n : Nat) : Int) by omega]
          rfl
        have KG : QS (zmtD Y 20 0 n) := KY.o e
        have e1 : zmtD Y 20 0 n 1 0 = Z 1 0 := by rw [e 1 rfl]; exact eu
        refine AW.aload dL_areRows_269 rfl ?_
        refine AW.bipush dL_areRows_271 bp_8 (by decide) ?_
        refine AW.aldIE dL_areRows_273 T.a6 (by omega) (by omega) (by exact y0) ?_
        refine AW.iload dL_areRows_274 rfl ?_
        refine AW.icmp_eqF (tgt := 312) dL_areRows_276 rfl (by omega) ?_
        refine AW.aload_n dL_areRows_279 rfl ?_
        refine AW.aload_n dL_areRows_280 rfl ?_
        refine AW.aload_n dL_areRows_281 rfl ?_
        refine AW.aload dL_areRows_282 rfl ?_
        refine AW.aload dL_areRows_284 rfl ?_
        refine AW.aload dL_areRows_286 rfl ?_
        refine AW.iconst dL_areRows_288 (by decide) ?_
        refine AW.aload dL_areRows_289 rfl ?_
        refine AW.bipush dL_areRows_291 bp_8 (by decide) ?_
        refine AW.aldIE dL_areRows_293 T.a6 (by omega) (by omega) (by exact y0) ?_
        refine AW.iload dL_areRows_294 rfl ?_
        refine AW.icmp_geT (tgt := 303) dL_areRows_296 rfl (by omega) ?_
        refine AW.iconst dL_areRows_303 (by decide) ?_
        refine AW.aload dL_areRows_304 rfl ?_
        refine AW.callS (as := [vq _, vq _, vq _, vq _, vq _, vq _, vi _, vi _, vq _]) dL_areRows_306 rfl rfl rfl okL_moves lkL_135 rfl rfl rfl (leb (by omega)) (leb (by omega)) rfl (kL_moves (rl := 4) (Z := zmtD Y 20 0 n) (rz := 20) (a := w - n) T ((SY.o e).fr F) KG B (by omega) (by rw [e1]; omega) (by omega) (Or.inl rfl) (by rw [if_pos rfl, d21, hw]; omega) R (fun G' F' R' => (AW.k0 ?_)))
        refine AW.goto (tgt := 269) dL_areRows_309 rfl ?_
        rw [← es] at R'
        exact ih (n + 1) G' (by omega) (F.tr F') R' (by rw [es]; exact B.mv KG (by omega) (by rw [e1]; omega) (Or.inl rfl)) (by rw [es]; exact sj_tr e sj_mv)
    exact lp (w - a) 0 h (by omega) FR.rf R BY (fun _ _ => rfl)
set_option maxHeartbeats 1000000 in
theorem ar_nam (hr : (r : Int) < Z 19 0) (ha : (a : Int) ≤ Z 1 0) (k : ∀ g, IV L g Z c b → JV g Z → AW mL_areRows fL_areRows loL_areRows mc ms Q bc bs 385 g (lrw a r) []) : ∀ (m i : Nat) (h : AH), i ≤ 7 → 7 ≤ i + m → IV L h Z c b → JV h Z → LR h (zsee (zs Z 48 0 0) (r : Int) (a : Int)) 4 20 → AW mL_areRows fL_areRows loL_areRows mc ms Q (bc + 4 * m) (bs + 24 * m) 315 h (lrk a r i) [] := by
  intro m
  induction m with
  | zero =>
    intro i h h1 h2 J V R
    have e : i = 7 := by omega
    subst e
    refine AW.iload dL_areRows_315 rfl ?_
    refine AW.bipush dL_areRows_317 bp_7 (by decide) ?_
    refine AW.icmp_geT (tgt := 385) dL_areRows_319 rfl (by omega) ?_
    exact AW.locs (lrw a r) ⟨rfl, rfl, rfl, rfl, rfl, rfl, rfl, rfl, rfl, rfl, rfl, rfl, trivial⟩ (k h J V)
  | succ m ih =>
    intro i h h1 h2 J V R
    by_cases e : i = 7
    · exact AW.less (by omega) (by omega) (ih i h h1 (by omega) J V R)
    have K := J.K
    have b1 := K.b1
    have b2 := K.b2
    have v2 := V.b2
    obtain ⟨-, B, h20⟩ := V.r hr
    have bv := B.v
    have zr := zf_r K (a := (a : Int)) (n := (i : Int))
    by_cases e0 : zfind Z 0 (a : Int) (i : Int) = -1
    · refine AW.iload dL_areRows_315 rfl ?_
      refine AW.bipush dL_areRows_317 bp_7 (by decide) ?_
      refine AW.icmp_geF (tgt := 385) dL_areRows_319 rfl (by omega) ?_
      refine AW.iload dL_areRows_322 rfl ?_
      refine AW.if_eqF (tgt := 385) dL_areRows_324 rfl (by omega) ?_
      refine AW.aload_n dL_areRows_327 rfl ?_
      refine AW.aload dL_areRows_328 rfl ?_
      refine AW.iload dL_areRows_330 rfl ?_
      refine AW.iload dL_areRows_332 rfl ?_
      refine AW.callS (as := [vq _, vq _, vi _, vi _]) dL_areRows_334 rfl rfl rfl okL_find lkL_123 rfl rfl rfl (leb (by omega)) (leb (by omega)) rfl (kL_find J.T V.s K ha (by omega) (AW.k1 ?_))
      refine AW.istore dL_areRows_337 rfl ?_
      refine AW.aload_n dL_areRows_339 rfl ?_
      refine AW.iconst dL_areRows_340 (by decide) ?_
      refine AW.iload dL_areRows_341 rfl ?_
      refine AW.iload dL_areRows_343 rfl ?_
      refine AW.iload dL_areRows_345 rfl ?_
      refine AW.callSH (as := [vq _, vi _, vi _, vi _, vi _]) dL_areRows_347 rfl rfl rfl okL_asks lkL_119 rfl rfl rfl (by omega) (by omega) rfl (q_val J hr h20 bv (by omega) ha (fun _ => (AW.k1 ?_)) (fun z => absurd e0 z))
      refine AW.iload dL_areRows_350 rfl ?_
      refine AW.if_geF (tgt := 361) dL_areRows_352 rfl (by omega) ?_
      refine AW.sipush dL_areRows_355 sp_m300 (by decide) ?_
      refine AW.goto (tgt := 369) dL_areRows_358 rfl ?_
      refine AW.icmp_neF (tgt := 376) dL_areRows_369 rfl (by rfl) ?_
      refine AW.iconst dL_areRows_372 (by decide) ?_
      refine AW.pcs (pc2 := 373) rfl ?_
      refine AW.goto (tgt := 377) dL_areRows_373 rfl ?_
      refine AW.istore dL_areRows_377 rfl ?_
      refine AW.iincB dL_areRows_379 rfl rfl (by omega) ?_
      refine AW.goto (tgt := 315) dL_areRows_382 rfl ?_
      refine AW.less (bc' := bc + 4 * m) (bs' := bs + 24 * m) (by omega) (by omega) ?_
      exact AW.locs (lrk a r (i + 1)) ⟨rfl, rfl, rfl, rfl, rfl, rfl, rfl, rfl, rfl, rfl, rfl, rfl, rfl, trivial⟩ (ih (i + 1) h (by omega) (by omega) J V R)
    · refine AW.iload dL_areRows_315 rfl ?_
      refine AW.bipush dL_areRows_317 bp_7 (by decide) ?_
      refine AW.icmp_geF (tgt := 385) dL_areRows_319 rfl (by omega) ?_
      refine AW.iload dL_areRows_322 rfl ?_
      refine AW.if_eqF (tgt := 385) dL_areRows_324 rfl (by omega) ?_
      refine AW.aload_n dL_areRows_327 rfl ?_
      refine AW.aload dL_areRows_328 rfl ?_
      refine AW.iload dL_areRows_330 rfl ?_
      refine AW.iload dL_areRows_332 rfl ?_
      refine AW.callS (as := [vq _, vq _, vi _, vi _]) dL_areRows_334 rfl rfl rfl okL_find lkL_123 rfl rfl rfl (leb (by omega)) (leb (by omega)) rfl (kL_find J.T V.s K ha (by omega) (AW.k1 ?_))
      refine AW.istore dL_areRows_337 rfl ?_
      refine AW.aload_n dL_areRows_339 rfl ?_
      refine AW.iconst dL_areRows_340 (by decide) ?_
      refine AW.iload dL_areRows_341 rfl ?_
      refine AW.iload dL_areRows_343 rfl ?_
      refine AW.iload dL_areRows_345 rfl ?_
      refine AW.callSH (as := [vq _, vi _, vi _, vi _, vi _]) dL_areRows_347 rfl rfl rfl okL_asks lkL_119 rfl rfl rfl (by omega) (by omega) rfl (q_val J hr h20 bv (by omega) ha (fun z => absurd z e0) (fun _ g J eg => (AW.k1 ?_)))
      have V := V.as eg
      have R := R.s eg
      refine AW.iload dL_areRows_350 rfl ?_
      refine AW.if_geT (tgt := 361) dL_areRows_352 rfl (by omega) ?_
      refine AW.aload dL_areRows_361 rfl ?_
      refine AW.bipush dL_areRows_363 bp_40 (by decide) ?_
      refine AW.iload dL_areRows_365 rfl ?_
      refine AW.iaddB dL_areRows_367 (by omega) ?_
      refine AW.pcs (pc2 := 368) rfl ?_
      refine AW.aldIE dL_areRows_368 J.T.a5 (by omega) (by omega) (by exact hIx (by omega) (R.x (k := (zfind Z 0 (a : Int) (i : Int)).toNat) (by omega))) ?_
      refine AW.icmp_neF (tgt := 376) dL_areRows_369 rfl (by rfl) ?_
      refine AW.iconst dL_areRows_372 (by decide) ?_
      refine AW.goto (tgt := 377) dL_areRows_373 rfl ?_
      refine AW.istore dL_areRows_377 rfl ?_
      refine AW.iincB dL_areRows_379 rfl rfl (by omega) ?_
      refine AW.goto (tgt := 315) dL_areRows_382 rfl ?_
      refine AW.less (bc' := bc + 4 * m) (bs' := bs + 24 * m) (by omega) (by omega) ?_
      exact AW.locs (lrk a r (i + 1)) ⟨rfl, rfl, rfl, rfl, rfl, rfl, rfl, rfl, rfl, rfl, rfl, rfl, rfl, trivial⟩ (ih (i + 1) g (by omega) (by omega) J V R)
set_option maxHeartbeats 2000000 in
theorem kL_areRows (J : IV L h Z c b) (V : JV h Z) (ha : (a : Int) ≤ Z 1 0) (k : ∀ g, IV L g Z c b → JV g Z → Q g (.inl (some (vi 1)))) : AC mL_areRows fL_areRows loL_areRows 320 2200 h [vr mF, vr (la 1), vr (la 2), vr (la 3), vr (la 4), vr (la 5), vr (la 6), vr (la 7), vr (la 9), vi (a : Int)] Q := by
  have K := J.K
  have b1 := K.b1
  have b2 := K.b2
  refine AC.mk (by decide) (Nat.le_of_ble_eq_true rfl) ?_
  have lp : ∀ (m i : Nat) (g : AH), IV L g Z c b → JV g Z → (i : Int) ≤ Z 19 0 → Z 19 0 ≤ (i : Int) + m → AW mL_areRows fL_areRows loL_areRows 320 2200 Q (76 * m) (460 * m) 58 g (lrw a i) [] := by
    intro m
    induction m with
    | zero =>
      intro i g J V h1 h2
      refine AW.iload dL_areRows_58 rfl ?_
      refine AW.aload dL_areRows_60 rfl ?_
      refine AW.iconst dL_areRows_62 (by decide) ?_
      refine AW.aldIE dL_areRows_63 J.T.a4 (by omega) (by omega) (by exact V.g2) ?_
      refine AW.icmp_geT (tgt := 391) dL_areRows_64 rfl (by omega) ?_
      refine AW.iload dL_areRows_391 rfl ?_
      refine AW.zret dL_areRows_393 rfl ?_ ?_
      · omega
      exact k g J V
    | succ m ih =>
      intro i g J V h1 h2
      by_cases e : (i : Int) = Z 19 0
      · exact AW.less (by omega) (by omega) (ih i g J V h1 (by omega))
      have v2 := V.b2
      have hr : (i : Int) < Z 19 0 := by omega
      obtain ⟨R, B, h20⟩ := V.r hr
      have bv := B.v
      obtain ⟨w, hw⟩ := Int.eq_ofNat_of_zero_le bv.1
      rw [hw] at bv
      have zr := zstA_rng (Z := Z) (r := (i : Int)) 12
      have eS : zStd Z (i : Int) = wr (10000 * (w : Int) + 100 * zstA Z (i : Int) 12 + Z 23 i) := by
        unfold zStd
        rw [Int.toNat_natCast, hw, show zstA Z (i : Int) 24 = zstA Z (i : Int) 12 from zstA_12 K B 12 (by omega)]
      have es : zsee (zs Z 48 0 0) (i : Int) (a : Int) = zmt (zcpy (zs Z 48 0 0) i 20) 20 0 (a : Int) := by
        unfold zsee
        rw [Int.toNat_natCast, show zs Z 48 0 0 20 i = 0 from h20]
      refine AW.iload dL_areRows_58 rfl ?_
      refine AW.aload dL_areRows_60 rfl ?_
      refine AW.iconst dL_areRows_62 (by decide) ?_
      refine AW.aldIE dL_areRows_63 J.T.a4 (by omega) (by omega) (by exact V.g2) ?_
      refine AW.icmp_geF (tgt := 391) dL_areRows_64 rfl (by omega) ?_
      refine AW.iload dL_areRows_67 rfl ?_
      refine AW.if_eqF (tgt := 391) dL_areRows_69 rfl (by omega) ?_
      refine AW.iconst dL_areRows_72 (by decide) ?_
      refine AW.top (y := zstA Z (i : Int) 1) (zstA_1 B).symm ?_
      refine AW.istore dL_areRows_73 rfl ?_
      refine AW.iconst dL_areRows_75 (by decide) ?_
      refine AW.istore dL_areRows_76 rfl ?_
      refine AW.locs (lcn Z a i 1) ⟨rfl, rfl, rfl, rfl, rfl, rfl, rfl, rfl, rfl, rfl, rfl, rfl, rfl, rfl, trivial⟩ (ar_cnt J.T B R (by omega) ?_ 11 1 (by omega) (by omega) (by omega))
      refine AW.aload_n dL_areRows_117 rfl ?_
      refine AW.iload dL_areRows_118 rfl ?_
      refine AW.callV (as := [vi _]) dL_areRows_120 rfl rfl rfl okX7_standing lkL_71 J.F rfl rfl rfl rfl (leb (by omega)) (leb (by omega)) rfl (t_st J (by omega) (AW.k1 ?_))
      refine AW.sipush dL_areRows_123 sp_10000 (by decide) ?_
      refine AW.aload dL_areRows_126 rfl ?_
      refine AW.iconst dL_areRows_128 (by decide) ?_
      refine AW.iload dL_areRows_129 rfl ?_
      refine AW.imulB dL_areRows_131 (by omega) ?_
      refine AW.aldIE dL_areRows_132 J.T.a6 (by omega) (by omega) (by exact hIx (by omega) (R.y0.trans hw)) ?_
      refine AW.imulB dL_areRows_133 (by omega) ?_
      refine AW.bipush dL_areRows_134 bp_100 (by decide) ?_
      refine AW.iload dL_areRows_136 rfl ?_
      refine AW.imulB dL_areRows_138 (by omega) ?_
      refine AW.iaddB dL_areRows_139 (by omega) ?_
      refine AW.aload dL_areRows_140 rfl ?_
      refine AW.iconst dL_areRows_142 (by decide) ?_
      refine AW.iload dL_areRows_143 rfl ?_
      refine AW.imulB dL_areRows_145 (by omega) ?_
      refine AW.iconst dL_areRows_146 (by decide) ?_
      refine AW.iaddB dL_areRows_147 (by omega) ?_
      refine AW.aldIE dL_areRows_148 J.T.a6 (by omega) (by omega) (by exact hIx (by omega) R.y1) ?_
      refine AW.iadd dL_areRows_149 ?_
      refine AW.icmp_neF (tgt := 177) dL_areRows_150 rfl (by exact eS) ?_
      refine AW.pcs (pc2 := 153) rfl ?_
      refine AW.aload_n dL_areRows_153 rfl ?_
      refine AW.iconst dL_areRows_154 (by decide) ?_
      refine AW.iload dL_areRows_155 rfl ?_
      refine AW.aload dL_areRows_157 rfl ?_
      refine AW.iconst dL_areRows_159 (by decide) ?_
      refine AW.aldIE dL_areRows_160 J.T.a4 (by omega) (by omega) (by exact V.s.g0) ?_
      refine AW.iconst dL_areRows_161 (by decide) ?_
      refine AW.iaddB dL_areRows_162 (by omega) ?_
      refine AW.iconst dL_areRows_163 (by decide) ?_
      refine AW.callSH (as := [vq _, vi _, vi _, vi _, vi _]) dL_areRows_164 rfl rfl rfl okL_asks lkL_119 rfl rfl rfl (by omega) (by omega) rfl (q_valX J (fun z => absurd z.2.2 (by rw [Int.toNat_natCast, h20]; show ¬ Z 1 0 + 1 ≤ Z 1 0; omega)) (AW.k1 ?_))
      refine AW.sipush dL_areRows_167 sp_m300 (by decide) ?_
      refine AW.icmp_neF (tgt := 177) dL_areRows_170 rfl (by rfl) ?_
      refine AW.iconst dL_areRows_173 (by decide) ?_
      refine AW.goto (tgt := 178) dL_areRows_174 rfl ?_
      refine AW.istore dL_areRows_178 rfl ?_
      refine AW.iconst dL_areRows_180 (by decide) ?_
      refine AW.istore dL_areRows_181 rfl ?_
      refine AW.less (bc' := (76 * m + 30) + 4 * 10) (bs' := (460 * m + 180) + 24 * 10) (by omega) (by omega) ?_
      refine AW.locs (lrk a i 0) ⟨rfl, rfl, rfl, rfl, rfl, rfl, rfl, rfl, rfl, rfl, rfl, rfl, rfl, trivial⟩ (ar_rep J V hr ?_ 10 0 (by omega) (by omega))
      refine AW.aload dL_areRows_257 rfl ?_
      refine AW.aload dL_areRows_259 rfl ?_
      refine AW.aload dL_areRows_261 rfl ?_
      refine AW.iload dL_areRows_263 rfl ?_
      refine AW.iconst dL_areRows_265 (by decide) ?_
      refine AW.callS (as := [vq _, vq _, vq _, vi _, vi _]) dL_areRows_266 rfl rfl rfl okL_copies lkL_131 rfl rfl rfl (leb (by omega)) (leb (by omega)) rfl (kL_copies J.T (by omega) R (fun g1 F1 R1 => (AW.k0 ?_)))
      refine AW.locs (lrw a i) ⟨rfl, rfl, rfl, rfl, rfl, rfl, rfl, rfl, rfl, rfl, rfl, rfl, trivial⟩ (ar_mov (J.fl F1.1) (V.r4 F1) B ha R1.cp (fun g2 F2 R2 => ?_))
      have F2 := F1.tr F2
      rw [← es] at R2
      refine AW.iconst dL_areRows_312 (by decide) ?_
      refine AW.istore dL_areRows_313 rfl ?_
      refine AW.less (bc' := (76 * m) + 4 * 7) (bs' := (460 * m) + 24 * 7) (by omega) (by omega) ?_
      refine AW.locs (lrk a i 0) ⟨rfl, rfl, rfl, rfl, rfl, rfl, rfl, rfl, rfl, rfl, rfl, rfl, rfl, trivial⟩ (ar_nam hr ha (fun g3 J3 V3 => ?_) 7 0 g2 (by omega) (by omega) (J.fl F2.1) (V.r4 F2) R2)
      refine AW.iincB dL_areRows_385 rfl rfl (by omega) ?_
      refine AW.goto (tgt := 58) dL_areRows_388 rfl ?_
      exact AW.locs (lrw a (i + 1)) ⟨rfl, rfl, rfl, rfl, rfl, rfl, rfl, rfl, rfl, rfl, rfl, rfl, trivial⟩ (ih (i + 1) g3 J3 V3 (by omega) (by omega))
  have v2 := V.b2
  refine AW.aload_n dL_areRows_0 rfl ?_
  refine AW.iconst dL_areRows_1 (by decide) ?_
  refine AW.aload dL_areRows_2 rfl ?_
  refine AW.iconst dL_areRows_4 (by decide) ?_
  refine AW.aldIE dL_areRows_5 J.T.a4 (by omega) (by omega) (by exact V.g2) ?_
  refine AW.iconst dL_areRows_6 (by decide) ?_
  refine AW.iconst dL_areRows_7 (by decide) ?_
  refine AW.callSH (as := [vq _, vi _, vi _, vi _, vi _]) dL_areRows_8 rfl rfl rfl okL_asks lkL_119 rfl rfl rfl (by omega) (by omega) rfl (q_stX J (by omega) (AW.k1 ?_))
  refine AW.sipush dL_areRows_11 sp_m300 (by decide) ?_
  refine AW.icmp_neF (tgt := 52) dL_areRows_14 rfl (by rfl) ?_
  refine AW.aload_n dL_areRows_17 rfl ?_
  refine AW.iconst dL_areRows_18 (by decide) ?_
  refine AW.aload dL_areRows_19 rfl ?_
  refine AW.iconst dL_areRows_21 (by decide) ?_
  refine AW.aldIE dL_areRows_22 J.T.a4 (by omega) (by omega) (by exact V.g2) ?_
  refine AW.iconst dL_areRows_23 (by decide) ?_
  refine AW.iconst dL_areRows_24 (by decide) ?_
  refine AW.callSH (as := [vq _, vi _, vi _, vi _, vi _]) dL_areRows_25 rfl rfl rfl okL_asks lkL_119 rfl rfl rfl (by omega) (by omega) rfl (q_valX J (fun z => absurd z.1.2 (by omega)) (AW.k1 ?_))
  refine AW.sipush dL_areRows_28 sp_m300 (by decide) ?_
  refine AW.icmp_neF (tgt := 52) dL_areRows_31 rfl (by rfl) ?_
  refine AW.aload_n dL_areRows_34 rfl ?_
  refine AW.iconst dL_areRows_35 (by decide) ?_
  refine AW.iconst dL_areRows_36 (by decide) ?_
  refine AW.pcs (pc2 := 37) rfl ?_
  refine AW.iconst dL_areRows_37 (by decide) ?_
  refine AW.iconst dL_areRows_38 (by decide) ?_
  refine AW.callSH (as := [vq _, vi _, vi _, vi _, vi _]) dL_areRows_39 rfl rfl rfl okL_asks lkL_119 rfl rfl rfl (by omega) (by omega) rfl (q_reX J (by omega) (AW.k1 ?_))
  refine AW.sipush dL_areRows_42 sp_m300 (by decide) ?_
  refine AW.icmp_neF (tgt := 52) dL_areRows_45 rfl (by rfl) ?_
  refine AW.iconst dL_areRows_48 (by decide) ?_
  refine AW.goto (tgt := 53) dL_areRows_49 rfl ?_
  refine AW.istore dL_areRows_53 rfl ?_
  refine AW.iconst dL_areRows_55 (by decide) ?_
  refine AW.istore dL_areRows_56 rfl ?_
  refine AW.less (bc' := 76 * 4) (bs' := 460 * 4) (by omega) (by omega) ?_
  exact AW.locs (lrw a 0) ⟨rfl, rfl, rfl, rfl, rfl, rfl, rfl, rfl, rfl, rfl, rfl, rfl, trivial⟩ (lp 4 0 h J V (by omega) (by omega))
end C4
