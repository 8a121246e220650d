/-! ===== the law's ways up and down ===== -/
section A4
variable {Q : AH → AO → Prop} {h g : AH} {Z Y : ZT}
def nnd (Z : ZT) (v : Nat) (f x : Int) : Int := if x = -1 ∧ ¬ f = -1 ∧ ¬ Z 6 (48 * v + f.toNat) = 0 then Z 4 f.toNat else x
theorem zned_n {v : Nat} {f x : Int} (hf : -1 ≤ f) : zned Z 0 (v : Int) f x = nnd Z v f x := by
  unfold zned nnd
  by_cases e : f = -1
  · rw [if_neg (fun z => z.2.1 e), if_neg (fun z => z.2.1 e)]
  · rw [show (48 * (24 * 0 + (v : Int)) + f).toNat = 48 * v + f.toNat by omega, show (48 * 0 + f).toNat = f.toNat by omega]
theorem zkof_n {f : Int} : zkof Z 0 f = if f = -1 then 0 else Z 3 f.toNat := by
  unfold zkof; rw [show (48 * 0 + f).toNat = f.toNat by omega]
theorem ixp {a : Nat} : (24 * (0 : Int) + (a : Int)).toNat = a := by omega
theorem zfr0_n {a : Nat} : zfr Z (24 * 0 + (a : Int)) 0 = Z 8 (2 * a) := by unfold zfr; rw [show (2 * (24 * 0 + (a : Int)) + 0).toNat = 2 * a by omega]
theorem zfr1_n {a : Nat} : zfr Z (24 * 0 + (a : Int)) 1 = Z 8 (2 * a + 1) := by unfold zfr; rw [show (2 * (24 * 0 + (a : Int)) + 1).toNat = 2 * a + 1 by omega]
theorem zbe0_n {a : Nat} : zbe Z (24 * 0 + (a : Int)) 0 = Z 9 (2 * a) := by unfold zbe; rw [show (2 * (24 * 0 + (a : Int)) + 0).toNat = 2 * a by omega]
theorem zbe1_n {a : Nat} : zbe Z (24 * 0 + (a : Int)) 1 = Z 9 (2 * a + 1) := by unfold zbe; rw [show (2 * (24 * 0 + (a : Int)) + 1).toNat = 2 * a + 1 by omega]
/-- what the way tells, but for needed fields -/
def nr0 (Z : ZT) (a : Nat) (u x y : Int) : Int :=
  if u = 0 then
    (if Z 7 a = 2 then ztur x (zkof Z 0 (Z 9 (2 * a))) (zkof Z 0 (Z 8 (2 * a))) else if Z 7 a = 3 then zjoi x y (Z 10 a) else if Z 7 a = 4 then (if x = -1 then -1 else x.tdiv (Z 10 a)) else if Z 7 a = 6 then x else -1)
  else (if Z 7 a = 0 then Z 4 (Z 9 (2 * a)).toNat else if Z 7 a = 2 then ztur x (zkof Z 0 (Z 8 (2 * a))) (zkof Z 0 (Z 9 (2 * a))) else if Z 7 a = 3 then (if x = -1 then -1 else x.tdiv (Z 10 a)) else if Z 7 a = 4 then zjoi x y (Z 10 a) else if Z 7 a = 6 then x else -1)
def nr1 (Z : ZT) (a : Nat) (u x : Int) : Int := if Z 7 a = (if u = 0 then 4 else 3) ∧ ¬ x = -1 then x.tmod (Z 10 a) else -1
def nve (a : Nat) (u : Int) : Nat := if u = 0 then a - 1 else a
theorem zG0_n (K : QS Z) {a : Nat} {u x y : Int} (h1 : 1 ≤ a) (ha : (a : Int) ≤ Z 1 0) (hu : u = 0 ∨ u = 1) : zG0 Z u 0 (a : Int) x y = if Z 7 a = 1 then -1 else nnd Z (nve a u) (zsd Z a (nu u) 0) (nr0 Z a u x y) := by
  obtain ⟨p, -⟩ := K.p h1 ha
  unfold zG0 nr0 nve nu zsd
  rcases hu with rfl | rfl
  · simp only [if_pos]
    unfold zD0 zD0r
    rw [ixp, zfr0_n, zbe0_n, show ((a : Int) - 1) = ((a - 1 : Nat) : Int) by omega, zned_n (by omega), if_neg (show ¬ (1 : Int) = 0 by decide)]
    rfl
  · simp only [show ¬ (1 : Int) = 0 by decide, if_false, if_true]
    unfold zU0 zU0r
    rw [ixp, zfr0_n, zbe0_n, zned_n (by omega), show (48 * 0 + Z 9 (2 * a)).toNat = (Z 9 (2 * a)).toNat by omega]
    rfl
theorem zG1_n (K : QS Z) {a : Nat} {u x : Int} (h1 : 1 ≤ a) (ha : (a : Int) ≤ Z 1 0) (hu : u = 0 ∨ u = 1) : zG1 Z u 0 (a : Int) x = nnd Z (nve a u) (zsd Z a (nu u) 1) (nr1 Z a u x) := by
  obtain ⟨p, -⟩ := K.p h1 ha
  unfold zG1 nr1 nve nu zsd
  rcases hu with rfl | rfl
  · simp only [if_pos]
    unfold zD1 zD1r
    rw [ixp, zfr1_n, show ((a : Int) - 1) = ((a - 1 : Nat) : Int) by omega, zned_n (by omega), if_neg (show ¬ (1 : Int) = 0 by decide)]
    rfl
  · simp only [show ¬ (1 : Int) = 0 by decide, if_false, if_true]
    unfold zU1 zU1r
    rw [ixp, zbe1_n, zned_n (by omega)]
    rfl
theorem f_div (K : QS Z) {f : Nat} (hf : (f : Int) < Z 2 0) : (Z 3 f + 3 * Z 4 f).tdiv 3 = Z 4 f ∧ (Z 3 f + 3 * Z 4 f).tmod 3 = Z 3 f := by
  obtain ⟨b1, b2⟩ := K.kd hf
  rw [tdv (by omega), tmd (by omega)]
  omega
theorem kL_isNd {v f : Nat} (T : LT h) (S : LSc h Z) (K : QS Z) (hv : (v : Int) ≤ Z 1 0) (hf : f < 10) (k : Q h (.inl (some (vi (bz (¬ Z 5 (48 * v + f) = -1 ∧ ¬ Z 6 (48 * v + f) = 0)))))) : AC mL_isNeeded fL_isNeeded loL_isNeeded 0 0 h [vr (la 1), vi (v : Int), vi (f : Int)] Q := by
  have b1 := K.b1
  refine kL_isNeeded T (by omega) hf ?_
  rw [S.v hv hf]
  have := (zdg_n K (a := v) (f := f) (by omega) (by omega)).2
  rw [show bz (31 < zdg Z v f) = bz (¬ Z 5 (48 * v + f) = -1 ∧ ¬ Z 6 (48 * v + f) = 0) from by unfold bz; simp only [this]]
  exact k
set_option maxHeartbeats 1000000 in
theorem L_tells_0 {a : Nat} {w one two from0 pa jo x y r0 r1 : Int} {mc ms bc bs : Nat} (T : LT h) (S : LSc h Z) (K : QS Z) (h1 : 1 ≤ a) (ha : (a : Int) ≤ Z 1 0) (ho : -1 ≤ one ∧ one < Z 2 0) (ht : -1 ≤ two ∧ two < Z 2 0) (x0 : hI h (la 9) 0 = r0) (x1 : hI h (la 9) 1 = r1) (hr0 : -1 ≤ r0) (hr1 : -1 ≤ r1)
    (p0 : 0 ≤ one → ¬ Z 5 (48 * (a - 1) + one.toNat) = -1) (p1 : 0 ≤ two → ¬ Z 5 (48 * (a - 1) + two.toNat) = -1)
    (k : ∀ G, FL (fun j => j = 9) h G → hI G (la 9) 0 = (if w = 1 then -1 else nnd Z (a - 1) one r0) → hI G (la 9) 1 = nnd Z (a - 1) two r1 → Q G (.inl none)) :
    AW mL_tells fL_tells loL_tells mc ms Q bc bs 231 h [(13, vi jo), (12, vi pa), (11, vi from0), (10, vi two), (9, vi one), (8, vi w), (0, vr (la 1)), (1, vr (la 2)), (2, vr (la 3)), (3, vi (a : Int)), (4, vi 0), (5, vi x), (6, vi y), (7, vr (la 9))] [] := by
  have b1 := K.b1
  have b2 := K.b2
  have e0 : 0 ≤ one → ((one.toNat : Nat) : Int) = one := fun z => by omega
  have e1 : 0 ≤ two → ((two.toNat : Nat) : Int) = two := fun z => by omega
  have F0 : 0 ≤ one → hI h (la 3) one.toNat = Z 3 one.toNat + 3 * Z 4 one.toNat := fun z => S.f (by omega)
  have F1 : 0 ≤ two → hI h (la 3) two.toNat = Z 3 two.toNat + 3 * Z 4 two.toNat := fun z => S.f (by omega)
  have D0 : 0 ≤ one → (Z 3 one.toNat + 3 * Z 4 one.toNat).tdiv 3 = Z 4 one.toNat := fun z => (f_div K (by omega)).1
  have D1 : 0 ≤ two → (Z 3 two.toNat + 3 * Z 4 two.toNat).tdiv 3 = Z 4 two.toNat := fun z => (f_div K (by omega)).1
  refine AW.iload dL_tells_231 rfl ?_
  refine AW.if_eqT (tgt := 240) dL_tells_233 rfl (by omega) ?_
  refine AW.iload_n dL_tells_240 rfl ?_
  refine AW.iconst dL_tells_241 (by decide) ?_
  refine AW.isubB dL_tells_242 (by omega) ?_
  refine AW.top (y := ((a - 1 : Nat) : Int)) (by omega) ?_
  refine AW.istore dL_tells_243 rfl ?_
  refine AW.aload dL_tells_245 rfl ?_
  refine AW.iconst dL_tells_247 (by decide) ?_
  refine AW.iload dL_tells_248 rfl ?_
  refine AW.iconst dL_tells_250 (by decide) ?_
  refine' AW.icmp_eqJ 290 (tgt := 286) dL_tells_251 rfl _ _ _
  rotate_left 2
  · intro c_251 k_251
    refine AW.aload dL_tells_286 rfl ?_
    refine AW.iconst dL_tells_288 (by decide) ?_
    refine AW.aldIE dL_tells_289 T.a9 (by omega) (by omega) (by exact x0) ?_
    exact k_251
  · intro c_251 k_251
    refine AW.aload dL_tells_254 rfl ?_
    refine AW.iconst dL_tells_256 (by decide) ?_
    refine AW.aldIE dL_tells_257 T.a9 (by omega) (by omega) (by exact x0) ?_
    refine' AW.if_geJ 290 (tgt := 286) dL_tells_258 rfl _ _ _
    rotate_left 2
    · intro c_258 k_258
      refine AW.aload dL_tells_286 rfl ?_
      refine AW.iconst dL_tells_288 (by decide) ?_
      refine AW.aldIE dL_tells_289 T.a9 (by omega) (by omega) (by exact x0) ?_
      exact k_258
    · intro c_258 k_258
      refine AW.iload dL_tells_261 rfl ?_
      refine' AW.if_ltJ 290 (tgt := 286) dL_tells_263 rfl _ _ _
      rotate_left 2
      · intro c_263 k_263
        refine AW.aload dL_tells_286 rfl ?_
        refine AW.iconst dL_tells_288 (by decide) ?_
        refine AW.aldIE dL_tells_289 T.a9 (by omega) (by omega) (by exact x0) ?_
        exact k_263
      · intro c_263 k_263
        have z261 : 0 ≤ one := by omega
        refine AW.aload_n dL_tells_266 rfl ?_
        refine AW.iload dL_tells_267 rfl ?_
        refine AW.iload dL_tells_269 rfl ?_
        refine AW.top (y := ((one.toNat : Nat) : Int)) (e0 z261).symm ?_
        refine AW.callS (as := [vq _, vi _, vi _]) dL_tells_271 rfl rfl rfl okL_isNeeded lkL_103 rfl rfl rfl (leb (by omega)) (leb (by omega)) rfl (kL_isNd T S K (by omega) (by omega) (AW.k1 ?_))
        refine' AW.if_eqJ 290 (tgt := 286) dL_tells_274 rfl _ _ _
        rotate_left 2
        · intro c_274 k_274
          refine AW.aload dL_tells_286 rfl ?_
          refine AW.iconst dL_tells_288 (by decide) ?_
          refine AW.aldIE dL_tells_289 T.a9 (by omega) (by omega) (by exact x0) ?_
          exact k_274
        · intro c_274 k_274
          refine AW.aload_n dL_tells_277 rfl ?_
          refine AW.iload dL_tells_278 rfl ?_
          refine AW.aldIE dL_tells_280 T.a3 (by omega) (by omega) (by exact F0 z261) ?_
          refine AW.iconst dL_tells_281 (by decide) ?_
          refine AW.idiv dL_tells_282 (by omega) ?_
          rw [D0 z261]
          refine AW.goto (tgt := 290) dL_tells_283 rfl ?_
          exact k_274
        exact k_263
      exact k_258
    exact k_251
  refine AW.top (y := if w = 1 then r0 else nnd Z (a - 1) one r0) (by unfold nnd bz; (repeat' split) <;> first | rfl | omega | (exfalso; simp_all; done) | (simp_all; done)) ?_
  refine AW.astI dL_tells_290 T.a9 (by omega) (by omega) ?_
  refine AW.gen (P := fun g => FL (fun j => j = 9) h g ∧ hI g (la 9) 0 = (if w = 1 then r0 else nnd Z (a - 1) one r0) ∧ hI g (la 9) 1 = r1) ⟨FL.rf.wI rfl, hI_e rfl rfl, hI_m (by decide) x1⟩ (fun g ⟨G1, G2, G3⟩ => ?_)
  have T := G1.T T
  have S := S.fl G1 (by decide) (by decide) (by decide) (by decide)
  have F1 := fun z => (G1.I (j := 3) (by decide) two.toNat).trans (F1 z)
  refine AW.aload dL_tells_291 rfl ?_
  refine AW.iconst dL_tells_293 (by decide) ?_
  refine AW.aload dL_tells_294 rfl ?_
  refine AW.iconst dL_tells_296 (by decide) ?_
  refine AW.aldIE dL_tells_297 T.a9 (by omega) (by omega) (by exact G3) ?_
  refine' AW.if_geJ 330 (tgt := 326) dL_tells_298 rfl _ _ _
  rotate_left 2
  · intro c_298 k_298
    refine AW.aload dL_tells_326 rfl ?_
    refine AW.iconst dL_tells_328 (by decide) ?_
    refine AW.aldIE dL_tells_329 T.a9 (by omega) (by omega) (by exact G3) ?_
    exact k_298
  · intro c_298 k_298
    refine AW.iload dL_tells_301 rfl ?_
    refine' AW.if_ltJ 330 (tgt := 326) dL_tells_303 rfl _ _ _
    rotate_left 2
    · intro c_303 k_303
      refine AW.aload dL_tells_326 rfl ?_
      refine AW.iconst dL_tells_328 (by decide) ?_
      refine AW.aldIE dL_tells_329 T.a9 (by omega) (by omega) (by exact G3) ?_
      exact k_303
    · intro c_303 k_303
      have z301 : 0 ≤ two := by omega
      refine AW.aload_n dL_tells_306 rfl ?_
      refine AW.iload dL_tells_307 rfl ?_
      refine AW.iload dL_tells_309 rfl ?_
      refine AW.top (y := ((two.toNat : Nat) : Int)) (e1 z301).symm ?_
      refine AW.callS (as := [vq _, vi _, vi _]) dL_tells_311 rfl rfl rfl okL_isNeeded lkL_103 rfl rfl rfl (leb (by omega)) (leb (by omega)) rfl (kL_isNd T S K (by omega) (by omega) (AW.k1 ?_))
      refine' AW.if_eqJ 330 (tgt := 326) dL_tells_314 rfl _ _ _
      rotate_left 2
      · intro c_314 k_314
        refine AW.aload dL_tells_326 rfl ?_
        refine AW.iconst dL_tells_328 (by decide) ?_
        refine AW.aldIE dL_tells_329 T.a9 (by omega) (by omega) (by exact G3) ?_
        exact k_314
      · intro c_314 k_314
        refine AW.aload_n dL_tells_317 rfl ?_
        refine AW.iload dL_tells_318 rfl ?_
        refine AW.aldIE dL_tells_320 T.a3 (by omega) (by omega) (by exact F1 z301) ?_
        refine AW.iconst dL_tells_321 (by decide) ?_
        refine AW.idiv dL_tells_322 (by omega) ?_
        rw [D1 z301]
        refine AW.goto (tgt := 330) dL_tells_323 rfl ?_
        exact k_314
      exact k_303
    exact k_298
  refine AW.top (y := nnd Z (a - 1) two r1) (by unfold nnd bz; (repeat' split) <;> first | rfl | omega | (exfalso; simp_all; done) | (simp_all; done)) ?_
  refine AW.astI dL_tells_330 T.a9 (by omega) (by omega) ?_
  refine AW.aload dL_tells_331 rfl ?_
  refine AW.iconst dL_tells_333 (by decide) ?_
  refine AW.iload dL_tells_334 rfl ?_
  refine AW.iconst dL_tells_336 (by decide) ?_
  refine' AW.icmp_neJ 348 (tgt := 344) dL_tells_337 rfl _ _ _
  rotate_left 2
  · intro c_337 k_337
    refine AW.aload dL_tells_344 rfl ?_
    refine AW.iconst dL_tells_346 (by decide) ?_
    refine AW.aldIE dL_tells_347 T.a9 (by omega) (by omega) (by exact hI_m (by decide) G2) ?_
    exact k_337
  · intro c_337 k_337
    refine AW.iconst dL_tells_340 (by decide) ?_
    refine AW.goto (tgt := 348) dL_tells_341 rfl ?_
    exact k_337
  refine AW.top (y := if w = 1 then -1 else nnd Z (a - 1) one r0) (by (repeat' split) <;> first | rfl | omega) ?_
  refine AW.astI dL_tells_348 T.a9 (by omega) (by omega) ?_
  refine AW.vret dL_tells_349 rfl ?_
  exact k _ ((G1.wI rfl).wI rfl) (hI_e rfl rfl) (hI_m (by decide) (hI_e rfl rfl))
set_option maxHeartbeats 1000000 in
theorem L_tells_1 {a : Nat} {w one two from0 pa jo x y r0 r1 : Int} {mc ms bc bs : Nat} (T : LT h) (S : LSc h Z) (K : QS Z) (h1 : 1 ≤ a) (ha : (a : Int) ≤ Z 1 0) (ho : -1 ≤ one ∧ one < Z 2 0) (ht : -1 ≤ two ∧ two < Z 2 0) (x0 : hI h (la 9) 0 = r0) (x1 : hI h (la 9) 1 = r1) (hr0 : -1 ≤ r0) (hr1 : -1 ≤ r1)
    (p0 : 0 ≤ one → ¬ Z 5 (48 * (a) + one.toNat) = -1) (p1 : 0 ≤ two → ¬ Z 5 (48 * (a) + two.toNat) = -1)
    (k : ∀ G, FL (fun j => j = 9) h G → hI G (la 9) 0 = (if w = 1 then -1 else nnd Z (a) one r0) → hI G (la 9) 1 = nnd Z (a) two r1 → Q G (.inl none)) :
    AW mL_tells fL_tells loL_tells mc ms Q bc bs 231 h [(13, vi jo), (12, vi pa), (11, vi from0), (10, vi two), (9, vi one), (8, vi w), (0, vr (la 1)), (1, vr (la 2)), (2, vr (la 3)), (3, vi (a : Int)), (4, vi 1), (5, vi x), (6, vi y), (7, vr (la 9))] [] := by
  have b1 := K.b1
  have b2 := K.b2
  have e0 : 0 ≤ one → ((one.toNat : Nat) : Int) = one := fun z => by omega
  have e1 : 0 ≤ two → ((two.toNat : Nat) : Int) = two := fun z => by omega
  have F0 : 0 ≤ one → hI h (la 3) one.toNat = Z 3 one.toNat + 3 * Z 4 one.toNat := fun z => S.f (by omega)
  have F1 : 0 ≤ two → hI h (la 3) two.toNat = Z 3 two.toNat + 3 * Z 4 two.toNat := fun z => S.f (by omega)
  have D0 : 0 ≤ one → (Z 3 one.toNat + 3 * Z 4 one.toNat).tdiv 3 = Z 4 one.toNat := fun z => (f_div K (by omega)).1
  have D1 : 0 ≤ two → (Z 3 two.toNat + 3 * Z 4 two.toNat).tdiv 3 = Z 4 two.toNat := fun z => (f_div K (by omega)).1
  refine AW.iload dL_tells_231 rfl ?_
  refine AW.if_eqF (tgt := 240) dL_tells_233 rfl (by omega) ?_
  refine AW.iload_n dL_tells_236 rfl ?_
  refine AW.goto (tgt := 243) dL_tells_237 rfl ?_
  refine AW.top (y := ((a : Nat) : Int)) (by omega) ?_
  refine AW.istore dL_tells_243 rfl ?_
  refine AW.aload dL_tells_245 rfl ?_
  refine AW.iconst dL_tells_247 (by decide) ?_
  refine AW.iload dL_tells_248 rfl ?_
  refine AW.iconst dL_tells_250 (by decide) ?_
  refine' AW.icmp_eqJ 290 (tgt := 286) dL_tells_251 rfl _ _ _
  rotate_left 2
  · intro c_251 k_251
    refine AW.aload dL_tells_286 rfl ?_
    refine AW.iconst dL_tells_288 (by decide) ?_
    refine AW.aldIE dL_tells_289 T.a9 (by omega) (by omega) (by exact x0) ?_
    exact k_251
  · intro c_251 k_251
    refine AW.aload dL_tells_254 rfl ?_
    refine AW.iconst dL_tells_256 (by decide) ?_
    refine AW.aldIE dL_tells_257 T.a9 (by omega) (by omega) (by exact x0) ?_
    refine' AW.if_geJ 290 (tgt := 286) dL_tells_258 rfl _ _ _
    rotate_left 2
    · intro c_258 k_258
      refine AW.aload dL_tells_286 rfl ?_
      refine AW.iconst dL_tells_288 (by decide) ?_
      refine AW.aldIE dL_tells_289 T.a9 (by omega) (by omega) (by exact x0) ?_
      exact k_258
    · intro c_258 k_258
      refine AW.iload dL_tells_261 rfl ?_
      refine' AW.if_ltJ 290 (tgt := 286) dL_tells_263 rfl _ _ _
      rotate_left 2
      · intro c_263 k_263
        refine AW.aload dL_tells_286 rfl ?_
        refine AW.iconst dL_tells_288 (by decide) ?_
        refine AW.aldIE dL_tells_289 T.a9 (by omega) (by omega) (by exact x0) ?_
        exact k_263
      · intro c_263 k_263
        have z261 : 0 ≤ one := by omega
        refine AW.aload_n dL_tells_266 rfl ?_
        refine AW.iload dL_tells_267 rfl ?_
        refine AW.iload dL_tells_269 rfl ?_
        refine AW.top (y := ((one.toNat : Nat) : Int)) (e0 z261).symm ?_
        refine AW.callS (as := [vq _, vi _, vi _]) dL_tells_271 rfl rfl rfl okL_isNeeded lkL_103 rfl rfl rfl (leb (by omega)) (leb (by omega)) rfl (kL_isNd T S K (by omega) (by omega) (AW.k1 ?_))
        refine' AW.if_eqJ 290 (tgt := 286) dL_tells_274 rfl _ _ _
        rotate_left 2
        · intro c_274 k_274
          refine AW.aload dL_tells_286 rfl ?_
          refine AW.iconst dL_tells_288 (by decide) ?_
          refine AW.aldIE dL_tells_289 T.a9 (by omega) (by omega) (by exact x0) ?_
          exact k_274
        · intro c_274 k_274
          refine AW.aload_n dL_tells_277 rfl ?_
          refine AW.iload dL_tells_278 rfl ?_
          refine AW.aldIE dL_tells_280 T.a3 (by omega) (by omega) (by exact F0 z261) ?_
          refine AW.iconst dL_tells_281 (by decide) ?_
          refine AW.idiv dL_tells_282 (by omega) ?_
          rw [D0 z261]
          refine AW.goto (tgt := 290) dL_tells_283 rfl ?_
          exact k_274
        exact k_263
      exact k_258
    exact k_251
  refine AW.top (y := if w = 1 then r0 else nnd Z (a) one r0) (by unfold nnd bz; (repeat' split) <;> first | rfl | omega | (exfalso; simp_all; done) | (simp_all; done)) ?_
  refine AW.astI dL_tells_290 T.a9 (by omega) (by omega) ?_
  refine AW.gen (P := fun g => FL (fun j => j = 9) h g ∧ hI g (la 9) 0 = (if w = 1 then r0 else nnd Z (a) one r0) ∧ hI g (la 9) 1 = r1) ⟨FL.rf.wI rfl, hI_e rfl rfl, hI_m (by decide) x1⟩ (fun g ⟨G1, G2, G3⟩ => ?_)
  have T := G1.T T
  have S := S.fl G1 (by decide) (by decide) (by decide) (by decide)
  have F1 := fun z => (G1.I (j := 3) (by decide) two.toNat).trans (F1 z)
  refine AW.aload dL_tells_291 rfl ?_
  refine AW.iconst dL_tells_293 (by decide) ?_
  refine AW.aload dL_tells_294 rfl ?_
  refine AW.iconst dL_tells_296 (by decide) ?_
  refine AW.aldIE dL_tells_297 T.a9 (by omega) (by omega) (by exact G3) ?_
  refine' AW.if_geJ 330 (tgt := 326) dL_tells_298 rfl _ _ _
  rotate_left 2
  · intro c_298 k_298
    refine AW.aload dL_tells_326 rfl ?_
    refine AW.iconst dL_tells_328 (by decide) ?_
    refine AW.aldIE dL_tells_329 T.a9 (by omega) (by omega) (by exact G3) ?_
    exact k_298
  · intro c_298 k_298
    refine AW.iload dL_tells_301 rfl ?_
    refine' AW.if_ltJ 330 (tgt := 326) dL_tells_303 rfl _ _ _
    rotate_left 2
    · intro c_303 k_303
      refine AW.aload dL_tells_326 rfl ?_
      refine AW.iconst dL_tells_328 (by decide) ?_
      refine AW.aldIE dL_tells_329 T.a9 (by omega) (by omega) (by exact G3) ?_
      exact k_303
    · intro c_303 k_303
      have z301 : 0 ≤ two := by omega
      refine AW.aload_n dL_tells_306 rfl ?_
      refine AW.iload dL_tells_307 rfl ?_
      refine AW.iload dL_tells_309 rfl ?_
      refine AW.top (y := ((two.toNat : Nat) : Int)) (e1 z301).symm ?_
      refine AW.callS (as := [vq _, vi _, vi _]) dL_tells_311 rfl rfl rfl okL_isNeeded lkL_103 rfl rfl rfl (leb (by omega)) (leb (by omega)) rfl (kL_isNd T S K (by omega) (by omega) (AW.k1 ?_))
      refine' AW.if_eqJ 330 (tgt := 326) dL_tells_314 rfl _ _ _
      rotate_left 2
      · intro c_314 k_314
        refine AW.aload dL_tells_326 rfl ?_
        refine AW.iconst dL_tells_328 (by decide) ?_
        refine AW.aldIE dL_tells_329 T.a9 (by omega) (by omega) (by exact G3) ?_
        exact k_314
      · intro c_314 k_314
        refine AW.aload_n dL_tells_317 rfl ?_
        refine AW.iload dL_tells_318 rfl ?_
        refine AW.aldIE dL_tells_320 T.a3 (by omega) (by omega) (by exact F1 z301) ?_
        refine AW.iconst dL_tells_321 (by decide) ?_
        refine AW.idiv dL_tells_322 (by omega) ?_
        rw [D1 z301]
        refine AW.goto (tgt := 330) dL_tells_323 rfl ?_
        exact k_314
      exact k_303
    exact k_298
  refine AW.top (y := nnd Z (a) two r1) (by unfold nnd bz; (repeat' split) <;> first | rfl | omega | (exfalso; simp_all; done) | (simp_all; done)) ?_
  refine AW.astI dL_tells_330 T.a9 (by omega) (by omega) ?_
  refine AW.aload dL_tells_331 rfl ?_
  refine AW.iconst dL_tells_333 (by decide) ?_
  refine AW.iload dL_tells_334 rfl ?_
  refine AW.iconst dL_tells_336 (by decide) ?_
  refine' AW.icmp_neJ 348 (tgt := 344) dL_tells_337 rfl _ _ _
  rotate_left 2
  · intro c_337 k_337
    refine AW.aload dL_tells_344 rfl ?_
    refine AW.iconst dL_tells_346 (by decide) ?_
    refine AW.aldIE dL_tells_347 T.a9 (by omega) (by omega) (by exact hI_m (by decide) G2) ?_
    exact k_337
  · intro c_337 k_337
    refine AW.iconst dL_tells_340 (by decide) ?_
    refine AW.goto (tgt := 348) dL_tells_341 rfl ?_
    exact k_337
  refine AW.top (y := if w = 1 then -1 else nnd Z (a) one r0) (by (repeat' split) <;> first | rfl | omega) ?_
  refine AW.astI dL_tells_348 T.a9 (by omega) (by omega) ?_
  refine AW.vret dL_tells_349 rfl ?_
  exact k _ ((G1.wI rfl).wI rfl) (hI_e rfl rfl) (hI_m (by decide) (hI_e rfl rfl))
theorem zjoi_b {a b f : Int} (ha : -1 ≤ a ∧ a ≤ 9999) (hb : -1 ≤ b ∧ b ≤ 9999) (hf : 0 ≤ f ∧ f ≤ 100) : -1 ≤ zjoi a b f ∧ zjoi a b f ≤ 9999 := by
  unfold zjoi
  by_cases c : a = -1 ∨ b = -1
  · rw [if_pos c]; omega
  · rw [if_neg c]
    have m0 : 0 ≤ f * a := Int.mul_nonneg hf.1 (by omega)
    have m1 : f * a ≤ 100 * 9999 := Int.mul_le_mul hf.2 ha.2 (by omega) (by omega)
    have e1 : wr (f * a) = f * a := wr_id ⟨by omega, by omega⟩
    rw [e1, wr_id ⟨by omega, by omega⟩]
    split <;> omega
theorem ztur_b {v f t : Int} (hv : -1 ≤ v ∧ v ≤ 9999) : -1 ≤ ztur v f t ∧ ztur v f t ≤ 99990 := by
  unfold ztur bz
  have e : wr (10 * v) = 10 * v := wr_id ⟨by omega, by omega⟩
  rw [e]
  (repeat' split) <;> first | omega | (rw [tdv (by omega)]; omega)
theorem nr0_b (K : QS Z) {a : Nat} {u x y : Int} (h1 : 1 ≤ a) (ha : (a : Int) ≤ Z 1 0) (hx : -1 ≤ x ∧ x ≤ 9999) (hy : -1 ≤ y ∧ y ≤ 9999) : -1 ≤ nr0 Z a u x y := by
  obtain ⟨⟨q1, q2, q3, q4⟩, s, -⟩ := K.p h1 ha
  unfold StK at s
  have x10 := (K.x h1 ha).1
  unfold nr0
  split
  · split
    · exact (ztur_b hx).1
    · split
      · exact (zjoi_b hx hy (by omega)).1
      · split
        · split
          · omega
          · rw [tdv (by omega)]; have := Int.ediv_nonneg (show 0 ≤ x by omega) (show 0 ≤ Z 10 a by omega); omega
        · split <;> omega
  · split
    · have := (K.kd (f := (Z 9 (2 * a)).toNat) (by omega)).1; omega
    · split
      · exact (ztur_b hx).1
      · split
        · split
          · omega
          · rw [tdv (by omega)]; have := Int.ediv_nonneg (show 0 ≤ x by omega) (show 0 ≤ Z 10 a by omega); omega
        · split
          · exact (zjoi_b hx hy (by omega)).1
          · split <;> omega
theorem nr1_b (K : QS Z) {a : Nat} {u x : Int} (h1 : 1 ≤ a) (ha : (a : Int) ≤ Z 1 0) (hu : u = 0 ∨ u = 1) (hx : -1 ≤ x ∧ x ≤ 9999) : -1 ≤ nr1 Z a u x := by
  have x10 := (K.x h1 ha).1
  unfold nr1
  by_cases c : (Z 7 a = if u = 0 then 4 else 3) ∧ ¬ x = -1
  · rw [if_pos c]
    have c1 : Z 7 a = 3 ∨ Z 7 a = 4 := by
      have := c.1
      split at this
      · exact Or.inr this
      · exact Or.inl this
    have := tmr (x := x) (n := Z 10 a) (by omega) (by have := x10 c1; omega)
    omega
  · rw [if_neg c]; omega
theorem zsd_00 {a : Nat} : zsd Z a 0 0 = Z 9 (2 * a) := by unfold zsd; rw [if_pos rfl]; rfl
theorem zsd_01 {a : Nat} : zsd Z a 0 1 = Z 9 (2 * a + 1) := by unfold zsd; rw [if_pos rfl]; rfl
theorem zsd_10 {a : Nat} : zsd Z a 1 0 = Z 8 (2 * a) := by unfold zsd; rw [if_neg (by decide)]; rfl
theorem zsd_11 {a : Nat} : zsd Z a 1 1 = Z 8 (2 * a + 1) := by unfold zsd; rw [if_neg (by decide)]; rfl
theorem kL_byZ {a : Nat} (T : LT h) (S : LSc h Z) (K : QS Z) (h1 : 1 ≤ a) (ha : (a : Int) ≤ Z 1 0) (hw : Z 7 a = 3 ∨ Z 7 a = 4) (k : Q h (.inl (some (vi (Z 10 a))))) : AC mL_by fL_by loL_by 0 0 h [vr (la 2), vi (a : Int)] Q := by
  have b1 := K.b1
  refine kL_by T (by omega) (S.w h1 ha) ?_
  rw [zwd_by K h1 ha]
  unfold zby
  rw [if_pos hw]
  exact k
theorem kL_kindZ {f : Int} (T : LT h) (S : LSc h Z) (K : QS Z) (hf : -1 ≤ f ∧ f < Z 2 0) (k : Q h (.inl (some (vi (zkof Z 0 f))))) : AC mL_kind fL_kind loL_kind 0 0 h [vr (la 3), vi f] Q := by
  have b2 := K.b2
  refine kL_kind T (by omega) (fun z => S.f (f := f.toNat) (by omega)) ?_
  have e : (if 0 ≤ f then (Z 3 f.toNat + 3 * Z 4 f.toNat).tmod 3 else 0) = zkof Z 0 f := by
    rw [zkof_n]
    by_cases c : 0 ≤ f
    · rw [if_pos c, if_neg (by omega), (f_div K (by omega)).2]
    · rw [if_neg c, if_pos (by omega)]
  rw [e]
  exact k
end A4
