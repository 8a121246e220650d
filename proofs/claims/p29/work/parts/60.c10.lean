/-! ===== the class: a row carried over a step ===== -/
section C10
variable {Q : AH → AO → Prop} {h : AH} {s : Nat} {mc ms bc bs p a b : Nat} {N N2 : Nm} {u v : Int}
theorem scn_y {k : Nat} (h1 : Nat.ble 7 k = true) (h2 : Nat.ble k 10 = true) : scn s (4, s, k) := ⟨rfl, rfl, Nat.le_of_ble_eq_true h1, Nat.le_of_ble_eq_true h2⟩
theorem cpt_T {f x : Int} : hT (cpt h a b f x) = hT h := by unfold cpt; split <;> rfl
theorem cpt_R {f x : Int} : hR (cpt h a b f x) = hR h := by unfold cpt; split <;> rfl
theorem cpt_L {f x : Int} : hL (cpt h a b f x) = hL h := by unfold cpt; split <;> rfl
theorem cpt_n1 {f x y : Int} {n : Nm} {i : Nat} (hn : Nat.beq n.1 a = false) (k : hI h n i = y) : hI (cpt h a b f x) n i = y := by
  unfold cpt; split
  · exact hI_n1 hn k
  · exact k
theorem SchW_c {h' : AH} (e1 : hT h' = hT h) (e2 : hR h' = hR h) (W : SchW h s) : SchW h' s := by unfold SchW; rw [e1, e2]; exact W
theorem StaW_c {h' : AH} {a b : Nat} (e1 : hT h' = hT h) (e2 : hR h' = hR h) (W : StaW h a b) : StaW h' a b := by unfold StaW; rw [e1, e2]; exact W
theorem X4_carry_p0 {r t : Int} (W : SchW h s) (S : StaW h a b) (tN : hT h N = some (20, 2)) (er : hI h (4, s, 8) 0 = r) (et : hI h N 0 = t) (k : AW mX4_carry fX4_carry loX4_carry mc ms Q bc bs 290 (cpt h a b t r) [(7, vi 1), (6, vr N), (5, vr N2), (4, vr (5, p, 0)), (3, vi v), (0, vr (4, s, 0)), (1, vr (a, b, 0)), (2, vi u)] []) :
    AW mX4_carry fX4_carry loX4_carry mc ms Q bc bs 290 h [(7, vi 0), (6, vr N), (5, vr N2), (4, vr (5, p, 0)), (3, vi v), (0, vr (4, s, 0)), (1, vr (a, b, 0)), (2, vi u)] [] := by
  refine AW.iload dX4_carry_290 rfl ?_
  refine AW.iconst dX4_carry_292 (by decide) ?_
  refine AW.icmp_ge (tgt := 318) dX4_carry_293 rfl (fun c_293 => ?_) (fun c_293 => ?_)
  · exact absurd c_293 (by decide)
  · refine AW.aload_n dX4_carry_296 rfl ?_
    refine AW.aload dX4_carry_297 rfl ?_
    refine AW.iload dX4_carry_299 rfl ?_
    refine AW.aldIE dX4_carry_301 tN (by decide) (by decide) (by exact et) ?_
    refine AW.aload_n dX4_carry_302 rfl ?_
    refine AW.getRE (j := 10) W.o dX4_carry_303 lkX4_39 rfl rfl inC5 rfl W.r10 ?_
    refine AW.iload dX4_carry_306 rfl ?_
    refine AW.aldIE dX4_carry_308 W.t10 (by decide) (by decide) (by exact er) ?_
    refine AW.callV (as := [vi _, vi _]) dX4_carry_309 rfl rfl rfl okX5_put lkX4_164 S.o rfl rfl rfl rfl rfl rfl rfl (kX5_put S (AW.k0 ?_))
    refine AW.iincB dX4_carry_312 rfl rfl (by omega) ?_
    refine AW.goto (tgt := 290) dX4_carry_315 rfl ?_
    exact AW.locs [(7, vi 1), (6, vr N), (5, vr N2), (4, vr (5, p, 0)), (3, vi v), (0, vr (4, s, 0)), (1, vr (a, b, 0)), (2, vi u)] ⟨rfl, rfl, rfl, rfl, rfl, rfl, rfl, rfl, trivial⟩ k
theorem X4_carry_p1 {r t : Int} (W : SchW h s) (S : StaW h a b) (tN : hT h N = some (20, 2)) (er : hI h (4, s, 8) 1 = r) (et : hI h N 1 = t) (k : AW mX4_carry fX4_carry loX4_carry mc ms Q bc bs 290 (cpt h a b t r) [(7, vi 2), (6, vr N), (5, vr N2), (4, vr (5, p, 0)), (3, vi v), (0, vr (4, s, 0)), (1, vr (a, b, 0)), (2, vi u)] []) :
    AW mX4_carry fX4_carry loX4_carry mc ms Q bc bs 290 h [(7, vi 1), (6, vr N), (5, vr N2), (4, vr (5, p, 0)), (3, vi v), (0, vr (4, s, 0)), (1, vr (a, b, 0)), (2, vi u)] [] := by
  refine AW.iload dX4_carry_290 rfl ?_
  refine AW.iconst dX4_carry_292 (by decide) ?_
  refine AW.icmp_ge (tgt := 318) dX4_carry_293 rfl (fun c_293 => ?_) (fun c_293 => ?_)
  · exact absurd c_293 (by decide)
  · refine AW.aload_n dX4_carry_296 rfl ?_
    refine AW.aload dX4_carry_297 rfl ?_
    refine AW.iload dX4_carry_299 rfl ?_
    refine AW.aldIE dX4_carry_301 tN (by decide) (by decide) (by exact et) ?_
    refine AW.aload_n dX4_carry_302 rfl ?_
    refine AW.getRE (j := 10) W.o dX4_carry_303 lkX4_39 rfl rfl inC5 rfl W.r10 ?_
    refine AW.iload dX4_carry_306 rfl ?_
    refine AW.aldIE dX4_carry_308 W.t10 (by decide) (by decide) (by exact er) ?_
    refine AW.callV (as := [vi _, vi _]) dX4_carry_309 rfl rfl rfl okX5_put lkX4_164 S.o rfl rfl rfl rfl rfl rfl rfl (kX5_put S (AW.k0 ?_))
    refine AW.iincB dX4_carry_312 rfl rfl (by omega) ?_
    refine AW.goto (tgt := 290) dX4_carry_315 rfl ?_
    exact AW.locs [(7, vi 2), (6, vr N), (5, vr N2), (4, vr (5, p, 0)), (3, vi v), (0, vr (4, s, 0)), (1, vr (a, b, 0)), (2, vi u)] ⟨rfl, rfl, rfl, rfl, rfl, rfl, rfl, rfl, trivial⟩ k
theorem X4_carry_e {r0 r1 t0 t1 : Int} (W : SchW h s) (S : StaW h a b) (tN : hT h N = some (20, 2)) (hN : Nat.beq N.1 a = false) (h4 : Nat.beq 4 a = false) (er0 : hI h (4, s, 8) 0 = r0) (er1 : hI h (4, s, 8) 1 = r1) (et0 : hI h N 0 = t0) (et1 : hI h N 1 = t1) (k : Q (cpt (cpt h a b t0 r0) a b t1 r1) (.inl none)) :
    AW mX4_carry fX4_carry loX4_carry mc ms Q bc bs 287 h [(6, vr N), (5, vr N2), (4, vr (5, p, 0)), (3, vi v), (0, vr (4, s, 0)), (1, vr (a, b, 0)), (2, vi u)] [] := by
  have e3 : AW mX4_carry fX4_carry loX4_carry mc ms Q bc bs 290 (cpt (cpt h a b t0 r0) a b t1 r1) [(7, vi 2), (6, vr N), (5, vr N2), (4, vr (5, p, 0)), (3, vi v), (0, vr (4, s, 0)), (1, vr (a, b, 0)), (2, vi u)] [] := by
    refine AW.iload dX4_carry_290 rfl ?_
    refine AW.iconst dX4_carry_292 (by decide) ?_
    refine AW.icmp_ge (tgt := 318) dX4_carry_293 rfl (fun c_293 => ?_) (fun c_293 => ?_)
    · refine AW.vret dX4_carry_318 rfl ?_
      exact k
    · exact absurd c_293 (by decide)
  refine AW.iconst dX4_carry_287 (by decide) ?_
  refine AW.istore dX4_carry_288 rfl ?_
  refine AW.locs [(7, vi 0), (6, vr N), (5, vr N2), (4, vr (5, p, 0)), (3, vi v), (0, vr (4, s, 0)), (1, vr (a, b, 0)), (2, vi u)] ⟨rfl, rfl, rfl, rfl, rfl, rfl, rfl, rfl, trivial⟩ (X4_carry_p0 W S tN er0 et0 (X4_carry_p1 (SchW_c cpt_T cpt_R W) (StaW_c cpt_T cpt_R S) (by rw [cpt_T]; exact tN) (cpt_n1 h4 er1) (cpt_n1 hN et1) e3))
theorem X4_carry_d {r0 r1 l0 l1 t0 t1 : Int} (W : SchW h s) (B : SB h s) (P : StpW h p) (S : StaW h a b) (hv : 0 ≤ v ∧ v ≤ hI h (4, s, 0) 0) (hp : hR h (4, s, 5) v.toNat = some (5, p, 0)) (hu : u = 0 ∨ u = 1) (tN : hT h N = some (20, 2)) (hN : Nat.beq N.1 a = false) (hN4 : Nat.beq N.1 4 = false) (h4 : Nat.beq 4 a = false) (er0 : hI h (4, s, 8) 0 = r0) (er1 : hI h (4, s, 8) 1 = r1) (el0 : hI h (4, s, 7) 0 = l0) (el1 : hI h (4, s, 7) 1 = l1) (et0 : hI h N 0 = t0) (et1 : hI h N 1 = t1)
    (k : ∀ g, Scr s h g → Q (cpt (cpt (if ctl0 h s p v (nu u) r0 r1 = l0 ∧ ctl1 h s p v (nu u) r0 = l1 then g else caw g a b (2 * v + nu u) l0 l1) a b t0 r0) a b t1 r1) (.inl none)) :
    AW mX4_carry fX4_carry loX4_carry mc ms Q bc bs 233 h [(6, vr N), (5, vr N2), (4, vr (5, p, 0)), (3, vi v), (0, vr (4, s, 0)), (1, vr (a, b, 0)), (2, vi u)] [] := by
  have B0 := B.1
  have hnu : nu u = 0 ∨ nu u = 1 := by unfold nu; split <;> simp
  have sc : Scr s h (w2 h (4, s, 10) (ctl0 h s p v (nu u) r0 r1) (ctl1 h s p v (nu u) r0)) := (Scr.rfl'.w (scn_y rfl rfl)).w (scn_y rfl rfl)
  have k := k _ sc
  refine AW.aload_n dX4_carry_233 rfl ?_
  refine AW.iload_n dX4_carry_234 rfl ?_
  refine AW.iload_n dX4_carry_235 rfl ?_
  refine' AW.if_neJ 244 (tgt := 243) dX4_carry_236 rfl _ _ _
  rotate_left 2
  · intro c_236 k_236
    refine AW.iconst dX4_carry_243 (by decide) ?_
    exact k_236
  · intro c_236 k_236
    refine AW.iconst dX4_carry_239 (by decide) ?_
    refine AW.goto (tgt := 244) dX4_carry_240 rfl ?_
    exact k_236
  refine AW.top (y := nu u) (by unfold nu; (repeat' split) <;> first | rfl | omega) ?_
  refine AW.aload_n dX4_carry_244 rfl ?_
  refine AW.getRE (j := 10) W.o dX4_carry_245 lkX4_39 rfl rfl inC5 rfl W.r10 ?_
  refine AW.aload_n dX4_carry_248 rfl ?_
  refine AW.getRE (j := 12) W.o dX4_carry_249 lkX4_45 rfl rfl inC5 rfl W.r12 ?_
  refine AW.callV (as := [vi _, vi _, vq _, vq _]) dX4_carry_252 rfl rfl rfl okX4_tell lkX4_145 W.o rfl rfl rfl rfl rfl rfl rfl (kX4_tell W B P hv hp (i := 8) (j := 10) (by omega) (by omega) (by omega) hnu W.t10 W.t12 er0 er1 (AW.k0 ?_))
  refine AW.aload_n dX4_carry_255 rfl ?_
  refine AW.getRE (j := 12) W.o dX4_carry_256 lkX4_45 rfl rfl inC5 rfl W.r12 ?_
  refine AW.aload_n dX4_carry_259 rfl ?_
  refine AW.getRE (j := 9) W.o dX4_carry_260 lkX4_36 rfl rfl inC5 rfl W.r9 ?_
  refine AW.callS (as := [vq _, vq _]) dX4_carry_263 rfl rfl rfl okX4_isSame lkX4_153 rfl rfl rfl rfl rfl rfl (kX4_isSame W.t12 W.t9 (hI_m (by omega) (hI_e rfl rfl)) (hI_e rfl rfl) (hI_n3 rfl (hI_n3 rfl el0)) (hI_n3 rfl (hI_n3 rfl el1)) (AW.k1 ?_))
  refine AW.if_ne (tgt := 287) dX4_carry_266 rfl (fun c_266 => ?_) (fun c_266 => ?_)
  · rw [if_pos (bz_n0.mp c_266)] at k
    exact X4_carry_e W S tN hN h4 (hI_n3 rfl (hI_n3 rfl er0)) (hI_n3 rfl (hI_n3 rfl er1)) (hI_n1 hN4 (hI_n1 hN4 et0)) (hI_n1 hN4 (hI_n1 hN4 et1)) k
  · refine AW.aload_n dX4_carry_269 rfl ?_
    refine AW.iload_n dX4_carry_270 rfl ?_
    refine AW.iload_n dX4_carry_271 rfl ?_
    refine' AW.if_eqJ 280 (tgt := 279) dX4_carry_272 rfl _ _ _
    rotate_left 2
    · intro c_272 k_272
      refine AW.iconst dX4_carry_279 (by decide) ?_
      exact k_272
    · intro c_272 k_272
      refine AW.iconst dX4_carry_275 (by decide) ?_
      refine AW.goto (tgt := 280) dX4_carry_276 rfl ?_
      exact k_272
    refine AW.top (y := nu u) (by unfold nu; (repeat' split) <;> first | rfl | omega) ?_
    refine AW.aload_n dX4_carry_280 rfl ?_
    refine AW.getRE (j := 9) W.o dX4_carry_281 lkX4_36 rfl rfl inC5 rfl W.r9 ?_
    refine AW.callV (as := [vi _, vi _, vq _]) dX4_carry_284 rfl rfl rfl okX5_putAway lkX4_160 S.o rfl rfl rfl rfl rfl rfl rfl (kX5_putAway S W.t9 h4 (by omega) hnu (hI_n3 rfl (hI_n3 rfl el0)) (hI_n3 rfl (hI_n3 rfl el1)) (AW.k0 ?_))
    rw [if_neg (bz_0.mp c_266)] at k
    exact X4_carry_e W S tN hN h4 (hI_n1 h4 (hI_n1 h4 (hI_n1 h4 (hI_n3 rfl (hI_n3 rfl er0))))) (hI_n1 h4 (hI_n1 h4 (hI_n1 h4 (hI_n3 rfl (hI_n3 rfl er1))))) (hI_n1 hN (hI_n1 hN (hI_n1 hN (hI_n1 hN4 (hI_n1 hN4 et0))))) (hI_n1 hN (hI_n1 hN (hI_n1 hN (hI_n1 hN4 (hI_n1 hN4 et1))))) k
end C10
