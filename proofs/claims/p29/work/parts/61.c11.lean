/-! ===== the class: the box is looked into ===== -/
section C11
variable {Q : AH → AO → Prop} {h : AH} {s : Nat} {mc ms bc bs p a b : Nat} {N N2 : Nm} {u v : Int}
def cfin (Q : AH → AO → Prop) (s p a b : Nat) (u v l0 l1 t0 t1 : Int) (H : AH) (r0 r1 : Int) : Prop :=
  ∀ g, Scr s H g → Q (cpt (cpt (if ctl0 H s p v (nu u) r0 r1 = l0 ∧ ctl1 H s p v (nu u) r0 = l1 then g else caw g a b (2 * v + nu u) l0 l1) a b t0 r0) a b t1 r1) (.inl none)
theorem SB_n1 {n : Nm} {i : Nat} {x : Int} (hn : Nat.beq 4 n.1 = false) (B : SB h s) : SB (sI h n i x) s := by
  unfold SB
  rw [hI_n1 (n := (4, s, 0)) (i := 0) hn rfl, hI_n1 (n := (4, s, 0)) (i := 1) hn rfl, hI_n1 (n := (4, s, 0)) (i := 2) hn rfl]
  exact B
theorem PB_n1 {n : Nm} {i : Nat} {x : Int} (h6 : Nat.beq 6 n.1 = false) (h7 : Nat.beq 7 n.1 = false) (B : PB h p) : PB (sI h n i x) p := by
  unfold PB
  rw [hI_n1 (n := (6, p, 0)) (i := 0) h6 rfl, hI_n1 (n := (6, p, 0)) (i := 1) h6 rfl, hI_n1 (n := (7, p, 0)) (i := 0) h7 rfl, hI_n1 (n := (7, p, 0)) (i := 1) h7 rfl]
  exact B
theorem X4_carry_d' {H : AH} {r0 r1 l0 l1 t0 t1 : Int} (sc : Scr s H h) (W : SchW H s) (B : SB H s) (P : StpW H p) (S : StaW H a b) (hv : 0 ≤ v ∧ v ≤ hI H (4, s, 0) 0) (hp : hR H (4, s, 5) v.toNat = some (5, p, 0)) (hu : u = 0 ∨ u = 1) (tN : hT H N = some (20, 2)) (hN : Nat.beq N.1 a = false) (hN4 : Nat.beq N.1 4 = false) (h4 : Nat.beq 4 a = false) (er0 : hI h (4, s, 8) 0 = r0) (er1 : hI h (4, s, 8) 1 = r1) (el0 : hI h (4, s, 7) 0 = l0) (el1 : hI h (4, s, 7) 1 = l1) (et0 : hI H N 0 = t0) (et1 : hI H N 1 = t1)
    (k : cfin Q s p a b u v l0 l1 t0 t1 H r0 r1) :
    AW mX4_carry fX4_carry loX4_carry mc ms Q bc bs 233 h [(6, vr N), (5, vr N2), (4, vr (5, p, 0)), (3, vi v), (0, vr (4, s, 0)), (1, vr (a, b, 0)), (2, vi u)] [] := by
  refine X4_carry_d (sc.W W) (sc.hSB B) (sc.P P) (sc.St S) (by rw [sc.2.2.2 (4, s, 0) 0 (scn_0 rfl)]; exact hv) (by rw [sc.2.2.1]; exact hp) hu (by rw [sc.1]; exact tN) hN hN4 h4 er0 er1 el0 el1 (sc.I (scn_1 hN4) et0) (sc.I (scn_1 hN4) et1) ?_
  intro g sg
  rw [sc.hctl0, sc.hctl1]
  exact k g (sc.trans sg)
set_option maxHeartbeats 1000000 in
theorem X4_carry_c {r0 r1 l0 l1 t0 t1 : Int} (W : SchW h s) (B : SB h s) (P : StpW h p) (S : StaW h a b) (hv : 0 ≤ v ∧ v ≤ hI h (4, s, 0) 0) (hp : hR h (4, s, 5) v.toNat = some (5, p, 0)) (hu : u = 0 ∨ u = 1) (tN : hT h N = some (20, 2)) (hN : Nat.beq N.1 a = false) (hN4 : Nat.beq N.1 4 = false) (h4 : Nat.beq 4 a = false) (ha4 : Nat.beq a 4 = false) (er0 : hI h (4, s, 8) 0 = r0) (er1 : hI h (4, s, 8) 1 = r1) (el0 : hI h (4, s, 7) 0 = l0) (el1 : hI h (4, s, 7) 1 = l1) (et0 : hI h N 0 = t0) (et1 : hI h N 1 = t1)
    (kA : hI h (a, b, 2) (2 * v + u).toNat = 0 → cfin Q s p a b u v l0 l1 t0 t1 h r0 r1)
    (kB : ¬ hI h (a, b, 2) (2 * v + u).toNat = 0 → (ctl0 (sI h (a, b, 2) (2 * v + u).toNat 0) s p v (nu u) (hI h (a, b, 3) (2 * (2 * v + u)).toNat) (hI h (a, b, 3) (2 * (2 * v + u) + 1).toNat) = l0 ∧ ctl1 (sI h (a, b, 2) (2 * v + u).toNat 0) s p v (nu u) (hI h (a, b, 3) (2 * (2 * v + u)).toNat) = l1) → cfin Q s p a b u v l0 l1 t0 t1 (sI h (a, b, 2) (2 * v + u).toNat 0) (hI h (a, b, 3) (2 * (2 * v + u)).toNat) (hI h (a, b, 3) (2 * (2 * v + u) + 1).toNat))
    (kC : ¬ hI h (a, b, 2) (2 * v + u).toNat = 0 → ¬ (ctl0 (sI h (a, b, 2) (2 * v + u).toNat 0) s p v (nu u) (hI h (a, b, 3) (2 * (2 * v + u)).toNat) (hI h (a, b, 3) (2 * (2 * v + u) + 1).toNat) = l0 ∧ ctl1 (sI h (a, b, 2) (2 * v + u).toNat 0) s p v (nu u) (hI h (a, b, 3) (2 * (2 * v + u)).toNat) = l1) → cfin Q s p a b u v l0 l1 t0 t1 (sI (sI h (a, b, 2) (2 * v + u).toNat 0) (a, b, 0) 1 (wr (hI h (a, b, 0) 1 + 1))) r0 r1) :
    AW mX4_carry fX4_carry loX4_carry mc ms Q bc bs 139 h [(6, vr N), (5, vr N2), (4, vr (5, p, 0)), (3, vi v), (0, vr (4, s, 0)), (1, vr (a, b, 0)), (2, vi u)] [] := by
  have B0 := B.1
  have hnu : nu u = 0 ∨ nu u = 1 := by unfold nu; split <;> simp
  have H1B : SB (sI h (a, b, 2) (2 * v + u).toNat 0) s := SB_n1 h4 B
  have s1 : Scr s (sI h (a, b, 2) (2 * v + u).toNat 0) (cou h a b (4, s, 9) (2 * v + u)) := (Scr.rfl'.w (scn_y rfl rfl)).w (scn_y rfl rfl)
  have b1 : ¬ hI h (a, b, 2) (2 * v + u).toNat = 0 → AW mX4_carry fX4_carry loX4_carry mc ms Q bc bs 157 (cou h a b (4, s, 9) (2 * v + u)) [(6, vr N), (5, vr N2), (4, vr (5, p, 0)), (3, vi v), (0, vr (4, s, 0)), (1, vr (a, b, 0)), (2, vi u)] [vi 1] := by
    intro nz
    have kB := kB nz
    have kC := kC nz
    have e0 : hI (cou h a b (4, s, 9) (2 * v + u)) (4, s, 9) 0 = hI h (a, b, 3) (2 * (2 * v + u)).toNat := hI_m (by omega) (hI_e rfl rfl)
    have e1 : hI (cou h a b (4, s, 9) (2 * v + u)) (4, s, 9) 1 = hI h (a, b, 3) (2 * (2 * v + u) + 1).toNat := hI_e rfl rfl
    have f0 : hI (cou h a b (4, s, 9) (2 * v + u)) (4, s, 0) 0 = hI h (4, s, 0) 0 := hI_n3 rfl (hI_n3 rfl (hI_n1 h4 rfl))
    have m7 : ∀ i, hI (cou h a b (4, s, 9) (2 * v + u)) (4, s, 7) i = hI h (4, s, 7) i := fun i => hI_n3 rfl (hI_n3 rfl (hI_n1 h4 rfl))
    have m8 : ∀ i, hI (cou h a b (4, s, 9) (2 * v + u)) (4, s, 8) i = hI h (4, s, 8) i := fun i => hI_n3 rfl (hI_n3 rfl (hI_n1 h4 rfl))
    have ml : hI (cou h a b (4, s, 9) (2 * v + u)) (a, b, 0) 1 = hI h (a, b, 0) 1 := hI_n1 ha4 (hI_n1 ha4 (hI_n3 rfl rfl))
    have Bc := s1.hSB H1B
    have sT : ∀ x y, Scr s (sI h (a, b, 2) (2 * v + u).toNat 0) (w2 (cou h a b (4, s, 9) (2 * v + u)) (4, s, 10) x y) := fun x y => (s1.w (scn_y rfl rfl)).w (scn_y rfl rfl)
    have H1S : StaW (sI h (a, b, 2) (2 * v + u).toNat 0) a b := S
    rw [← s1.hctl0, ← s1.hctl1] at kB kC
    refine AW.if_eq (tgt := 233) dX4_carry_157 rfl (fun c_157 => ?_) (fun c_157 => ?_)
    · exact absurd c_157 (by decide)
    · refine AW.aload_n dX4_carry_160 rfl ?_
      refine AW.iload_n dX4_carry_161 rfl ?_
      refine AW.iload_n dX4_carry_162 rfl ?_
      refine' AW.if_neJ 171 (tgt := 170) dX4_carry_163 rfl _ _ _
      rotate_left 2
      · intro c_163 k_163
        refine AW.iconst dX4_carry_170 (by decide) ?_
        exact k_163
      · intro c_163 k_163
        refine AW.iconst dX4_carry_166 (by decide) ?_
        refine AW.goto (tgt := 171) dX4_carry_167 rfl ?_
        exact k_163
      refine AW.top (y := nu u) (by unfold nu; (repeat' split) <;> first | rfl | omega) ?_
      refine AW.aload_n dX4_carry_171 rfl ?_
      refine AW.getRE (j := 11) W.o dX4_carry_172 lkX4_42 rfl rfl inC5 rfl W.r11 ?_
      refine AW.aload_n dX4_carry_175 rfl ?_
      refine AW.getRE (j := 12) W.o dX4_carry_176 lkX4_45 rfl rfl inC5 rfl W.r12 ?_
      refine AW.callV (as := [vi _, vi _, vq _, vq _]) dX4_carry_179 rfl rfl rfl okX4_tell lkX4_145 W.o rfl rfl rfl rfl rfl rfl rfl (kX4_tell (h := cou h a b (4, s, 9) (2 * v + u)) W Bc P (by rw [f0]; exact hv) hp (i := 9) (j := 10) (by omega) (by omega) (by omega) hnu W.t11 W.t12 e0 e1 (AW.k0 ?_))
      refine AW.aload_n dX4_carry_182 rfl ?_
      refine AW.getRE (j := 12) W.o dX4_carry_183 lkX4_45 rfl rfl inC5 rfl W.r12 ?_
      refine AW.aload_n dX4_carry_186 rfl ?_
      refine AW.getRE (j := 9) W.o dX4_carry_187 lkX4_36 rfl rfl inC5 rfl W.r9 ?_
      refine AW.callS (as := [vq _, vq _]) dX4_carry_190 rfl rfl rfl okX4_isSame lkX4_153 rfl rfl rfl rfl rfl rfl (kX4_isSame W.t12 W.t9 (hI_m (by omega) (hI_e rfl rfl)) (hI_e rfl rfl) (hI_n3 rfl (hI_n3 rfl ((m7 0).trans el0))) (hI_n3 rfl (hI_n3 rfl ((m7 1).trans el1))) (AW.k1 ?_))
      refine AW.if_eq (tgt := 223) dX4_carry_193 rfl (fun c_193 => ?_) (fun c_193 => ?_)
      · refine AW.aload_n dX4_carry_223 rfl ?_
        refine AW.dup dX4_carry_224 rfl ?_
        refine AW.getIE (j := 1) S.o dX4_carry_225 lkX4_157 rfl rfl inC6 rfl (by exact hI_n1 ha4 (hI_n1 ha4 ml)) ?_
        refine AW.iconst dX4_carry_228 (by decide) ?_
        refine AW.iadd dX4_carry_229 ?_
        refine AW.putI (j := 1) dX4_carry_230 S.o rfl rfl inC6 lkX4_157 rfl (Or.inl rfl) (Or.inl rfl) ?_
        first | exact X4_carry_d' ((sT _ _).w (scn_y rfl rfl) |>.w (scn_y rfl rfl)) W H1B P H1S (by rw [hI_n1 (n := (4, s, 0)) h4 rfl]; exact hv) hp hu tN hN hN4 h4 (hI_m (by omega) (hI_e rfl rfl)) (hI_e rfl rfl) (hI_n3 rfl (hI_n3 rfl (hI_n3 rfl (hI_n3 rfl ((m7 0).trans el0))))) (hI_n3 rfl (hI_n3 rfl (hI_n3 rfl (hI_n3 rfl ((m7 1).trans el1))))) (hI_n1 hN et0) (hI_n1 hN et1) (kB (bz_n0.mp c_193)) | exact X4_carry_d' ((sT _ _).sw) W (SB_n1 h4 H1B) P H1S (by rw [hI_n1 (n := (4, s, 0)) h4 (hI_n1 h4 rfl)]; exact hv) hp hu tN hN hN4 h4 (hI_n1 h4 (hI_n3 rfl (hI_n3 rfl ((m8 0).trans er0)))) (hI_n1 h4 (hI_n3 rfl (hI_n3 rfl ((m8 1).trans er1)))) (hI_n1 h4 (hI_n3 rfl (hI_n3 rfl ((m7 0).trans el0)))) (hI_n1 h4 (hI_n3 rfl (hI_n3 rfl ((m7 1).trans el1)))) (hI_n1 hN (hI_n1 hN et0)) (hI_n1 hN (hI_n1 hN et1)) (kC (bz_0.mp c_193))
      · refine AW.aload_n dX4_carry_196 rfl ?_
        refine AW.getRE (j := 10) W.o dX4_carry_197 lkX4_39 rfl rfl inC5 rfl W.r10 ?_
        refine AW.iconst dX4_carry_200 (by decide) ?_
        refine AW.aload_n dX4_carry_201 rfl ?_
        refine AW.getRE (j := 11) W.o dX4_carry_202 lkX4_42 rfl rfl inC5 rfl W.r11 ?_
        refine AW.iconst dX4_carry_205 (by decide) ?_
        refine AW.aldIE dX4_carry_206 W.t11 (by decide) (by decide) (by exact hI_n3 rfl (hI_n3 rfl e0)) ?_
        refine AW.astI dX4_carry_207 W.t10 (by decide) (by decide) ?_
        refine AW.aload_n dX4_carry_208 rfl ?_
        refine AW.getRE (j := 10) W.o dX4_carry_209 lkX4_39 rfl rfl inC5 rfl W.r10 ?_
        refine AW.iconst dX4_carry_212 (by decide) ?_
        refine AW.aload_n dX4_carry_213 rfl ?_
        refine AW.getRE (j := 11) W.o dX4_carry_214 lkX4_42 rfl rfl inC5 rfl W.r11 ?_
        refine AW.iconst dX4_carry_217 (by decide) ?_
        refine AW.aldIE dX4_carry_218 W.t11 (by decide) (by decide) (by exact hI_n3 rfl (hI_n3 rfl (hI_n3 rfl e1))) ?_
        refine AW.astI dX4_carry_219 W.t10 (by decide) (by decide) ?_
        refine AW.goto (tgt := 233) dX4_carry_220 rfl ?_
        first | exact X4_carry_d' ((sT _ _).w (scn_y rfl rfl) |>.w (scn_y rfl rfl)) W H1B P H1S (by rw [hI_n1 (n := (4, s, 0)) h4 rfl]; exact hv) hp hu tN hN hN4 h4 (hI_m (by omega) (hI_e rfl rfl)) (hI_e rfl rfl) (hI_n3 rfl (hI_n3 rfl (hI_n3 rfl (hI_n3 rfl ((m7 0).trans el0))))) (hI_n3 rfl (hI_n3 rfl (hI_n3 rfl (hI_n3 rfl ((m7 1).trans el1))))) (hI_n1 hN et0) (hI_n1 hN et1) (kB (bz_n0.mp c_193)) | exact X4_carry_d' ((sT _ _).sw) W (SB_n1 h4 H1B) P H1S (by rw [hI_n1 (n := (4, s, 0)) h4 (hI_n1 h4 rfl)]; exact hv) hp hu tN hN hN4 h4 (hI_n1 h4 (hI_n3 rfl (hI_n3 rfl ((m8 0).trans er0)))) (hI_n1 h4 (hI_n3 rfl (hI_n3 rfl ((m8 1).trans er1)))) (hI_n1 h4 (hI_n3 rfl (hI_n3 rfl ((m7 0).trans el0)))) (hI_n1 h4 (hI_n3 rfl (hI_n3 rfl ((m7 1).trans el1)))) (hI_n1 hN (hI_n1 hN et0)) (hI_n1 hN (hI_n1 hN et1)) (kC (bz_0.mp c_193))
  have b0 : hI h (a, b, 2) (2 * v + u).toNat = 0 → AW mX4_carry fX4_carry loX4_carry mc ms Q bc bs 157 h [(6, vr N), (5, vr N2), (4, vr (5, p, 0)), (3, vi v), (0, vr (4, s, 0)), (1, vr (a, b, 0)), (2, vi u)] [vi 0] := by
    intro z
    refine AW.if_eq (tgt := 233) dX4_carry_157 rfl (fun c_157 => ?_) (fun c_157 => ?_)
    · exact X4_carry_d' Scr.rfl' W B P S hv hp hu tN hN hN4 h4 er0 er1 el0 el1 et0 et1 (kA z)
    · exact absurd rfl c_157
  refine AW.aload_n dX4_carry_139 rfl ?_
  refine AW.iload_n dX4_carry_140 rfl ?_
  refine AW.iload_n dX4_carry_141 rfl ?_
  refine' AW.if_eqJ 150 (tgt := 149) dX4_carry_142 rfl _ _ _
  rotate_left 2
  · intro c_142 k_142
    refine AW.iconst dX4_carry_149 (by decide) ?_
    exact k_142
  · intro c_142 k_142
    refine AW.iconst dX4_carry_145 (by decide) ?_
    refine AW.goto (tgt := 150) dX4_carry_146 rfl ?_
    exact k_142
  refine AW.top (y := u) (by (repeat' split) <;> omega) ?_
  refine AW.aload_n dX4_carry_150 rfl ?_
  refine AW.getRE (j := 11) W.o dX4_carry_151 lkX4_42 rfl rfl inC5 rfl W.r11 ?_
  refine AW.callV (as := [vi _, vi _, vq _]) dX4_carry_154 rfl rfl rfl okX5_takeOut lkX4_149 S.o rfl rfl rfl rfl rfl rfl rfl (kX5_takeOut S W.t11 ha4 (by omega) hu (fun z => AW.k1 (b0 z)) (fun z => AW.k1 (b1 z)))
end C11
