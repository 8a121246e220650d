/-! ===== the class: traces, and a step made ===== -/
section C8
variable {Q : AH → AO → Prop} {h : AH} {s : Nat}
/-- the steps of a schema stand -/
def StS (h : AH) (s : Nat) : Prop := ∀ n : Nat, 1 ≤ n → (n : Int) ≤ hI h (4, s, 0) 0 → hR h (4, s, 5) n = some (5, 24 * s + n, 0) ∧ StpW h (24 * s + n) ∧ PB h (24 * s + n)
def ctrA (h : AH) (s v : Nat) (x : Int64) : Nat → Int64
  | 0 => x
  | i + 1 => if ctrA h s v x i &&& cff h (24 * s + (v + 1 + i)) = 0 then ctrA h s v x i else (ctrA h s v x i &&& (cff h (24 * s + (v + 1 + i)) ^^^ (-1))) ||| cbf h (24 * s + (v + 1 + i))
theorem ctrA_s {v i : Nat} {x : Int64} : ctrA h s v x (i + 1) = if ctrA h s v x i &&& cff h (24 * s + (v + 1 + i)) = 0 then ctrA h s v x i else (ctrA h s v x i &&& (cff h (24 * s + (v + 1 + i)) ^^^ (-1))) ||| cbf h (24 * s + (v + 1 + i)) := rfl
def ctr (h : AH) (s v : Nat) (x : Int64) : Int64 := ctrA h s v x (hI h (4, s, 0) 0 - (v : Int)).toNat
set_option maxHeartbeats 1000000 in
theorem kX4_tracesOf {v : Nat} {x : Int64} (W : SchW h s) (B : SB h s) (S : StS h s) (hv : (v : Int) ≤ hI h (4, s, 0) 0) (k : Q h (.inl (some (vl (ctr h s v x))))) : AC mX4_tracesOf fX4_tracesOf loX4_tracesOf 0 0 h [vr (4, s, 0), vl x, vi (v : Int)] Q := by
  have B0 := B.1
  refine AC.mk (by decide) (Nat.le_of_ble_eq_true rfl) ?_
  have lp : ∀ (m i : Nat), (v : Int) + 1 + i ≤ hI h (4, s, 0) 0 + 1 → hI h (4, s, 0) 0 ≤ (v : Int) + i + m → AW mX4_tracesOf fX4_tracesOf loX4_tracesOf 0 0 Q 0 0 8 h [(6, vi ((v : Int) + 1 + (i : Int))), (4, vl (ctrA h s v x i)), (0, vr (4, s, 0)), (1, vl x), (3, vi (v : Int))] [] := by
    intro m
    induction m with
    | zero =>
      intro i h1 h2
      have e : (hI h (4, s, 0) 0 - (v : Int)).toNat = i := by omega
      refine AW.iload dX4_tracesOf_8 rfl ?_
      refine AW.aload_n dX4_tracesOf_10 rfl ?_
      refine AW.getIE (j := 0) W.o dX4_tracesOf_11 lkX4_48 rfl rfl inC5 rfl rfl ?_
      refine AW.icmp_gt (tgt := 69) dX4_tracesOf_14 rfl (fun c_14 => ?_) (fun c_14 => ?_)
      · refine AW.lload dX4_tracesOf_69 rfl ?_
        refine AW.lret dX4_tracesOf_71 rfl ?_
        unfold ctr at k
        rw [e] at k
        exact k
      · exact absurd c_14 (by omega)
    | succ m ih =>
      intro i h1 h2
      by_cases e : hI h (4, s, 0) 0 = (v : Int) + i
      · exact ih i h1 (by omega)
      obtain ⟨s1, P, PB0⟩ := S (v + 1 + i) (by omega) (by omega)
      have es : (if 0 ≤ (v : Int) + 1 + (i : Int) ∧ (v : Int) + 1 + (i : Int) ≤ hI h (4, s, 0) 0 then hR h (4, s, 5) ((v : Int) + 1 + (i : Int)).toNat else none) = some (5, 24 * s + (v + 1 + i), 0) := by
        rw [if_pos (by omega), show ((v : Int) + 1 + (i : Int)).toNat = v + 1 + i by omega]; exact s1
      refine AW.iload dX4_tracesOf_8 rfl ?_
      refine AW.aload_n dX4_tracesOf_10 rfl ?_
      refine AW.getIE (j := 0) W.o dX4_tracesOf_11 lkX4_48 rfl rfl inC5 rfl rfl ?_
      refine AW.icmp_gt (tgt := 69) dX4_tracesOf_14 rfl (fun c_14 => ?_) (fun c_14 => ?_)
      · exact absurd c_14 (by omega)
      · refine AW.aload_n dX4_tracesOf_17 rfl ?_
        refine AW.iload dX4_tracesOf_18 rfl ?_
        refine AW.callV (as := [vi _]) dX4_tracesOf_20 rfl rfl rfl okX4_stepTo lkX4_117 W.o rfl rfl rfl rfl rfl rfl rfl (kX4_stepTo W B (AW.k1 ?_))
        rw [es]
        refine AW.astore dX4_tracesOf_23 rfl ?_
        refine AW.aload dX4_tracesOf_25 rfl ?_
        refine AW.ifnull (tgt := 63) dX4_tracesOf_27 rfl (fun c_27 => ?_) (fun n_27 c_27 => ?_)
        · exact absurd c_27 (by simp)
        · refine AW.lload dX4_tracesOf_30 rfl ?_
          refine AW.aload dX4_tracesOf_32 rfl ?_
          refine AW.callV (as := []) dX4_tracesOf_34 rfl rfl rfl okX6_frontFields lkX4_87 P.o rfl rfl rfl rfl rfl rfl rfl (kX6_frontFields P PB0 (AW.k1 ?_))
          refine AW.land dX4_tracesOf_37 ?_
          refine AW.lconst dX4_tracesOf_38 ?_
          refine AW.lcmp dX4_tracesOf_39 ?_
          refine AW.if_eq (tgt := 63) dX4_tracesOf_40 rfl (fun c_40 => ?_) (fun c_40 => ?_)
          · refine AW.iincB dX4_tracesOf_63 rfl rfl (by omega) ?_
            refine AW.goto (tgt := 8) dX4_tracesOf_66 rfl ?_
            refine AW.locs [(6, vi ((v : Int) + 1 + ((i + 1 : Nat) : Int))), (4, vl (ctrA h s v x (i + 1))), (0, vr (4, s, 0)), (1, vl x), (3, vi (v : Int))] ⟨rfl, ?_, rfl, rfl, rfl, trivial⟩ (ih (i + 1) (by omega) (by omega))
            show some (vl _) = some (vl _)
            congr 2
            rw [ctrA_s]
            by_cases q : ctrA h s v x i &&& cff h (24 * s + (v + 1 + i)) = 0
            · first | (rw [if_pos q]; done) | exact absurd (lcm_z.mpr q) c_40
            · first | exact absurd (lcm_z.mp c_40) q | (rw [if_neg q]; done) | (rw [if_neg q]; rfl)
          · refine AW.lload dX4_tracesOf_43 rfl ?_
            refine AW.aload dX4_tracesOf_45 rfl ?_
            refine AW.callV (as := []) dX4_tracesOf_47 rfl rfl rfl okX6_frontFields lkX4_87 P.o rfl rfl rfl rfl rfl rfl rfl (kX6_frontFields P PB0 (AW.k1 ?_))
            refine AW.ldc2 dX4_tracesOf_50 lkX4_91 ?_
            refine AW.lxor dX4_tracesOf_53 ?_
            refine AW.land dX4_tracesOf_54 ?_
            refine AW.aload dX4_tracesOf_55 rfl ?_
            refine AW.callV (as := []) dX4_tracesOf_57 rfl rfl rfl okX6_behindFields lkX4_121 P.o rfl rfl rfl rfl rfl rfl rfl (kX6_behindFields P PB0 (AW.k1 ?_))
            refine AW.lor dX4_tracesOf_60 ?_
            refine AW.lstore dX4_tracesOf_61 rfl ?_
            refine AW.iincB dX4_tracesOf_63 rfl rfl (by omega) ?_
            refine AW.goto (tgt := 8) dX4_tracesOf_66 rfl ?_
            refine AW.locs [(6, vi ((v : Int) + 1 + ((i + 1 : Nat) : Int))), (4, vl (ctrA h s v x (i + 1))), (0, vr (4, s, 0)), (1, vl x), (3, vi (v : Int))] ⟨rfl, ?_, rfl, rfl, rfl, trivial⟩ (ih (i + 1) (by omega) (by omega))
            show some (vl _) = some (vl _)
            congr 2
            rw [ctrA_s]
            by_cases q : ctrA h s v x i &&& cff h (24 * s + (v + 1 + i)) = 0
            · first | (rw [if_pos q]; done) | exact absurd (lcm_z.mpr q) c_40
            · first | exact absurd (lcm_z.mp c_40) q | (rw [if_neg q]; done) | (rw [if_neg q]; rfl)
  refine AW.lload_n dX4_tracesOf_0 rfl ?_
  refine AW.lstore dX4_tracesOf_1 rfl ?_
  refine AW.iload_n dX4_tracesOf_3 rfl ?_
  refine AW.iconst dX4_tracesOf_4 (by decide) ?_
  refine AW.iaddB dX4_tracesOf_5 (by omega) ?_
  refine AW.istore dX4_tracesOf_6 rfl ?_
  refine AW.locs [(6, vi ((v : Int) + 1 + ((0 : Nat) : Int))), (4, vl (ctrA h s v x 0)), (0, vr (4, s, 0)), (1, vl x), (3, vi (v : Int))] ⟨?_, rfl, rfl, rfl, rfl, trivial⟩ (lp (hI h (4, s, 0) 0 - (v : Int)).toNat 0 (by omega) (by omega))
  show some (vi _) = some (vi _)
  congr 2
/-- a step made -/
def cns (h : AH) (p : Nat) (kd a b c d fc : Int) : AH := cs2 (cs1 (aN h (5, p, 0) 7 0) p kd a b) p c d fc
theorem cns_P {p : Nat} {kd a b c d fc : Int} : StpW (cns h p kd a b c d fc) p := by
  unfold StpW cns cs2 cs1
  simp [hT_aN, hT_sI, hT_sR, hR_aN, hR_sI, hR_sR]
theorem cns_6 {p : Nat} {kd a b c d fc : Int} : hI (cns h p kd a b c d fc) (6, p, 0) 0 = a ∧ hI (cns h p kd a b c d fc) (6, p, 0) 1 = b := by
  unfold cns cs2 cs1
  simp [hI_aN, hI_sI, hI_sR]
theorem cns_7 {p : Nat} {kd a b c d fc : Int} : hI (cns h p kd a b c d fc) (7, p, 0) 0 = c ∧ hI (cns h p kd a b c d fc) (7, p, 0) 1 = d := by
  unfold cns cs2 cs1
  simp [hI_aN, hI_sI, hI_sR]
theorem cns_5 {p : Nat} {kd a b c d fc : Int} : hI (cns h p kd a b c d fc) (5, p, 0) 0 = kd ∧ hI (cns h p kd a b c d fc) (5, p, 0) 3 = fc := by
  unfold cns cs2 cs1
  simp [hI_aN, hI_sI, hI_sR]
theorem cns_T {p : Nat} {kd a b c d fc : Int} {n : Nm} (h5 : Nat.beq n.1 5 = false) (h6 : Nat.beq n.1 6 = false) (h7 : Nat.beq n.1 7 = false) : hT (cns h p kd a b c d fc) n = hT h n := by
  have e5 : ¬ n = (5, p, 0) := fun e => by subst e; simp at h5
  have e6 : ¬ n = (6, p, 0) := fun e => by subst e; simp at h6
  have e7 : ¬ n = (7, p, 0) := fun e => by subst e; simp at h7
  unfold cns cs2 cs1
  simp [hT_aN, hT_sI, hT_sR, e5, e6, e7]
theorem cns_I {p i : Nat} {kd a b c d fc : Int} {n : Nm} (h5 : Nat.beq n.1 5 = false) (h6 : Nat.beq n.1 6 = false) (h7 : Nat.beq n.1 7 = false) : hI (cns h p kd a b c d fc) n i = hI h n i := by
  have e5 : ¬ n = (5, p, 0) := fun e => by subst e; simp at h5
  have e6 : ¬ n = (6, p, 0) := fun e => by subst e; simp at h6
  have e7 : ¬ n = (7, p, 0) := fun e => by subst e; simp at h7
  unfold cns cs2 cs1
  simp [hI_aN, hI_sI, hI_sR, e5, e6, e7]
theorem cns_R {p i : Nat} {kd a b c d fc : Int} {n : Nm} (h5 : Nat.beq n.1 5 = false) (h6 : Nat.beq n.1 6 = false) (h7 : Nat.beq n.1 7 = false) : hR (cns h p kd a b c d fc) n i = hR h n i := by
  have e5 : ¬ n = (5, p, 0) := fun e => by subst e; simp at h5
  have e6 : ¬ n = (6, p, 0) := fun e => by subst e; simp at h6
  have e7 : ¬ n = (7, p, 0) := fun e => by subst e; simp at h7
  unfold cns cs2 cs1
  simp [hR_aN, hR_sI, hR_sR, e5, e6, e7]
theorem cns_S {p : Nat} {kd a b c d fc : Int} (W : SchW h s) : SchW (cns h p kd a b c d fc) s := by
  have t : ∀ n : Nm, n.1 = 4 → hT (cns h p kd a b c d fc) n = hT h n := fun n e => cns_T (by rw [e]; rfl) (by rw [e]; rfl) (by rw [e]; rfl)
  have r : ∀ (n : Nm) i, n.1 = 4 → hR (cns h p kd a b c d fc) n i = hR h n i := fun n i e => cns_R (by rw [e]; rfl) (by rw [e]; rfl) (by rw [e]; rfl)
  unfold SchW
  simp only [t (4, _, _) rfl, r (4, _, _) _ rfl]
  exact W
theorem cns_B {p : Nat} {kd a b c d fc : Int} (B : SB h s) : SB (cns h p kd a b c d fc) s := by
  unfold SB
  rw [cns_I rfl rfl rfl, cns_I rfl rfl rfl, cns_I rfl rfl rfl]
  exact B
theorem kX4_takeOff {p : Nat} {f : Int} (W : SchW h s) (B : SB h s) (hf : 0 ≤ f ∧ f < 46) (hh : hI h (4, s, 0) 0 < 23) (n5 : hT h (5, p, 0) = none) (n6 : hT h (6, p, 0) = none) (n7 : hT h (7, p, 0) = none) (k : Q (cex (cns h p 5 f (-1) (-1) (-1) 0) s p) (.inl none)) : AC mX4_takeOff fX4_takeOff loX4_takeOff 3 8 h [vr (4, s, 0), vi f] Q := by
  refine AC.mk (by decide) (Nat.le_of_ble_eq_true rfl) ?_
  refine AW.aload_n dX4_takeOff_0 rfl ?_
  refine AW.new (kc := 7) (5, p, 0) n5 dX4_takeOff_1 rfl inC7 lkX4_27 insX6 iniX6 rfl rfl ?_
  refine AW.dup dX4_takeOff_4 rfl ?_
  refine AW.iconst dX4_takeOff_5 (by decide) ?_
  refine AW.iload_n dX4_takeOff_6 rfl ?_
  refine AW.iconst dX4_takeOff_7 (by decide) ?_
  refine AW.iconst dX4_takeOff_8 (by decide) ?_
  refine AW.iconst dX4_takeOff_9 (by decide) ?_
  refine AW.iconst dX4_takeOff_10 (by decide) ?_
  refine AW.callI (as := [vi _, vi _, vi _, vi _, vi _, vi _]) dX4_takeOff_11 rfl rfl rfl okX6_init lkX4_103 rfl rfl rfl rfl rfl (kX6_init (p := p) hT_new (hT_old (by intro e; simp at e) n6) (hT_old (by intro e; simp at e) n7) (AW.k0 ?_))
  refine AW.callV (as := [vq _]) dX4_takeOff_14 rfl rfl rfl okX4_extend lkX4_106 (cns_S W).o rfl rfl rfl rfl rfl rfl rfl (kX4_extend (h := cns h p 5 f (-1) (-1) (-1) 0) (cns_S W) (cns_B B) cns_P ⟨by rw [cns_6.1]; omega, by rw [cns_6.2]; omega, by rw [cns_7.1]; omega, by rw [cns_7.2]; omega⟩ (by rw [cns_I rfl rfl rfl]; exact hh) (AW.k0 ?_))
  refine AW.vret dX4_takeOff_17 rfl ?_
  exact k
end C8
