/-! ===== text: the letters, one by one ===== -/
section T5
variable {Q : AH → AO → Prop} {h h0 g : AH} {Z : ZT} {b s : Nat} {T : Nat → Int}
/-- all cells but those of the builder b -/
def nSB (b : Nat) (n : Nm) : Prop := ¬ (n = nSb b ∨ n = nVb b)
/-- a builder that holds the first L letters of T -/
def SbT (h : AH) (b L : Nat) (T : Nat → Int) : Prop := SbW h b ∧ hI h (nSb b) 3 = (L : Int) ∧ L ≤ 16 ∧ ∀ j, j < L → hI h (nVb b) j = T j ∧ 0 ≤ T j ∧ T j < 128
theorem nSb_v : ¬ nSb b = nVb b := fun z => by cases z
theorem SbT.app {L : Nat} {c : Int} (S : SbT h b L T) (hl : L < 16) (hc : 0 ≤ c ∧ c < 128) (e : T L = c) : SbT (sI (sI h (nSb b) 3 ((L : Int) + 1)) (nVb b) L c) b (L + 1) T ∧ Fr (nSB b) h (sI (sI h (nSb b) 3 ((L : Int) + 1)) (nVb b) L c) := by
  obtain ⟨⟨s1, s2, s3, s4⟩, s5, s6, s7⟩ := S
  refine ⟨⟨⟨s1, s2, s3, ?_⟩, ?_, by omega, fun j hj => ?_⟩, (Fr.rf.wI (fun z => z (Or.inl rfl))).wI (fun z => z (Or.inr rfl))⟩
  · rw [hI_sI, if_neg (fun z => nSb_v z.1), hI_sI, if_neg (fun z => by omega)]; exact s4
  · rw [hI_sI, if_neg (fun z => nSb_v z.1), hI_sI, if_pos ⟨rfl, rfl⟩]; omega
  · rw [hI_sI]
    by_cases z : j = L
    · subst z
      rw [if_pos ⟨rfl, rfl⟩]; exact ⟨e.symm, by omega, by omega⟩
    · rw [if_neg (fun y => z y.2), hI_sI, if_neg (fun y => nSb_v y.1.symm)]
      exact s7 j (by omega)
def cnt2 (x : Int) : Nat := if x = -1 then 0 else 2
/-- a name is told: its field x, its place n -/
def TN (h : AH) (s : Nat) (v x : Int) (L : Nat) (T : Nat → Int) : Prop := ¬ x = -1 → ∃ n : Nat, n < 26 ∧ cfn h s v n = x ∧ (∀ j : Nat, j < n → ¬ cfn h s v j = x) ∧ T L = 32 ∧ T (L + 1) = 97 + (n : Int)
set_option maxHeartbeats 1000000 in
theorem tn_it {v x : Int} {i L : Nat} {p : Nm} (hi : i < 2) (F : Fr (nSB b) h0 h) (HG : ∀ g, Fr (nSB b) h0 g → SchW g s ∧ SB g s ∧ ∀ n, cfn g s v n = cfn h0 s v n) (hp : nSB b p) (P2 : hT h0 p = some (20, 2)) (ei : hI h0 p i = x) (S : SbT h b L T) (hL : L + 2 ≤ 16) (hx : TN h0 s v x L T)
    (k : ∀ g, Fr (nSB b) h0 g → SbT g b (L + cnt2 x) T → AW mX7_tellNames fX7_tellNames loX7_tellNames 0 0 Q 0 0 43 g [(4, vi (i : Int)), (0, vr (nSb b)), (1, vr (4, s, 0)), (2, vi v), (3, vr p)] []) :
    AW mX7_tellNames fX7_tellNames loX7_tellNames 0 0 Q 0 0 3 h [(4, vi (i : Int)), (0, vr (nSb b)), (1, vr (4, s, 0)), (2, vi v), (3, vr p)] [] := by
  refine AW.iload dX7_tellNames_3 rfl ?_
  refine AW.aload_n dX7_tellNames_5 rfl ?_
  refine AW.alen (t := 0) dX7_tellNames_6 (by rw [F.T hp]; exact P2) (by decide) (by decide) ?_
  refine AW.icmp_ge (tgt := 49) dX7_tellNames_7 rfl (fun c => absurd c (by omega)) (fun _ => ?_)
  refine AW.aload_n dX7_tellNames_10 rfl ?_
  refine AW.iload dX7_tellNames_11 rfl ?_
  refine AW.aldIE dX7_tellNames_13 (by rw [F.T hp]; exact P2) (by omega) (by omega) (x := x) (by rw [F.I hp]; exact ei) ?_
  refine AW.iconst dX7_tellNames_14 (by decide) ?_
  refine AW.icmp_eq (tgt := 43) dX7_tellNames_15 rfl (fun c => ?_) (fun c => ?_)
  · refine k h F ?_
    unfold cnt2
    rw [if_pos c]; exact S
  · obtain ⟨n, n1, n2, n3, t1, t2⟩ := hx c
    obtain ⟨S1, F1⟩ := S.app (c := 32) (by omega) (by omega) t1
    have F1 := F.tr F1
    obtain ⟨W1, B1, C1⟩ := HG _ F1
    obtain ⟨S2, F2⟩ := S1.app (c := 97 + (n : Int)) (by omega) (by omega) t2
    have F2 := F1.tr F2
    refine AW.aload_n dX7_tellNames_18 rfl ?_
    refine AW.bipush dX7_tellNames_19 bp_32 (by decide) ?_
    refine AW.callV (as := [vi _]) dX7_tellNames_21 rfl rfl rfl okJ4_append_cf468 lkX7_219 S.1.1 rfl rfl rfl rfl rfl rfl rfl (kJ4_appendC S.1 S.2.1 (by omega) (by omega) (AW.k1 ?_))
    refine AW.pop dX7_tellNames_24 rfl ?_
    refine AW.gen (P := fun g => g = sI (sI h (nSb b) 3 ((L : Int) + 1)) (nVb b) L 32) rfl (fun g1 eg => ?_)
    rw [← eg] at S1 F1 W1 B1 C1 S2 F2
    clear eg
    refine AW.aload_n dX7_tellNames_25 rfl ?_
    refine AW.bipush dX7_tellNames_26 bp_97 (by decide) ?_
    refine AW.aload_n dX7_tellNames_28 rfl ?_
    refine AW.iload_n dX7_tellNames_29 rfl ?_
    refine AW.aload_n dX7_tellNames_30 rfl ?_
    refine AW.iload dX7_tellNames_31 rfl ?_
    refine AW.aldIE dX7_tellNames_33 (by rw [F1.T hp]; exact P2) (by omega) (by omega) (x := x) (by rw [F1.I hp]; exact ei) ?_
    refine AW.callV (as := [vi _, vi _]) dX7_tellNames_34 rfl rfl rfl okX4_nameOf lkX7_423 W1.o rfl rfl rfl rfl rfl rfl rfl (kX4_nameOf W1 B1 n1 ((C1 _).trans n2) (fun j hj => by rw [C1]; exact n3 j hj) (AW.k1 ?_))
    refine AW.iaddB dX7_tellNames_37 (by omega) ?_
    refine AW.i2c dX7_tellNames_38 (by omega) ?_
    refine AW.callV (as := [vi _]) dX7_tellNames_39 rfl rfl rfl okJ4_append_cf468 lkX7_219 S1.1.1 rfl rfl rfl rfl rfl rfl rfl (kJ4_appendC S1.1 S1.2.1 (by omega) (by omega) (AW.k1 ?_))
    refine AW.pop dX7_tellNames_42 rfl ?_
    refine k _ F2 ?_
    unfold cnt2
    rw [if_neg c]; exact S2
set_option maxHeartbeats 1000000 in
theorem kX7_tellNames {v x y : Int} {L : Nat} {p : Nm} (HG : ∀ g, Fr (nSB b) h g → SchW g s ∧ SB g s ∧ ∀ n, cfn g s v n = cfn h s v n) (hp : nSB b p) (P2 : hT h p = some (20, 2)) (e0 : hI h p 0 = x) (e1 : hI h p 1 = y) (S : SbT h b L T) (hL : L + 4 ≤ 16) (hx : TN h s v x L T) (hy : TN h s v y (L + cnt2 x) T)
    (k : ∀ g, Fr (nSB b) h g → SbT g b (L + cnt2 x + cnt2 y) T → Q g (.inl none)) : AC mX7_tellNames fX7_tellNames loX7_tellNames 0 0 h [vr (nSb b), vr (4, s, 0), vi v, vr p] Q := by
  have c2 : cnt2 x ≤ 2 := by unfold cnt2; split <;> omega
  refine AC.mk (by decide) (Nat.le_of_ble_eq_true rfl) ?_
  refine AW.iconst dX7_tellNames_0 (by decide) ?_
  refine AW.istore dX7_tellNames_1 rfl ?_
  refine AW.locs [(4, vi ((0 : Nat) : Int)), (0, vr (nSb b)), (1, vr (4, s, 0)), (2, vi v), (3, vr p)] ⟨rfl, rfl, rfl, rfl, rfl, trivial⟩ ?_
  refine tn_it (i := 0) (by omega) Fr.rf HG hp P2 e0 S (by omega) hx (fun g1 F1 S1 => ?_)
  refine AW.iincB dX7_tellNames_43 rfl rfl (by omega) ?_
  refine AW.goto (tgt := 3) dX7_tellNames_46 rfl ?_
  refine AW.locs [(4, vi ((1 : Nat) : Int)), (0, vr (nSb b)), (1, vr (4, s, 0)), (2, vi v), (3, vr p)] ⟨rfl, rfl, rfl, rfl, rfl, trivial⟩ ?_
  refine tn_it (i := 1) (by omega) F1 HG hp P2 e1 S1 (by omega) hy (fun g2 F2 S2 => ?_)
  refine AW.iincB dX7_tellNames_43 rfl rfl (by omega) ?_
  refine AW.goto (tgt := 3) dX7_tellNames_46 rfl ?_
  refine AW.locs [(4, vi ((2 : Nat) : Int)), (0, vr (nSb b)), (1, vr (4, s, 0)), (2, vi v), (3, vr p)] ⟨rfl, rfl, rfl, rfl, rfl, trivial⟩ ?_
  refine AW.iload dX7_tellNames_3 rfl ?_
  refine AW.aload_n dX7_tellNames_5 rfl ?_
  refine AW.alen (t := 0) dX7_tellNames_6 (by rw [F2.T hp]; exact P2) (by decide) (by decide) ?_
  refine AW.icmp_ge (tgt := 49) dX7_tellNames_7 rfl (fun _ => ?_) (fun c => absurd c (by decide))
  exact AW.vret dX7_tellNames_49 rfl (k g2 F2 S2)
theorem kX7_wordOf {w : Int} (hW7 : WW h) (hw : 0 ≤ w ∧ w ≤ 6) (k : Q h (.inl (some (vr (nWs w.toNat))))) : AC mX7_wordOf fX7_wordOf loX7_wordOf 0 0 h [vi w] Q := by
  have kk : ∀ i : Nat, w = (i : Int) → Q h (.inl (some (vr (nWs i)))) := fun i e => by subst e; exact k
  refine AC.mk (by decide) (Nat.le_of_ble_eq_true rfl) ?_
  refine AW.iload_n dX7_wordOf_0 rfl ?_
  refine AW.tsw [40, 44, 48, 52, 56, 60] (td := 64) dX7_wordOf_1 rfl rfl rfl ?_ (fun c_1 => ?_)
  · refine ⟨fun c => ?_, fun c => ?_, fun c => ?_, fun c => ?_, fun c => ?_, fun c => ?_, trivial⟩
    · exact AW.ldcW (i := 0) (by decide) hW7 rfl dX7_wordOf_40 rfl (AW.aret dX7_wordOf_43 rfl (kk 0 (by omega)))
    · exact AW.ldcW (i := 1) (by decide) hW7 rfl dX7_wordOf_44 rfl (AW.aret dX7_wordOf_47 rfl (kk 1 (by omega)))
    · exact AW.ldcW (i := 2) (by decide) hW7 rfl dX7_wordOf_48 rfl (AW.aret dX7_wordOf_51 rfl (kk 2 (by omega)))
    · exact AW.ldcW (i := 3) (by decide) hW7 rfl dX7_wordOf_52 rfl (AW.aret dX7_wordOf_55 rfl (kk 3 (by omega)))
    · exact AW.ldcW (i := 4) (by decide) hW7 rfl dX7_wordOf_56 rfl (AW.aret dX7_wordOf_59 rfl (kk 4 (by omega)))
    · exact AW.ldcW (i := 5) (by decide) hW7 rfl dX7_wordOf_60 rfl (AW.aret dX7_wordOf_63 rfl (kk 5 (by omega)))
  · exact AW.ldcW (i := 6) (by decide) hW7 rfl dX7_wordOf_64 rfl (AW.aret dX7_wordOf_67 rfl (kk 6 (by omega)))
/-! the letters of a text -/
theorem zlet_w {i j : Nat} (hi : i < 7) (hj : j < wln.getD i 0) : zlet (i : Int) (j : Int) = wlt i j := by
  have : ∀ i, i < 7 → ∀ j, j < wln.getD i 0 → zlet (i : Int) (j : Int) = wlt i j := by decide +kernel
  exact this i hi j hj
theorem zlen_w {i : Nat} (hi : i < 7) : zlen (i : Int) = ((wln.getD i 0 : Nat) : Int) := by
  have : ∀ i : Nat, i < 7 → zlen (i : Int) = ((wln.getD i 0 : Nat) : Int) := by decide +kernel
  exact this i hi
theorem zsgn_l {s a i : Int} {w : Int} (hw : Z 7 (24 * s + a).toNat = w) (h0 : 0 ≤ i) (h1 : i < zlen w) : zsgn Z s a i = zlet w i := by
  unfold zsgn
  rw [hw, if_neg (by omega), if_pos (by omega)]
theorem zsgn_r {s a d : Int} {w : Int} (hw : Z 7 (24 * s + a).toNat = w) (h0 : 0 ≤ d) : zsgn Z s a (zlen w + d) = zsg1 Z s a (24 * s + a) d := by
  have := zlen_rng (w := w)
  unfold zsgn
  rw [hw, if_neg (by omega), if_neg (by omega), show zlen w + d - zlen w = d by omega]
theorem zsg1_2 {s a p d : Int} (h0 : 0 ≤ d) : zsg1 Z s a p (2 * zfn Z p + 1 + d) = zsg2 Z s a p d := by
  unfold zsg1
  rw [if_neg (by omega), show 2 * zfn Z p + 1 + d - (2 * zfn Z p + 1) = d by omega]
theorem zsg1_m {s a p : Int} : zsg1 Z s a p (2 * zfn Z p) = 62 := by
  unfold zsg1 zsg2
  rw [if_neg (by omega), if_pos (by omega)]
theorem zfn_v {p : Int} (f : zfr Z p 0 = -1 → zfr Z p 1 = -1) : zfn Z p = ((cnt2 (zfr Z p 0) + cnt2 (zfr Z p 1) : Nat) : Int) / 2 ∧ 2 * zfn Z p = ((cnt2 (zfr Z p 0) + cnt2 (zfr Z p 1) : Nat) : Int) := by
  unfold zfn cnt2
  split <;> split <;> exact ⟨by omega, by omega⟩
theorem zbn_v {p : Int} : 2 * zbn Z p = ((cnt2 (zbe Z p 0) + cnt2 (zbe Z p 1) : Nat) : Int) := by
  unfold zbn cnt2
  split <;> split <;> omega
theorem zsg1_f {s a p : Int} (f : zfr Z p 0 = -1 → zfr Z p 1 = -1) :
    (¬ zfr Z p 0 = -1 → zsg1 Z s a p 0 = 32 ∧ zsg1 Z s a p 1 = 97 + Z 5 (48 * (24 * s + (a - 1)) + zfr Z p 0).toNat) ∧ (¬ zfr Z p 1 = -1 → zsg1 Z s a p 2 = 32 ∧ zsg1 Z s a p 3 = 97 + Z 5 (48 * (24 * s + (a - 1)) + zfr Z p 1).toNat) := by
  have hn : zfn Z p = (if zfr Z p 0 = -1 then 0 else 1) + (if zfr Z p 1 = -1 then 0 else 1) := rfl
  refine ⟨fun e => ?_, fun e => ?_⟩
  · rw [if_neg e] at hn
    have : 1 ≤ zfn Z p := by split at hn <;> omega
    unfold zsg1
    refine ⟨by rw [if_pos (by omega), if_pos (by decide)], by rw [if_pos (by omega), if_neg (by decide)]; rfl⟩
  · rw [if_neg e, if_neg (fun z => e (f z))] at hn
    unfold zsg1
    refine ⟨by rw [if_pos (by omega), if_pos (by decide)], by rw [if_pos (by omega), if_neg (by decide)]; rfl⟩
theorem zsg2_b {s a p : Int} (f : zbe Z p 0 = -1 → zbe Z p 1 = -1) :
    (¬ zbe Z p 0 = -1 → zsg2 Z s a p 0 = 32 ∧ zsg2 Z s a p 1 = 97 + Z 5 (48 * (24 * s + a) + zbe Z p 0).toNat) ∧ (¬ zbe Z p 1 = -1 → zsg2 Z s a p 2 = 32 ∧ zsg2 Z s a p 3 = 97 + Z 5 (48 * (24 * s + a) + zbe Z p 1).toNat) := by
  have hn : zbn Z p = (if zbe Z p 0 = -1 then 0 else 1) + (if zbe Z p 1 = -1 then 0 else 1) := rfl
  refine ⟨fun e => ?_, fun e => ?_⟩
  · rw [if_neg e] at hn
    have : 1 ≤ zbn Z p := by split at hn <;> omega
    unfold zsg2
    refine ⟨by rw [if_neg (by omega), if_pos (by omega), if_pos (by decide)], by rw [if_neg (by omega), if_pos (by omega), if_neg (by decide)]; rfl⟩
  · rw [if_neg e, if_neg (fun z => e (f z))] at hn
    unfold zsg2
    refine ⟨by rw [if_neg (by omega), if_pos (by omega), if_pos (by decide)], by rw [if_neg (by omega), if_pos (by omega), if_neg (by decide)]; rfl⟩
/-- where there is a letter -/
theorem zsgn_nz (N : BN Z) {s a i w : Int} (hw : Z 7 (24 * s + a).toNat = w) : (¬ zsgn Z s a i = 0) ↔ (0 ≤ i ∧ i < zlen w + 2 * zfn Z (24 * s + a) + 1 + 2 * zbn Z (24 * s + a)) := by
  have f0 : 0 ≤ zfn Z (24 * s + a) := by unfold zfn; split <;> split <;> omega
  have b0 : 0 ≤ zbn Z (24 * s + a) := by unfold zbn; split <;> split <;> omega
  have lr := zlen_rng (w := w)
  by_cases h0 : i < 0
  · have e : zsgn Z s a i = 0 := by unfold zsgn; rw [if_pos h0]
    exact ⟨fun z => absurd e z, fun z => absurd z.1 (by omega)⟩
  by_cases h1 : i < zlen w
  · have e := zsgn_l (s := s) (a := a) hw (by omega) h1
    rw [e]
    refine ⟨fun _ => by omega, fun _ => ?_⟩
    have a0 : ¬ zl0 i = 0 := by unfold zl0; (repeat' split) <;> omega
    have a1 : ¬ zl1 i = 0 := by unfold zl1; (repeat' split) <;> omega
    have a2 : ¬ zl2 i = 0 := by unfold zl2; (repeat' split) <;> omega
    have a3 : ¬ zl3 i = 0 := by unfold zl3; (repeat' split) <;> omega
    have a4 : ¬ zl4 i = 0 := by unfold zl4; (repeat' split) <;> omega
    have a5 : ¬ zl5 i = 0 := by unfold zl5; (repeat' split) <;> omega
    have a6 : ¬ zl6 i = 0 := by unfold zl6; (repeat' split) <;> omega
    unfold zlet
    (repeat' split) <;> assumption
  · have e := zsgn_r (s := s) (a := a) (d := i - zlen w) hw (by omega)
    rw [show zlen w + (i - zlen w) = i by omega] at e
    rw [e]
    unfold zsg1 zsg2
    have n1 : ∀ q, ¬ 97 + Z 5 q = 0 := fun q => by have := N q; omega
    split
    · refine ⟨fun _ => by omega, fun _ => ?_⟩
      split
      · decide
      · exact n1 _
    · split
      · exact ⟨fun _ => by omega, fun _ => by decide⟩
      · split
        · refine ⟨fun _ => by omega, fun _ => ?_⟩
          split
          · decide
          · exact n1 _
        · exact ⟨fun z => absurd rfl z, fun z => absurd z.2 (by omega)⟩
end T5
