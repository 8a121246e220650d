/-! ===== the class: what a step tells ===== -/
section C6
variable {Q : AH → AO → Prop} {h : AH} {s : Nat}
def ctu (v f t : Int) : Int := if v = -1 then -1 else if t = 1 then bz (0 < v) else if f = 0 ∧ t = 2 then v.tdiv 10 else if f = 2 ∧ t = 0 then wr (10 * v) else v
theorem kX7_turned' {v f t : Int} (k : Q h (.inl (some (vi (ctu v f t))))) : AC mX7_turned fX7_turned loX7_turned 0 0 h [vi v, vi f, vi t] Q := kX7_turned k
theorem hI_w {j n3 i q : Nat} {x : Int} (hj : 3 ≤ j) (hn : n3 < 3) : hI (sI h (4, s, j) i x) (4, s, n3) q = hI h (4, s, n3) q := hI_n3 (beq_ne (by show ¬ n3 = j; omega)) rfl
theorem SB_w {j i : Nat} {x : Int} (hj : 3 ≤ j) (B : SB h s) : SB (sI h (4, s, j) i x) s := by
  unfold SB
  rw [hI_w hj (by omega), hI_w hj (by omega), hI_w hj (by omega)]
  exact B
theorem cdf_w {j i : Nat} {x f : Int} (hj : 3 ≤ j) : cdf (sI h (4, s, j) i x) s f = cdf h s f := by
  unfold cdf
  rw [hI_w hj (by omega), hI_w hj (by omega)]
theorem ckd_w {j i : Nat} {x f : Int} (hj : 3 ≤ j) : ckd (sI h (4, s, j) i x) s f = ckd h s f := by
  unfold ckd
  rw [hI_w hj (by omega), hI_w hj (by omega)]
theorem cnd_w {j i : Nat} {x v f : Int} (hj : 3 ≤ j) : cnd (sI h (4, s, j) i x) s v f = cnd h s v f := by
  unfold cnd
  rw [hI_w hj (by omega), hI_w hj (by omega)]
  rfl
/-- a pair told -/
def w2 (h : AH) (m : Nm) (x y : Int) : AH := sI (sI h m 0 x) m 1 y
theorem sI4 {m : Nm} {a b x y : Int} : sI (sI (sI (sI h m 0 a) m 1 b) m 0 x) m 1 y = w2 h m x y := by
  unfold w2 sI
  refine Prod.ext rfl (Prod.ext (funext fun n => funext fun i => ?_) rfl)
  dsimp only
  by_cases e1 : n = m ∧ i = 1
  · simp only [e1, and_self, if_true]
  · by_cases e0 : n = m ∧ i = 0
    · simp only [if_neg e1, if_pos e0]
    · simp only [if_neg e1, if_neg e0]
theorem sI3 {m : Nm} {a b x : Int} : sI (sI (sI h m 0 a) m 1 b) m 0 x = w2 h m x b := by
  unfold w2 sI
  refine Prod.ext rfl (Prod.ext (funext fun n => funext fun i => ?_) rfl)
  dsimp only
  by_cases e1 : n = m ∧ i = 1
  · have e0 : ¬ (n = m ∧ i = 0) := fun z => by omega
    rw [if_neg e0, if_pos e1, if_pos e1]
  · rw [if_neg e1, if_neg e1]
    by_cases e0 : n = m ∧ i = 0
    · rw [if_pos e0, if_pos e0]
    · rw [if_neg e0, if_neg e0]
      rw [if_neg e0]
def cfro (h : AH) (p : Nat) (u : Int) : Int := if u = 0 then hI h (7, p, 0) 0 else hI h (6, p, 0) 0
def cTo (h : AH) (p : Nat) (u : Int) : Int := if u = 0 then hI h (6, p, 0) 0 else hI h (7, p, 0) 0
def ctA0 (h : AH) (s p : Nat) (u g0 g1 : Int) : Int :=
  if hI h (5, p, 0) 0 = 0 then (if u = 0 then -1 else cdf h s (cTo h p u))
  else if hI h (5, p, 0) 0 = 2 then ctu g0 (ckd h s (cfro h p u)) (ckd h s (cTo h p u))
  else if hI h (5, p, 0) 0 = 3 then (if u = 0 then zjoi g0 g1 (hI h (5, p, 0) 3) else cqu g0 (hI h (5, p, 0) 3))
  else if hI h (5, p, 0) 0 = 4 then (if u = 0 then cqu g0 (hI h (5, p, 0) 3) else zjoi g0 g1 (hI h (5, p, 0) 3))
  else if hI h (5, p, 0) 0 = 6 then g0 else -1
def ctA1 (h : AH) (p : Nat) (u g0 : Int) : Int :=
  if (hI h (5, p, 0) 0 = 3 ∧ ¬ u = 0) ∨ (hI h (5, p, 0) 0 = 4 ∧ u = 0) then crm g0 (hI h (5, p, 0) 3) else -1
set_option maxHeartbeats 2000000 in
theorem kX4_tellAlone {p i j : Nat} {u g0 g1 : Int} (W : SchW h s) (B : SB h s) (P : StpW h p) (hi : 7 ≤ i ∧ i ≤ 10) (hj : 7 ≤ j ∧ j ≤ 10) (hij : ¬ i = j) (hu : u = 0 ∨ u = 1) (ti : hT h (4, s, i) = some (20, 2)) (tj : hT h (4, s, j) = some (20, 2)) (eg0 : hI h (4, s, i) 0 = g0) (eg1 : hI h (4, s, i) 1 = g1)
    (k : Q (w2 h (4, s, j) (ctA0 h s p u g0 g1) (ctA1 h p u g0)) (.inl none)) : AC mX4_tellAlone fX4_tellAlone loX4_tellAlone 0 0 h [vr (4, s, 0), vr (5, p, 0), vi u, vr (4, s, i), vr (4, s, j)] Q := by
  have nij : Nat.beq i j = false := beq_ne hij
  have B2 : SB (sI (sI h (4, s, j) (Int.toNat 0) (-1)) (4, s, j) (Int.toNat 1) (-1)) s := SB_w (by omega) (SB_w (by omega) B)
  refine AC.mk (by decide) (Nat.le_of_ble_eq_true rfl) ?_
  refine AW.iload_n dX4_tellAlone_0 rfl ?_
  refine' AW.if_eqJ 19 (tgt := 13) dX4_tellAlone_1 rfl _ _ _
  rotate_left 2
  · intro c_1 k_1
    refine AW.aload_n dX4_tellAlone_13 rfl ?_
    refine AW.getRE (j := 2) P.o dX4_tellAlone_14 lkX4_139 rfl rfl inC7 rfl P.r2 ?_
    refine AW.iconst dX4_tellAlone_17 (by decide) ?_
    refine AW.aldIE dX4_tellAlone_18 P.t2 (by decide) (by decide) rfl ?_
    exact k_1
  · intro c_1 k_1
    refine AW.aload_n dX4_tellAlone_4 rfl ?_
    refine AW.getRE (j := 1) P.o dX4_tellAlone_5 lkX4_136 rfl rfl inC7 rfl P.r1 ?_
    refine AW.iconst dX4_tellAlone_8 (by decide) ?_
    refine AW.aldIE dX4_tellAlone_9 P.t1 (by decide) (by decide) rfl ?_
    refine AW.goto (tgt := 19) dX4_tellAlone_10 rfl ?_
    exact k_1
  refine AW.top (y := cfro h p u) (by unfold cfro; (repeat' split) <;> first | rfl | omega) ?_
  refine AW.istore dX4_tellAlone_19 rfl ?_
  refine AW.iload_n dX4_tellAlone_21 rfl ?_
  refine' AW.if_eqJ 40 (tgt := 34) dX4_tellAlone_22 rfl _ _ _
  rotate_left 2
  · intro c_22 k_22
    refine AW.aload_n dX4_tellAlone_34 rfl ?_
    refine AW.getRE (j := 1) P.o dX4_tellAlone_35 lkX4_136 rfl rfl inC7 rfl P.r1 ?_
    refine AW.iconst dX4_tellAlone_38 (by decide) ?_
    refine AW.aldIE dX4_tellAlone_39 P.t1 (by decide) (by decide) rfl ?_
    exact k_22
  · intro c_22 k_22
    refine AW.aload_n dX4_tellAlone_25 rfl ?_
    refine AW.getRE (j := 2) P.o dX4_tellAlone_26 lkX4_139 rfl rfl inC7 rfl P.r2 ?_
    refine AW.iconst dX4_tellAlone_29 (by decide) ?_
    refine AW.aldIE dX4_tellAlone_30 P.t2 (by decide) (by decide) rfl ?_
    refine AW.goto (tgt := 40) dX4_tellAlone_31 rfl ?_
    exact k_22
  refine AW.top (y := cTo h p u) (by unfold cTo; (repeat' split) <;> first | rfl | omega) ?_
  refine AW.istore dX4_tellAlone_40 rfl ?_
  refine AW.aload dX4_tellAlone_42 rfl ?_
  refine AW.iconst dX4_tellAlone_44 (by decide) ?_
  refine AW.iconst dX4_tellAlone_45 (by decide) ?_
  refine AW.astI dX4_tellAlone_46 tj (by decide) (by decide) ?_
  refine AW.aload dX4_tellAlone_47 rfl ?_
  refine AW.iconst dX4_tellAlone_49 (by decide) ?_
  refine AW.iconst dX4_tellAlone_50 (by decide) ?_
  refine AW.astI dX4_tellAlone_51 tj (by decide) (by decide) ?_
  refine AW.aload_n dX4_tellAlone_52 rfl ?_
  refine AW.getIE (j := 0) P.o dX4_tellAlone_53 lkX4_133 rfl rfl inC7 rfl (by (repeat first | apply hI_n1 rfl | apply hI_n3 rfl | apply hI_e (by omega) | apply hI_m (by omega)); exact rfl) ?_
  refine AW.tsw [100, 224, 121, 146, 146, 224, 214] (td := 224) dX4_tellAlone_56 rfl rfl rfl ?_ (fun c_56 => ?_)
  · dsimp only [swAll]
    refine ⟨fun c_56 => ?_, fun c_56 => ?_, fun c_56 => ?_, fun c_56 => ?_, fun c_56 => ?_, fun c_56 => ?_, fun c_56 => ?_, trivial⟩
    · refine AW.aload dX4_tellAlone_100 rfl ?_
      refine AW.iconst dX4_tellAlone_102 (by decide) ?_
      refine AW.iload_n dX4_tellAlone_103 rfl ?_
      refine AW.if_eq (tgt := 116) dX4_tellAlone_104 rfl (fun c_104 => ?_) (fun c_104 => ?_)
      · refine AW.iconst dX4_tellAlone_116 (by decide) ?_
        refine AW.astI dX4_tellAlone_117 tj (by decide) (by decide) ?_
        refine AW.goto (tgt := 224) dX4_tellAlone_118 rfl ?_
        refine AW.vret dX4_tellAlone_224 rfl ?_
        refine fin0 k ?_
        first | refine sI4.trans (congr (congrArg (w2 h (4, s, j)) ?_) ?_) | refine sI3.trans (congr (congrArg (w2 h (4, s, j)) ?_) ?_) | (show w2 h (4, s, j) (-1) (-1) = _; refine congr (congrArg (w2 h (4, s, j)) ?_) ?_)
        · clear k; unfold ctA0; (repeat' split) <;> first | rfl | omega
        · clear k; unfold ctA1; (repeat' split) <;> first | rfl | omega
      · refine AW.aload_n dX4_tellAlone_107 rfl ?_
        refine AW.iload dX4_tellAlone_108 rfl ?_
        refine AW.callV (as := [vi _]) dX4_tellAlone_110 rfl rfl rfl okX4_defaultOf lkX4_176 W.o rfl rfl rfl rfl rfl rfl rfl (kX4_defaultOf W B2 (AW.k1 ?_))
        refine AW.top (y := cdf h s (cTo h p u)) ((cdf_w (by omega)).trans (cdf_w (by omega))) ?_
        refine AW.goto (tgt := 117) dX4_tellAlone_113 rfl ?_
        refine AW.astI dX4_tellAlone_117 tj (by decide) (by decide) ?_
        refine AW.goto (tgt := 224) dX4_tellAlone_118 rfl ?_
        refine AW.vret dX4_tellAlone_224 rfl ?_
        refine fin0 k ?_
        first | refine sI4.trans (congr (congrArg (w2 h (4, s, j)) ?_) ?_) | refine sI3.trans (congr (congrArg (w2 h (4, s, j)) ?_) ?_) | (show w2 h (4, s, j) (-1) (-1) = _; refine congr (congrArg (w2 h (4, s, j)) ?_) ?_)
        · clear k; unfold ctA0; (repeat' split) <;> first | rfl | omega
        · clear k; unfold ctA1; (repeat' split) <;> first | rfl | omega
    · refine AW.vret dX4_tellAlone_224 rfl ?_
      refine fin0 k ?_
      first | refine sI4.trans (congr (congrArg (w2 h (4, s, j)) ?_) ?_) | refine sI3.trans (congr (congrArg (w2 h (4, s, j)) ?_) ?_) | (show w2 h (4, s, j) (-1) (-1) = _; refine congr (congrArg (w2 h (4, s, j)) ?_) ?_)
      · clear k; unfold ctA0; (repeat' split) <;> first | rfl | omega
      · clear k; unfold ctA1; (repeat' split) <;> first | rfl | omega
    · refine AW.aload dX4_tellAlone_121 rfl ?_
      refine AW.iconst dX4_tellAlone_123 (by decide) ?_
      refine AW.aload_n dX4_tellAlone_124 rfl ?_
      refine AW.iconst dX4_tellAlone_125 (by decide) ?_
      refine AW.aldIE dX4_tellAlone_126 ti (by decide) (by decide) (by first | exact hI_n3 nij (hI_n3 nij eg0) | exact hI_n3 nij (hI_n3 nij (hI_n3 nij eg0))) ?_
      refine AW.aload_n dX4_tellAlone_127 rfl ?_
      refine AW.iload dX4_tellAlone_128 rfl ?_
      refine AW.callV (as := [vi _]) dX4_tellAlone_130 rfl rfl rfl okX4_kindOf lkX4_73 W.o rfl rfl rfl rfl rfl rfl rfl (kX4_kindOf W B2 (AW.k1 ?_))
      refine AW.top (y := ckd h s (cfro h p u)) ((ckd_w (by omega)).trans (ckd_w (by omega))) ?_
      refine AW.aload_n dX4_tellAlone_133 rfl ?_
      refine AW.iload dX4_tellAlone_134 rfl ?_
      refine AW.callV (as := [vi _]) dX4_tellAlone_136 rfl rfl rfl okX4_kindOf lkX4_73 W.o rfl rfl rfl rfl rfl rfl rfl (kX4_kindOf W B2 (AW.k1 ?_))
      refine AW.top (y := ckd h s (cTo h p u)) ((ckd_w (by omega)).trans (ckd_w (by omega))) ?_
      refine AW.callSN (as := [vi _, vi _, vi _]) dX4_tellAlone_139 rfl rfl rfl okX7_turned lkX4_179 rfl rfl rfl rfl rfl (kX7_turned' (AW.k1 ?_))
      refine AW.astI dX4_tellAlone_142 tj (by decide) (by decide) ?_
      refine AW.goto (tgt := 224) dX4_tellAlone_143 rfl ?_
      refine AW.vret dX4_tellAlone_224 rfl ?_
      refine fin0 k ?_
      first | refine sI4.trans (congr (congrArg (w2 h (4, s, j)) ?_) ?_) | refine sI3.trans (congr (congrArg (w2 h (4, s, j)) ?_) ?_) | (show w2 h (4, s, j) (-1) (-1) = _; refine congr (congrArg (w2 h (4, s, j)) ?_) ?_)
      · clear k; unfold ctA0; (repeat' split) <;> first | rfl | omega
      · clear k; unfold ctA1; (repeat' split) <;> first | rfl | omega
    · refine AW.iload_n dX4_tellAlone_146 rfl ?_
      refine AW.aload_n dX4_tellAlone_147 rfl ?_
      refine AW.getIE (j := 0) P.o dX4_tellAlone_148 lkX4_133 rfl rfl inC7 rfl (by (repeat first | apply hI_n1 rfl | apply hI_n3 rfl | apply hI_e (by omega) | apply hI_m (by omega)); exact rfl) ?_
      refine AW.iconst dX4_tellAlone_151 (by decide) ?_
      refine AW.icmp_ne (tgt := 159) dX4_tellAlone_152 rfl (fun c_152 => ?_) (fun c_152 => ?_)
      · refine AW.iconst dX4_tellAlone_159 (by decide) ?_
        refine AW.icmp_ne (tgt := 194) dX4_tellAlone_160 rfl (fun c_160 => ?_) (fun c_160 => ?_)
        · refine AW.aload dX4_tellAlone_194 rfl ?_
          refine AW.iconst dX4_tellAlone_196 (by decide) ?_
          refine AW.aload_n dX4_tellAlone_197 rfl ?_
          refine AW.iconst dX4_tellAlone_198 (by decide) ?_
          refine AW.aldIE dX4_tellAlone_199 ti (by decide) (by decide) (by first | exact hI_n3 nij (hI_n3 nij eg0) | exact hI_n3 nij (hI_n3 nij (hI_n3 nij eg0))) ?_
          refine AW.aload_n dX4_tellAlone_200 rfl ?_
          refine AW.iconst dX4_tellAlone_201 (by decide) ?_
          refine AW.aldIE dX4_tellAlone_202 ti (by decide) (by decide) (by exact hI_n3 nij (hI_n3 nij eg1)) ?_
          refine AW.aload_n dX4_tellAlone_203 rfl ?_
          refine AW.getIE (j := 3) P.o dX4_tellAlone_204 lkX4_183 rfl rfl inC7 rfl (by (repeat first | apply hI_n1 rfl | apply hI_n3 rfl | apply hI_e (by omega) | apply hI_m (by omega)); exact rfl) ?_
          refine AW.callSN (as := [vi _, vi _, vi _]) dX4_tellAlone_207 rfl rfl rfl okX7_combined lkX4_192 rfl rfl rfl rfl rfl (kX7_combined  (AW.k1 ?_))
          refine AW.astI dX4_tellAlone_210 tj (by decide) (by decide) ?_
          refine AW.goto (tgt := 224) dX4_tellAlone_211 rfl ?_
          refine AW.vret dX4_tellAlone_224 rfl ?_
          refine fin0 k ?_
          first | refine sI4.trans (congr (congrArg (w2 h (4, s, j)) ?_) ?_) | refine sI3.trans (congr (congrArg (w2 h (4, s, j)) ?_) ?_) | (show w2 h (4, s, j) (-1) (-1) = _; refine congr (congrArg (w2 h (4, s, j)) ?_) ?_)
          · clear k; unfold ctA0; (repeat' split) <;> first | rfl | omega
          · clear k; unfold ctA1; (repeat' split) <;> first | rfl | omega
        · refine AW.aload dX4_tellAlone_163 rfl ?_
          refine AW.iconst dX4_tellAlone_165 (by decide) ?_
          refine AW.aload_n dX4_tellAlone_166 rfl ?_
          refine AW.iconst dX4_tellAlone_167 (by decide) ?_
          refine AW.aldIE dX4_tellAlone_168 ti (by decide) (by decide) (by first | exact hI_n3 nij (hI_n3 nij eg0) | exact hI_n3 nij (hI_n3 nij (hI_n3 nij eg0))) ?_
          refine AW.aload_n dX4_tellAlone_169 rfl ?_
          refine AW.getIE (j := 3) P.o dX4_tellAlone_170 lkX4_183 rfl rfl inC7 rfl (by (repeat first | apply hI_n1 rfl | apply hI_n3 rfl | apply hI_e (by omega) | apply hI_m (by omega)); exact rfl) ?_
          refine AW.callSN (as := [vi _, vi _]) dX4_tellAlone_173 rfl rfl rfl okX7_quotient lkX4_186 rfl rfl rfl rfl rfl (kX7_quotient  (AW.k1 ?_))
          refine AW.astI dX4_tellAlone_176 tj (by decide) (by decide) ?_
          refine AW.aload dX4_tellAlone_177 rfl ?_
          refine AW.iconst dX4_tellAlone_179 (by decide) ?_
          refine AW.aload_n dX4_tellAlone_180 rfl ?_
          refine AW.iconst dX4_tellAlone_181 (by decide) ?_
          refine AW.aldIE dX4_tellAlone_182 ti (by decide) (by decide) (by first | exact hI_n3 nij (hI_n3 nij eg0) | exact hI_n3 nij (hI_n3 nij (hI_n3 nij eg0))) ?_
          refine AW.aload_n dX4_tellAlone_183 rfl ?_
          refine AW.getIE (j := 3) P.o dX4_tellAlone_184 lkX4_183 rfl rfl inC7 rfl (by (repeat first | apply hI_n1 rfl | apply hI_n3 rfl | apply hI_e (by omega) | apply hI_m (by omega)); exact rfl) ?_
          refine AW.callSN (as := [vi _, vi _]) dX4_tellAlone_187 rfl rfl rfl okX7_remainder lkX4_189 rfl rfl rfl rfl rfl (kX7_remainder  (AW.k1 ?_))
          refine AW.astI dX4_tellAlone_190 tj (by decide) (by decide) ?_
          refine AW.goto (tgt := 224) dX4_tellAlone_191 rfl ?_
          refine AW.vret dX4_tellAlone_224 rfl ?_
          refine fin0 k ?_
          first | refine sI4.trans (congr (congrArg (w2 h (4, s, j)) ?_) ?_) | refine sI3.trans (congr (congrArg (w2 h (4, s, j)) ?_) ?_) | (show w2 h (4, s, j) (-1) (-1) = _; refine congr (congrArg (w2 h (4, s, j)) ?_) ?_)
          · clear k; unfold ctA0; (repeat' split) <;> first | rfl | omega
          · clear k; unfold ctA1; (repeat' split) <;> first | rfl | omega
      · refine AW.iconst dX4_tellAlone_155 (by decide) ?_
        refine AW.goto (tgt := 160) dX4_tellAlone_156 rfl ?_
        refine AW.icmp_ne (tgt := 194) dX4_tellAlone_160 rfl (fun c_160 => ?_) (fun c_160 => ?_)
        · refine AW.aload dX4_tellAlone_194 rfl ?_
          refine AW.iconst dX4_tellAlone_196 (by decide) ?_
          refine AW.aload_n dX4_tellAlone_197 rfl ?_
          refine AW.iconst dX4_tellAlone_198 (by decide) ?_
          refine AW.aldIE dX4_tellAlone_199 ti (by decide) (by decide) (by first | exact hI_n3 nij (hI_n3 nij eg0) | exact hI_n3 nij (hI_n3 nij (hI_n3 nij eg0))) ?_
          refine AW.aload_n dX4_tellAlone_200 rfl ?_
          refine AW.iconst dX4_tellAlone_201 (by decide) ?_
          refine AW.aldIE dX4_tellAlone_202 ti (by decide) (by decide) (by exact hI_n3 nij (hI_n3 nij eg1)) ?_
          refine AW.aload_n dX4_tellAlone_203 rfl ?_
          refine AW.getIE (j := 3) P.o dX4_tellAlone_204 lkX4_183 rfl rfl inC7 rfl (by (repeat first | apply hI_n1 rfl | apply hI_n3 rfl | apply hI_e (by omega) | apply hI_m (by omega)); exact rfl) ?_
          refine AW.callSN (as := [vi _, vi _, vi _]) dX4_tellAlone_207 rfl rfl rfl okX7_combined lkX4_192 rfl rfl rfl rfl rfl (kX7_combined  (AW.k1 ?_))
          refine AW.astI dX4_tellAlone_210 tj (by decide) (by decide) ?_
          refine AW.goto (tgt := 224) dX4_tellAlone_211 rfl ?_
          refine AW.vret dX4_tellAlone_224 rfl ?_
          refine fin0 k ?_
          first | refine sI4.trans (congr (congrArg (w2 h (4, s, j)) ?_) ?_) | refine sI3.trans (congr (congrArg (w2 h (4, s, j)) ?_) ?_) | (show w2 h (4, s, j) (-1) (-1) = _; refine congr (congrArg (w2 h (4, s, j)) ?_) ?_)
          · clear k; unfold ctA0; (repeat' split) <;> first | rfl | omega
          · clear k; unfold ctA1; (repeat' split) <;> first | rfl | omega
        · refine AW.aload dX4_tellAlone_163 rfl ?_
          refine AW.iconst dX4_tellAlone_165 (by decide) ?_
          refine AW.aload_n dX4_tellAlone_166 rfl ?_
          refine AW.iconst dX4_tellAlone_167 (by decide) ?_
          refine AW.aldIE dX4_tellAlone_168 ti (by decide) (by decide) (by first | exact hI_n3 nij (hI_n3 nij eg0) | exact hI_n3 nij (hI_n3 nij (hI_n3 nij eg0))) ?_
          refine AW.aload_n dX4_tellAlone_169 rfl ?_
          refine AW.getIE (j := 3) P.o dX4_tellAlone_170 lkX4_183 rfl rfl inC7 rfl (by (repeat first | apply hI_n1 rfl | apply hI_n3 rfl | apply hI_e (by omega) | apply hI_m (by omega)); exact rfl) ?_
          refine AW.callSN (as := [vi _, vi _]) dX4_tellAlone_173 rfl rfl rfl okX7_quotient lkX4_186 rfl rfl rfl rfl rfl (kX7_quotient  (AW.k1 ?_))
          refine AW.astI dX4_tellAlone_176 tj (by decide) (by decide) ?_
          refine AW.aload dX4_tellAlone_177 rfl ?_
          refine AW.iconst dX4_tellAlone_179 (by decide) ?_
          refine AW.aload_n dX4_tellAlone_180 rfl ?_
          refine AW.iconst dX4_tellAlone_181 (by decide) ?_
          refine AW.aldIE dX4_tellAlone_182 ti (by decide) (by decide) (by first | exact hI_n3 nij (hI_n3 nij eg0) | exact hI_n3 nij (hI_n3 nij (hI_n3 nij eg0))) ?_
          refine AW.aload_n dX4_tellAlone_183 rfl ?_
          refine AW.getIE (j := 3) P.o dX4_tellAlone_184 lkX4_183 rfl rfl inC7 rfl (by (repeat first | apply hI_n1 rfl | apply hI_n3 rfl | apply hI_e (by omega) | apply hI_m (by omega)); exact rfl) ?_
          refine AW.callSN (as := [vi _, vi _]) dX4_tellAlone_187 rfl rfl rfl okX7_remainder lkX4_189 rfl rfl rfl rfl rfl (kX7_remainder  (AW.k1 ?_))
          refine AW.astI dX4_tellAlone_190 tj (by decide) (by decide) ?_
          refine AW.goto (tgt := 224) dX4_tellAlone_191 rfl ?_
          refine AW.vret dX4_tellAlone_224 rfl ?_
          refine fin0 k ?_
          first | refine sI4.trans (congr (congrArg (w2 h (4, s, j)) ?_) ?_) | refine sI3.trans (congr (congrArg (w2 h (4, s, j)) ?_) ?_) | (show w2 h (4, s, j) (-1) (-1) = _; refine congr (congrArg (w2 h (4, s, j)) ?_) ?_)
          · clear k; unfold ctA0; (repeat' split) <;> first | rfl | omega
          · clear k; unfold ctA1; (repeat' split) <;> first | rfl | omega
    · refine AW.iload_n dX4_tellAlone_146 rfl ?_
      refine AW.aload_n dX4_tellAlone_147 rfl ?_
      refine AW.getIE (j := 0) P.o dX4_tellAlone_148 lkX4_133 rfl rfl inC7 rfl (by (repeat first | apply hI_n1 rfl | apply hI_n3 rfl | apply hI_e (by omega) | apply hI_m (by omega)); exact rfl) ?_
      refine AW.iconst dX4_tellAlone_151 (by decide) ?_
      refine AW.icmp_ne (tgt := 159) dX4_tellAlone_152 rfl (fun c_152 => ?_) (fun c_152 => ?_)
      · refine AW.iconst dX4_tellAlone_159 (by decide) ?_
        refine AW.icmp_ne (tgt := 194) dX4_tellAlone_160 rfl (fun c_160 => ?_) (fun c_160 => ?_)
        · refine AW.aload dX4_tellAlone_194 rfl ?_
          refine AW.iconst dX4_tellAlone_196 (by decide) ?_
          refine AW.aload_n dX4_tellAlone_197 rfl ?_
          refine AW.iconst dX4_tellAlone_198 (by decide) ?_
          refine AW.aldIE dX4_tellAlone_199 ti (by decide) (by decide) (by first | exact hI_n3 nij (hI_n3 nij eg0) | exact hI_n3 nij (hI_n3 nij (hI_n3 nij eg0))) ?_
          refine AW.aload_n dX4_tellAlone_200 rfl ?_
          refine AW.iconst dX4_tellAlone_201 (by decide) ?_
          refine AW.aldIE dX4_tellAlone_202 ti (by decide) (by decide) (by exact hI_n3 nij (hI_n3 nij eg1)) ?_
          refine AW.aload_n dX4_tellAlone_203 rfl ?_
          refine AW.getIE (j := 3) P.o dX4_tellAlone_204 lkX4_183 rfl rfl inC7 rfl (by (repeat first | apply hI_n1 rfl | apply hI_n3 rfl | apply hI_e (by omega) | apply hI_m (by omega)); exact rfl) ?_
          refine AW.callSN (as := [vi _, vi _, vi _]) dX4_tellAlone_207 rfl rfl rfl okX7_combined lkX4_192 rfl rfl rfl rfl rfl (kX7_combined  (AW.k1 ?_))
          refine AW.astI dX4_tellAlone_210 tj (by decide) (by decide) ?_
          refine AW.goto (tgt := 224) dX4_tellAlone_211 rfl ?_
          refine AW.vret dX4_tellAlone_224 rfl ?_
          refine fin0 k ?_
          first | refine sI4.trans (congr (congrArg (w2 h (4, s, j)) ?_) ?_) | refine sI3.trans (congr (congrArg (w2 h (4, s, j)) ?_) ?_) | (show w2 h (4, s, j) (-1) (-1) = _; refine congr (congrArg (w2 h (4, s, j)) ?_) ?_)
          · clear k; unfold ctA0; (repeat' split) <;> first | rfl | omega
          · clear k; unfold ctA1; (repeat' split) <;> first | rfl | omega
        · refine AW.aload dX4_tellAlone_163 rfl ?_
          refine AW.iconst dX4_tellAlone_165 (by decide) ?_
          refine AW.aload_n dX4_tellAlone_166 rfl ?_
          refine AW.iconst dX4_tellAlone_167 (by decide) ?_
          refine AW.aldIE dX4_tellAlone_168 ti (by decide) (by decide) (by first | exact hI_n3 nij (hI_n3 nij eg0) | exact hI_n3 nij (hI_n3 nij (hI_n3 nij eg0))) ?_
          refine AW.aload_n dX4_tellAlone_169 rfl ?_
          refine AW.getIE (j := 3) P.o dX4_tellAlone_170 lkX4_183 rfl rfl inC7 rfl (by (repeat first | apply hI_n1 rfl | apply hI_n3 rfl | apply hI_e (by omega) | apply hI_m (by omega)); exact rfl) ?_
          refine AW.callSN (as := [vi _, vi _]) dX4_tellAlone_173 rfl rfl rfl okX7_quotient lkX4_186 rfl rfl rfl rfl rfl (kX7_quotient  (AW.k1 ?_))
          refine AW.astI dX4_tellAlone_176 tj (by decide) (by decide) ?_
          refine AW.aload dX4_tellAlone_177 rfl ?_
          refine AW.iconst dX4_tellAlone_179 (by decide) ?_
          refine AW.aload_n dX4_tellAlone_180 rfl ?_
          refine AW.iconst dX4_tellAlone_181 (by decide) ?_
          refine AW.aldIE dX4_tellAlone_182 ti (by decide) (by decide) (by first | exact hI_n3 nij (hI_n3 nij eg0) | exact hI_n3 nij (hI_n3 nij (hI_n3 nij eg0))) ?_
          refine AW.aload_n dX4_tellAlone_183 rfl ?_
          refine AW.getIE (j := 3) P.o dX4_tellAlone_184 lkX4_183 rfl rfl inC7 rfl (by (repeat first | apply hI_n1 rfl | apply hI_n3 rfl | apply hI_e (by omega) | apply hI_m (by omega)); exact rfl) ?_
          refine AW.callSN (as := [vi _, vi _]) dX4_tellAlone_187 rfl rfl rfl okX7_remainder lkX4_189 rfl rfl rfl rfl rfl (kX7_remainder  (AW.k1 ?_))
          refine AW.astI dX4_tellAlone_190 tj (by decide) (by decide) ?_
          refine AW.goto (tgt := 224) dX4_tellAlone_191 rfl ?_
          refine AW.vret dX4_tellAlone_224 rfl ?_
          refine fin0 k ?_
          first | refine sI4.trans (congr (congrArg (w2 h (4, s, j)) ?_) ?_) | refine sI3.trans (congr (congrArg (w2 h (4, s, j)) ?_) ?_) | (show w2 h (4, s, j) (-1) (-1) = _; refine congr (congrArg (w2 h (4, s, j)) ?_) ?_)
          · clear k; unfold ctA0; (repeat' split) <;> first | rfl | omega
          · clear k; unfold ctA1; (repeat' split) <;> first | rfl | omega
      · refine AW.iconst dX4_tellAlone_155 (by decide) ?_
        refine AW.goto (tgt := 160) dX4_tellAlone_156 rfl ?_
        refine AW.icmp_ne (tgt := 194) dX4_tellAlone_160 rfl (fun c_160 => ?_) (fun c_160 => ?_)
        · refine AW.aload dX4_tellAlone_194 rfl ?_
          refine AW.iconst dX4_tellAlone_196 (by decide) ?_
          refine AW.aload_n dX4_tellAlone_197 rfl ?_
          refine AW.iconst dX4_tellAlone_198 (by decide) ?_
          refine AW.aldIE dX4_tellAlone_199 ti (by decide) (by decide) (by first | exact hI_n3 nij (hI_n3 nij eg0) | exact hI_n3 nij (hI_n3 nij (hI_n3 nij eg0))) ?_
          refine AW.aload_n dX4_tellAlone_200 rfl ?_
          refine AW.iconst dX4_tellAlone_201 (by decide) ?_
          refine AW.aldIE dX4_tellAlone_202 ti (by decide) (by decide) (by exact hI_n3 nij (hI_n3 nij eg1)) ?_
          refine AW.aload_n dX4_tellAlone_203 rfl ?_
          refine AW.getIE (j := 3) P.o dX4_tellAlone_204 lkX4_183 rfl rfl inC7 rfl (by (repeat first | apply hI_n1 rfl | apply hI_n3 rfl | apply hI_e (by omega) | apply hI_m (by omega)); exact rfl) ?_
          refine AW.callSN (as := [vi _, vi _, vi _]) dX4_tellAlone_207 rfl rfl rfl okX7_combined lkX4_192 rfl rfl rfl rfl rfl (kX7_combined  (AW.k1 ?_))
          refine AW.astI dX4_tellAlone_210 tj (by decide) (by decide) ?_
          refine AW.goto (tgt := 224) dX4_tellAlone_211 rfl ?_
          refine AW.vret dX4_tellAlone_224 rfl ?_
          refine fin0 k ?_
          first | refine sI4.trans (congr (congrArg (w2 h (4, s, j)) ?_) ?_) | refine sI3.trans (congr (congrArg (w2 h (4, s, j)) ?_) ?_) | (show w2 h (4, s, j) (-1) (-1) = _; refine congr (congrArg (w2 h (4, s, j)) ?_) ?_)
          · clear k; unfold ctA0; (repeat' split) <;> first | rfl | omega
          · clear k; unfold ctA1; (repeat' split) <;> first | rfl | omega
        · refine AW.aload dX4_tellAlone_163 rfl ?_
          refine AW.iconst dX4_tellAlone_165 (by decide) ?_
          refine AW.aload_n dX4_tellAlone_166 rfl ?_
          refine AW.iconst dX4_tellAlone_167 (by decide) ?_
          refine AW.aldIE dX4_tellAlone_168 ti (by decide) (by decide) (by first | exact hI_n3 nij (hI_n3 nij eg0) | exact hI_n3 nij (hI_n3 nij (hI_n3 nij eg0))) ?_
          refine AW.aload_n dX4_tellAlone_169 rfl ?_
          refine AW.getIE (j := 3) P.o dX4_tellAlone_170 lkX4_183 rfl rfl inC7 rfl (by (repeat first | apply hI_n1 rfl | apply hI_n3 rfl | apply hI_e (by omega) | apply hI_m (by omega)); exact rfl) ?_
          refine AW.callSN (as := [vi _, vi _]) dX4_tellAlone_173 rfl rfl rfl okX7_quotient lkX4_186 rfl rfl rfl rfl rfl (kX7_quotient  (AW.k1 ?_))
          refine AW.astI dX4_tellAlone_176 tj (by decide) (by decide) ?_
          refine AW.aload dX4_tellAlone_177 rfl ?_
          refine AW.iconst dX4_tellAlone_179 (by decide) ?_
          refine AW.aload_n dX4_tellAlone_180 rfl ?_
          refine AW.iconst dX4_tellAlone_181 (by decide) ?_
          refine AW.aldIE dX4_tellAlone_182 ti (by decide) (by decide) (by first | exact hI_n3 nij (hI_n3 nij eg0) | exact hI_n3 nij (hI_n3 nij (hI_n3 nij eg0))) ?_
          refine AW.aload_n dX4_tellAlone_183 rfl ?_
          refine AW.getIE (j := 3) P.o dX4_tellAlone_184 lkX4_183 rfl rfl inC7 rfl (by (repeat first | apply hI_n1 rfl | apply hI_n3 rfl | apply hI_e (by omega) | apply hI_m (by omega)); exact rfl) ?_
          refine AW.callSN (as := [vi _, vi _]) dX4_tellAlone_187 rfl rfl rfl okX7_remainder lkX4_189 rfl rfl rfl rfl rfl (kX7_remainder  (AW.k1 ?_))
          refine AW.astI dX4_tellAlone_190 tj (by decide) (by decide) ?_
          refine AW.goto (tgt := 224) dX4_tellAlone_191 rfl ?_
          refine AW.vret dX4_tellAlone_224 rfl ?_
          refine fin0 k ?_
          first | refine sI4.trans (congr (congrArg (w2 h (4, s, j)) ?_) ?_) | refine sI3.trans (congr (congrArg (w2 h (4, s, j)) ?_) ?_) | (show w2 h (4, s, j) (-1) (-1) = _; refine congr (congrArg (w2 h (4, s, j)) ?_) ?_)
          · clear k; unfold ctA0; (repeat' split) <;> first | rfl | omega
          · clear k; unfold ctA1; (repeat' split) <;> first | rfl | omega
    · refine AW.vret dX4_tellAlone_224 rfl ?_
      refine fin0 k ?_
      first | refine sI4.trans (congr (congrArg (w2 h (4, s, j)) ?_) ?_) | refine sI3.trans (congr (congrArg (w2 h (4, s, j)) ?_) ?_) | (show w2 h (4, s, j) (-1) (-1) = _; refine congr (congrArg (w2 h (4, s, j)) ?_) ?_)
      · clear k; unfold ctA0; (repeat' split) <;> first | rfl | omega
      · clear k; unfold ctA1; (repeat' split) <;> first | rfl | omega
    · refine AW.aload dX4_tellAlone_214 rfl ?_
      refine AW.iconst dX4_tellAlone_216 (by decide) ?_
      refine AW.aload_n dX4_tellAlone_217 rfl ?_
      refine AW.iconst dX4_tellAlone_218 (by decide) ?_
      refine AW.aldIE dX4_tellAlone_219 ti (by decide) (by decide) (by first | exact hI_n3 nij (hI_n3 nij eg0) | exact hI_n3 nij (hI_n3 nij (hI_n3 nij eg0))) ?_
      refine AW.astI dX4_tellAlone_220 tj (by decide) (by decide) ?_
      refine AW.goto (tgt := 224) dX4_tellAlone_221 rfl ?_
      refine AW.vret dX4_tellAlone_224 rfl ?_
      refine fin0 k ?_
      first | refine sI4.trans (congr (congrArg (w2 h (4, s, j)) ?_) ?_) | refine sI3.trans (congr (congrArg (w2 h (4, s, j)) ?_) ?_) | (show w2 h (4, s, j) (-1) (-1) = _; refine congr (congrArg (w2 h (4, s, j)) ?_) ?_)
      · clear k; unfold ctA0; (repeat' split) <;> first | rfl | omega
      · clear k; unfold ctA1; (repeat' split) <;> first | rfl | omega
  · refine AW.vret dX4_tellAlone_224 rfl ?_
    refine fin0 k ?_
    first | refine sI4.trans (congr (congrArg (w2 h (4, s, j)) ?_) ?_) | refine sI3.trans (congr (congrArg (w2 h (4, s, j)) ?_) ?_) | (show w2 h (4, s, j) (-1) (-1) = _; refine congr (congrArg (w2 h (4, s, j)) ?_) ?_)
    · clear k; unfold ctA0; (repeat' split) <;> first | rfl | omega
    · clear k; unfold ctA1; (repeat' split) <;> first | rfl | omega
end C6
