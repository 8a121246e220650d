/-! ===== the model: text, and its start ===== -/
section M23
variable {Q : AH → AO → Prop} {h : AH} {Z : ZT}
theorem zsgn_rng (N : BN Z) {s a i : Int} : 0 ≤ zsgn Z s a i ∧ zsgn Z s a i ≤ 122 := by
  have n1 : ∀ q, 96 ≤ 97 + Z 5 q ∧ 97 + Z 5 q ≤ 122 := fun q => by have := N q; omega
  have l1 : ∀ w i, 0 ≤ zlet w i ∧ zlet w i ≤ 122 := by
    intro w i
    have a0 : 0 ≤ zl0 i ∧ zl0 i ≤ 122 := by unfold zl0; (repeat' split) <;> omega
    have a1 : 0 ≤ zl1 i ∧ zl1 i ≤ 122 := by unfold zl1; (repeat' split) <;> omega
    have a2 : 0 ≤ zl2 i ∧ zl2 i ≤ 122 := by unfold zl2; (repeat' split) <;> omega
    have a3 : 0 ≤ zl3 i ∧ zl3 i ≤ 122 := by unfold zl3; (repeat' split) <;> omega
    have a4 : 0 ≤ zl4 i ∧ zl4 i ≤ 122 := by unfold zl4; (repeat' split) <;> omega
    have a5 : 0 ≤ zl5 i ∧ zl5 i ≤ 122 := by unfold zl5; (repeat' split) <;> omega
    have a6 : 0 ≤ zl6 i ∧ zl6 i ≤ 122 := by unfold zl6; (repeat' split) <;> omega
    unfold zlet; (repeat' split) <;> assumption
  unfold zsgn zsg1 zsg2
  have l2 := l1 (Z 7 (24 * s + a).toNat) i
  (repeat' split) <;> first | omega | (have := n1 (48 * (24 * s + a) + zbe Z (24 * s + a) ((i - zlen (Z 7 (24 * s + a).toNat) - (2 * zfn Z (24 * s + a) + 1)).tdiv 2)).toNat; omega) | (have := n1 (48 * (24 * s + (a - 1)) + zfr Z (24 * s + a) ((i - zlen (Z 7 (24 * s + a).toNat)).tdiv 2)).toNat; omega)
def zcTxt (Z : ZT) (s a i : Int) : Int := bz (¬ (((0 ≤ s ∧ s < Z 0 0) ∧ 0 ≤ a ∧ a ≤ Z 1 s.toNat) ∧ 0 < a ∧ ¬ zsgn Z s a i = 0))
set_option maxHeartbeats 1000000 in
theorem kX8_text {s a i : Int} (W : WfM h) (B : BI Z) (N : BN Z) (T : ∀ s a : Int, 0 ≤ s → s < 4 → 1 ≤ a → a ≤ Z 1 s.toNat → stF Z (24 * s + a)) (kE : zcTxt Z s a i = 1 → Q (mput h (zs Z 48 0 1)) (.inl (some (vi 32)))) (kO : zcTxt Z s a i = 0 → Q (mput h (zs Z 48 0 0)) (.inl (some (vi (zsgn Z s a i))))) : AC mX8_text fX8_text loX8_text 0 0 (mput h Z) [vr mO, vi s, vi a, vi i] Q := by
  have B0 := B.1.1
  have rg := zsgn_rng N (s := s) (a := a) (i := i)
  refine AC.mk (by decide) (Nat.le_of_ble_eq_true rfl) ?_
  refine AW.aload_n dX8_text_0 rfl ?_
  refine AW.iload_n dX8_text_1 rfl ?_
  refine AW.iload_n dX8_text_2 rfl ?_
  refine AW.callV (as := [vi _, vi _]) dX8_text_3 rfl rfl rfl okX8_isVersion lkX8_219 W.1 rfl rfl rfl rfl rfl rfl rfl (kX8_isVersion W (by assumption) (AW.k1 ?_))
  refine' AW.if_eqJ 28 (tgt := 27) dX8_text_6 rfl _ _ _
  rotate_left 2
  · intro c_6 k_6
    refine AW.iconst dX8_text_27 (by decide) ?_
    exact k_6
  · intro c_6 k_6
    refine AW.iload_n dX8_text_9 rfl ?_
    refine' AW.if_leJ 28 (tgt := 27) dX8_text_10 rfl _ _ _
    rotate_left 2
    · intro c_10 k_10
      refine AW.iconst dX8_text_27 (by decide) ?_
      exact k_10
    · intro c_10 k_10
      have c := bz_n0.mp c_6
      have sb := B.1.2 s.toNat (by omega)
      refine AW.aload_n dX8_text_13 rfl ?_
      refine AW.iload_n dX8_text_14 rfl ?_
      refine AW.iload_n dX8_text_15 rfl ?_
      refine AW.iload_n dX8_text_16 rfl ?_
      refine AW.rng (fun hi => ?_)
      refine AW.callV (as := [vi _, vi _, vi _]) dX8_text_17 rfl rfl rfl okX8_sign lkX8_229 W.1 rfl rfl rfl rfl rfl rfl rfl (kX8_sign W B.2.2.1 N hi (by omega) (by omega) (T _ _ (by omega) (by omega) (by omega) (by omega)) (AW.k1 ?_))
      refine' AW.if_eqJ 28 (tgt := 27) dX8_text_20 rfl _ _ _
      rotate_left 2
      · intro c_20 k_20
        refine AW.iconst dX8_text_27 (by decide) ?_
        exact k_20
      · intro c_20 k_20
        refine AW.iconst dX8_text_23 (by decide) ?_
        refine AW.goto (tgt := 28) dX8_text_24 rfl ?_
        exact k_20
      exact k_10
    exact k_6
  refine AW.top (y := bz (((0 ≤ s ∧ s < Z 0 0) ∧ 0 ≤ a ∧ a ≤ Z 1 s.toNat) ∧ 0 < a ∧ ¬ zsgn Z s a i = 0)) (by simp only [bz_0]; unfold bz; (repeat' split) <;> first | rfl | grind) ?_
  refine AW.istore dX8_text_28 rfl ?_
  refine AW.aload_n dX8_text_30 rfl ?_
  refine AW.iload dX8_text_31 rfl ?_
  refine' AW.if_eqJ 41 (tgt := 40) dX8_text_33 rfl _ _ _
  rotate_left 2
  · intro c_33 k_33
    refine AW.iconst dX8_text_40 (by decide) ?_
    exact k_33
  · intro c_33 k_33
    refine AW.iconst dX8_text_36 (by decide) ?_
    refine AW.goto (tgt := 41) dX8_text_37 rfl ?_
    exact k_33
  refine AW.top (y := zcTxt Z s a i) (by unfold zcTxt; simp only [bz_0]; unfold bz; (repeat' split) <;> first | rfl | grind) ?_
  refine AW.callV (as := [vi _]) dX8_text_41 rfl rfl rfl okX8_fails lkX8_162 W.1 rfl rfl rfl rfl rfl rfl rfl (kX8_fails W (AW.k1 ?_))
  refine AW.if_eq (tgt := 52) dX8_text_44 rfl (fun c_44 => ?_) (fun c_44 => ?_)
  · have c := bz_0.mp c_44
    have e : zcTxt Z s a i = 0 := (bz01 _).resolve_right (by unfold zcTxt at c; omega)
    have e2 := e
    unfold zcTxt at e2
    rw [bz_0, Classical.not_not] at e2
    have sb := B.1.2 s.toNat (by omega)
    rw [e]
    refine AW.aload_n dX8_text_52 rfl ?_
    refine AW.iload_n dX8_text_53 rfl ?_
    refine AW.iload_n dX8_text_54 rfl ?_
    refine AW.iload_n dX8_text_55 rfl ?_
    refine AW.rng (fun hi => ?_)
    refine AW.callV (as := [vi _, vi _, vi _]) dX8_text_56 rfl rfl rfl okX8_sign lkX8_229 W.1 rfl rfl rfl rfl rfl rfl rfl (kX8_sign (Z := zs Z 48 0 0) W B.2.2.1 N hi (by omega) (by omega) (T _ _ (by omega) (by omega) (by omega) (by omega)) (AW.k1 ?_))
    refine AW.top (y := zsgn Z s a i) rfl ?_
    refine AW.i2c dX8_text_59 (by omega) ?_
    refine AW.cret dX8_text_60 rfl ?_ ?_
    · omega
    first | exact kE e | exact kO e
  · have c := bz_n0.mp c_44
    have e : zcTxt Z s a i = 1 := (bz01 _).resolve_left (by unfold zcTxt at c; omega)
    rw [e]
    refine AW.bipush dX8_text_47 bp_32 (by decide) ?_
    refine AW.goto (tgt := 60) dX8_text_49 rfl ?_
    refine AW.cret dX8_text_60 rfl ?_ ?_
    · omega
    first | exact kE e | exact kO e
/-- the heap while the model is made: the arrays of the fields under k are there -/
def iH (h : AH) (k : Nat) : AH := ((fun n => if n.1 = 2 ∧ n.2.2 = 0 ∧ n.2.1 < k ∧ isSc n.2.1 = false then some (mkd n.2.1, mlen n.2.1) else h.1 n), (fun n i => if n.1 = 2 ∧ n.2.2 = 0 ∧ n.2.1 < k ∧ isSc n.2.1 = false then 0 else h.2.1 n i), (fun n i => if n.1 = 2 ∧ n.2.2 = 0 ∧ n.2.1 < k ∧ isSc n.2.1 = false then 0 else h.2.2.1 n i),
  (fun n i => if n.1 = 2 ∧ n.2.2 = 0 ∧ n.2.1 < k ∧ isSc n.2.1 = false then none else if n = (1, 0, 0) ∧ i < k ∧ isSc i = false then some (2, i, 0) else h.2.2.2 n i))
theorem hT_iH {k : Nat} (n : Nm) : hT (iH h k) n = if n.1 = 2 ∧ n.2.2 = 0 ∧ n.2.1 < k ∧ isSc n.2.1 = false then some (mkd n.2.1, mlen n.2.1) else hT h n := rfl
theorem hI_iH {k : Nat} (n : Nm) (i : Nat) : hI (iH h k) n i = if n.1 = 2 ∧ n.2.2 = 0 ∧ n.2.1 < k ∧ isSc n.2.1 = false then 0 else hI h n i := rfl
theorem hR_iH {k : Nat} (n : Nm) (i : Nat) : hR (iH h k) n i = if n.1 = 2 ∧ n.2.2 = 0 ∧ n.2.1 < k ∧ isSc n.2.1 = false then none else if n = (1, 0, 0) ∧ i < k ∧ isSc i = false then some (2, i, 0) else hR h n i := rfl
theorem iH_0 : iH h 0 = h := by
  unfold iH
  refine Prod.ext (funext fun n => ?_) (Prod.ext (funext fun n => funext fun i => ?_) (Prod.ext (funext fun n => funext fun i => ?_) (funext fun n => funext fun i => ?_))) <;> simp
theorem iH_sc {j : Nat} (hj : isSc j = true) : iH h j = iH h (j + 1) := by
  have e : ∀ x : Nat, (x < j + 1 ∧ isSc x = false) ↔ (x < j ∧ isSc x = false) := by
    intro x
    constructor
    · rintro ⟨a, b⟩
      refine ⟨?_, b⟩
      rcases Nat.lt_succ_iff_lt_or_eq.mp a with q | q
      · exact q
      · subst q; rw [hj] at b; exact absurd b (by decide)
    · rintro ⟨a, b⟩; exact ⟨by omega, b⟩
  unfold iH
  simp only [e]
theorem iH_n {k : Nat} {n : Nm} (hN : ∀ j, hT h (2, j, 0) = none) (hj : (n.1 = 2 ∧ n.2.2 = 0 ∧ k ≤ n.2.1)) : hT (iH h k) n = none := by
  rw [hT_iH, if_neg (by omega)]
  rw [show n = (2, n.2.1, 0) from Prod.ext hj.1 (Prod.ext rfl hj.2.1)]
  exact hN _
theorem iH_o {k a b c : Nat} (hT0 : hT h (1, 0, 0) = some (9, 0)) : hT (aN (iH h k) (2, a, 0) b c) (1, 0, 0) = some (9, 0) := by
  rw [hT_aN, if_neg (fun z => by simp at z), hT_iH, if_neg (fun z => absurd z.1 (by decide))]
  exact hT0
theorem iH_step {j t N : Nat} (hj : isSc j = false) (hk : t = mkd j) (hl : N = mlen j) : sR (aN (iH h j) (2, j, 0) t N) (1, 0, 0) j (some (2, j, 0)) = iH h (j + 1) := by
  subst hk; subst hl
  have e0 : ∀ n : Nm, n = (2, j, 0) ↔ (n.1 = 2 ∧ n.2.2 = 0 ∧ n.2.1 = j) := by
    intro n
    constructor
    · rintro rfl; exact ⟨rfl, rfl, rfl⟩
    · rintro ⟨a, b, c⟩; exact Prod.ext a (Prod.ext c b)
  have e1 : ∀ n : Nm, (n.1 = 2 ∧ n.2.2 = 0 ∧ n.2.1 < j + 1 ∧ isSc n.2.1 = false) ↔ (n = (2, j, 0) ∨ (n.1 = 2 ∧ n.2.2 = 0 ∧ n.2.1 < j ∧ isSc n.2.1 = false)) := by
    intro n
    rw [e0]
    constructor
    · rintro ⟨a, b, c, d⟩
      rcases Nat.lt_succ_iff_lt_or_eq.mp c with q | q
      · exact Or.inr ⟨a, b, q, d⟩
      · exact Or.inl ⟨a, b, q⟩
    · rintro (⟨a, b, c⟩ | ⟨a, b, c, d⟩)
      · exact ⟨a, b, by omega, by rw [c]; exact hj⟩
      · exact ⟨a, b, by omega, d⟩
  have e2 : ∀ x : Nat, (x < j + 1 ∧ isSc x = false) ↔ (x = j ∨ (x < j ∧ isSc x = false)) := by
    intro x
    constructor
    · rintro ⟨a, b⟩
      rcases Nat.lt_succ_iff_lt_or_eq.mp a with q | q
      · exact Or.inr ⟨q, b⟩
      · exact Or.inl q
    · rintro (rfl | ⟨a, b⟩)
      · exact ⟨by omega, hj⟩
      · exact ⟨by omega, b⟩
  unfold iH sR aN
  simp only [e1]
  simp only [e2]
  refine Prod.ext (funext fun n => ?_) (Prod.ext (funext fun n => funext fun i => ?_) (Prod.ext (funext fun n => funext fun i => ?_) (funext fun n => funext fun i => ?_)))
  · dsimp only
    by_cases q : n = (2, j, 0)
    · subst q; simp
    · simp [q]
  · dsimp only
    by_cases q : n = (2, j, 0)
    · simp [q]
    · simp [q]
  · dsimp only
    by_cases q : n = (2, j, 0)
    · simp [q]
    · simp [q]
  · dsimp only
    by_cases q : n = (2, j, 0)
    · subst q; simp
    · by_cases q2 : n = (1, 0, 0)
      · subst q2
        by_cases q3 : i = j
        · simp [q3]
        · simp [q3]
      · simp [q, q2]
theorem iH_W (hT0 : hT h (1, 0, 0) = some (9, 0)) : WfM (iH h 49) := by
  refine ⟨?_, fun j hj hs => ⟨?_, ?_⟩⟩
  · rw [hT_iH, if_neg (fun z => absurd z.1 (by decide))]
    exact hT0
  · rw [hR_iH, if_neg (fun z => absurd z.1 (by decide)), if_pos ⟨rfl, hj, hs⟩]
  · rw [hT_iH, if_pos ⟨rfl, rfl, hj, hs⟩]
theorem iH_get (hI0 : ∀ i, hI h (1, 0, 0) i = 0) {j i : Nat} (hj : j < 49) : mget (iH h 49) j i = 0 ∨ isSc j = true := by
  by_cases q : isSc j = true
  · exact Or.inr q
  · refine Or.inl ?_
    unfold mget
    rw [if_neg (fun z => q z.1)]
    rw [hI_iH, if_pos ⟨rfl, rfl, hj, by simpa using q⟩]
theorem iH_get0 (hI0 : ∀ i, hI h (1, 0, 0) i = 0) {j : Nat} (hj : isSc j = true) : mget (iH h 49) j 0 = 0 := by
  unfold mget
  rw [if_pos ⟨hj, rfl⟩]
  rw [hI_iH, if_neg (fun z => absurd z.1 (by decide))]
  exact hI0 j
/-- the model's numbers at its start -/
def zini (Z : ZT) (n : Nat) : ZT := fun j i => if j = 5 ∧ i < n then -1 else Z j i
theorem zini_0 : zini Z 0 = Z := by funext j i; unfold zini; rw [if_neg (by omega)]
theorem zini_step {n q : Nat} (hq : q = n) : zs (zini Z n) 5 q (-1) = zini Z (n + 1) := by
  subst hq
  funext a b
  unfold zs zini
  by_cases e : a = 5 ∧ b = q
  · rw [if_pos e, if_pos (by omega)]
  · rw [if_neg e]
    by_cases e2 : a = 5 ∧ b < q
    · rw [if_pos e2, if_pos (by omega)]
    · rw [if_neg e2, if_neg (by omega)]
theorem X8_init_l {mc ms bc bs : Nat} (W : WfM h) (k : Q (mput h (zini Z 4608)) (.inl none)) : ∀ (m i : Nat), i ≤ 4608 → 4608 ≤ i + m → AW mX8_init fX8_init loX8_init mc ms Q bc bs 358 (mput h (zini Z i)) [(1, vi (i : Int)), (0, vr mO)] [] := by
  intro m
  induction m with
  | zero =>
    intro i h1 h2
    have e : i = 4608 := by omega
    subst e
    refine AW.iload_n dX8_init_358 rfl ?_
    refine AW.sipush dX8_init_359 sp_4608 (by decide) ?_
    refine AW.icmp_ge (tgt := 378) dX8_init_362 rfl (fun c_362 => ?_) (fun c_362 => ?_)
    · refine AW.vret dX8_init_378 rfl ?_
      exact k
    · exact absurd c_362 (by omega)
  | succ m ih =>
    intro i h1 h2
    by_cases e : i = 4608
    · exact ih i h1 (by omega)
    refine AW.iload_n dX8_init_358 rfl ?_
    refine AW.sipush dX8_init_359 sp_4608 (by decide) ?_
    refine AW.icmp_ge (tgt := 378) dX8_init_362 rfl (fun c_362 => ?_) (fun c_362 => ?_)
    · exact absurd c_362 (by omega)
    · refine AW.aload_n dX8_init_365 rfl ?_
      refine AW.mA 5 W dX8_init_366 lkX8_22 rfl rfl ?_
      refine AW.iload_n dX8_init_369 rfl ?_
      refine AW.iconst dX8_init_370 (by decide) ?_
      refine AW.mst (j := 5) W dX8_init_371 rfl rfl (by simp only [mlen]; omega) ?_
      refine AW.iincB dX8_init_372 rfl rfl (by omega) ?_
      refine AW.goto (tgt := 358) dX8_init_375 rfl ?_
      exact AW.locs [(1, vi ((i + 1 : Nat) : Int)), (0, vr mO)] ⟨rfl, rfl, trivial⟩ (AW.mZ (zini_step rfl) (ih (i + 1) (by omega) (by omega)))
set_option maxHeartbeats 4000000 in
theorem kX8_init (hT0 : hT h (1, 0, 0) = some (9, 0)) (hN : ∀ j, hT h (2, j, 0) = none) (k : Q (mput (iH h 49) (zini (mget (iH h 49)) 4608)) (.inl none)) : AC mX8_init fX8_init loX8_init 42 67274 h [vr mO] Q := by
  refine AC.mk (by decide) (Nat.le_of_ble_eq_true rfl) ?_
  refine AW.aload_n dX8_init_0 rfl ?_
  refine AW.objInit dX8_init_1 lkX8_1 oi1 oi2 rfl rfl rfl ?_
  refine AW.heq (iH_0 (h := h)).symm ?_
  refine AW.heq (iH_sc (j := 0) rfl) ?_
  refine AW.aload_n dX8_init_4 rfl ?_
  refine AW.iconst dX8_init_5 (by decide) ?_
  refine AW.newa (t := 0) (N := 4) (2, 1, 0) (iH_n hN (by decide)) dX8_init_6 (by decide) rfl arc_int rfl (by decide) (by decide) (by intro C e; cases e) rfl rfl ?_
  refine AW.putR (kc := 9) (len := 0) (j := 1) dX8_init_8 (iH_o hT0) rfl rfl inC9 lkX8_7 rfl (Or.inr ⟨rfl, rfl, rfl⟩) ?_
  refine AW.heq (iH_step (j := 1) rfl rfl rfl) ?_
  refine AW.pcs (pc2 := 11) rfl ?_
  refine AW.aload_n dX8_init_11 rfl ?_
  refine AW.iconst dX8_init_12 (by decide) ?_
  refine AW.newa (t := 0) (N := 4) (2, 2, 0) (iH_n hN (by decide)) dX8_init_13 (by decide) rfl arc_int rfl (by decide) (by decide) (by intro C e; cases e) rfl rfl ?_
  refine AW.putR (kc := 9) (len := 0) (j := 2) dX8_init_15 (iH_o hT0) rfl rfl inC9 lkX8_13 rfl (Or.inr ⟨rfl, rfl, rfl⟩) ?_
  refine AW.heq (iH_step (j := 2) rfl rfl rfl) ?_
  refine AW.pcs (pc2 := 18) rfl ?_
  refine AW.aload_n dX8_init_18 rfl ?_
  refine AW.sipush dX8_init_19 sp_192 (by decide) ?_
  refine AW.newa (t := 0) (N := 192) (2, 3, 0) (iH_n hN (by decide)) dX8_init_22 (by decide) rfl arc_int rfl (by decide) (by decide) (by intro C e; cases e) rfl rfl ?_
  refine AW.putR (kc := 9) (len := 0) (j := 3) dX8_init_24 (iH_o hT0) rfl rfl inC9 lkX8_16 rfl (Or.inr ⟨rfl, rfl, rfl⟩) ?_
  refine AW.heq (iH_step (j := 3) rfl rfl rfl) ?_
  refine AW.pcs (pc2 := 27) rfl ?_
  refine AW.aload_n dX8_init_27 rfl ?_
  refine AW.sipush dX8_init_28 sp_192 (by decide) ?_
  refine AW.newa (t := 0) (N := 192) (2, 4, 0) (iH_n hN (by decide)) dX8_init_31 (by decide) rfl arc_int rfl (by decide) (by decide) (by intro C e; cases e) rfl rfl ?_
  refine AW.putR (kc := 9) (len := 0) (j := 4) dX8_init_33 (iH_o hT0) rfl rfl inC9 lkX8_19 rfl (Or.inr ⟨rfl, rfl, rfl⟩) ?_
  refine AW.heq (iH_step (j := 4) rfl rfl rfl) ?_
  refine AW.pcs (pc2 := 36) rfl ?_
  refine AW.aload_n dX8_init_36 rfl ?_
  refine AW.sipush dX8_init_37 sp_4608 (by decide) ?_
  refine AW.newa (t := 0) (N := 4608) (2, 5, 0) (iH_n hN (by decide)) dX8_init_40 (by decide) rfl arc_int rfl (by decide) (by decide) (by intro C e; cases e) rfl rfl ?_
  refine AW.putR (kc := 9) (len := 0) (j := 5) dX8_init_42 (iH_o hT0) rfl rfl inC9 lkX8_22 rfl (Or.inr ⟨rfl, rfl, rfl⟩) ?_
  refine AW.heq (iH_step (j := 5) rfl rfl rfl) ?_
  refine AW.pcs (pc2 := 45) rfl ?_
  refine AW.aload_n dX8_init_45 rfl ?_
  refine AW.sipush dX8_init_46 sp_4608 (by decide) ?_
  refine AW.newa (t := 1) (N := 4608) (2, 6, 0) (iH_n hN (by decide)) dX8_init_49 (by decide) rfl arc_boolean rfl (by decide) (by decide) (by intro C e; cases e) rfl rfl ?_
  refine AW.putR (kc := 9) (len := 0) (j := 6) dX8_init_51 (iH_o hT0) rfl rfl inC9 lkX8_25 rfl (Or.inr ⟨rfl, rfl, rfl⟩) ?_
  refine AW.heq (iH_step (j := 6) rfl rfl rfl) ?_
  refine AW.pcs (pc2 := 54) rfl ?_
  refine AW.aload_n dX8_init_54 rfl ?_
  refine AW.bipush dX8_init_55 bp_96 (by decide) ?_
  refine AW.newa (t := 0) (N := 96) (2, 7, 0) (iH_n hN (by decide)) dX8_init_57 (by decide) rfl arc_int rfl (by decide) (by decide) (by intro C e; cases e) rfl rfl ?_
  refine AW.putR (kc := 9) (len := 0) (j := 7) dX8_init_59 (iH_o hT0) rfl rfl inC9 lkX8_29 rfl (Or.inr ⟨rfl, rfl, rfl⟩) ?_
  refine AW.heq (iH_step (j := 7) rfl rfl rfl) ?_
  refine AW.pcs (pc2 := 62) rfl ?_
  refine AW.aload_n dX8_init_62 rfl ?_
  refine AW.sipush dX8_init_63 sp_192 (by decide) ?_
  refine AW.newa (t := 0) (N := 192) (2, 8, 0) (iH_n hN (by decide)) dX8_init_66 (by decide) rfl arc_int rfl (by decide) (by decide) (by intro C e; cases e) rfl rfl ?_
  refine AW.putR (kc := 9) (len := 0) (j := 8) dX8_init_68 (iH_o hT0) rfl rfl inC9 lkX8_32 rfl (Or.inr ⟨rfl, rfl, rfl⟩) ?_
  refine AW.heq (iH_step (j := 8) rfl rfl rfl) ?_
  refine AW.pcs (pc2 := 71) rfl ?_
  refine AW.aload_n dX8_init_71 rfl ?_
  refine AW.sipush dX8_init_72 sp_192 (by decide) ?_
  refine AW.newa (t := 0) (N := 192) (2, 9, 0) (iH_n hN (by decide)) dX8_init_75 (by decide) rfl arc_int rfl (by decide) (by decide) (by intro C e; cases e) rfl rfl ?_
  refine AW.putR (kc := 9) (len := 0) (j := 9) dX8_init_77 (iH_o hT0) rfl rfl inC9 lkX8_35 rfl (Or.inr ⟨rfl, rfl, rfl⟩) ?_
  refine AW.heq (iH_step (j := 9) rfl rfl rfl) ?_
  refine AW.pcs (pc2 := 80) rfl ?_
  refine AW.aload_n dX8_init_80 rfl ?_
  refine AW.bipush dX8_init_81 bp_96 (by decide) ?_
  refine AW.newa (t := 0) (N := 96) (2, 10, 0) (iH_n hN (by decide)) dX8_init_83 (by decide) rfl arc_int rfl (by decide) (by decide) (by intro C e; cases e) rfl rfl ?_
  refine AW.putR (kc := 9) (len := 0) (j := 10) dX8_init_85 (iH_o hT0) rfl rfl inC9 lkX8_38 rfl (Or.inr ⟨rfl, rfl, rfl⟩) ?_
  refine AW.heq (iH_step (j := 10) rfl rfl rfl) ?_
  refine AW.pcs (pc2 := 88) rfl ?_
  refine AW.aload_n dX8_init_88 rfl ?_
  refine AW.iconst dX8_init_89 (by decide) ?_
  refine AW.newa (t := 0) (N := 4) (2, 11, 0) (iH_n hN (by decide)) dX8_init_90 (by decide) rfl arc_int rfl (by decide) (by decide) (by intro C e; cases e) rfl rfl ?_
  refine AW.putR (kc := 9) (len := 0) (j := 11) dX8_init_92 (iH_o hT0) rfl rfl inC9 lkX8_41 rfl (Or.inr ⟨rfl, rfl, rfl⟩) ?_
  refine AW.heq (iH_step (j := 11) rfl rfl rfl) ?_
  refine AW.pcs (pc2 := 95) rfl ?_
  refine AW.aload_n dX8_init_95 rfl ?_
  refine AW.sipush dX8_init_96 sp_192 (by decide) ?_
  refine AW.newa (t := 0) (N := 192) (2, 12, 0) (iH_n hN (by decide)) dX8_init_99 (by decide) rfl arc_int rfl (by decide) (by decide) (by intro C e; cases e) rfl rfl ?_
  refine AW.putR (kc := 9) (len := 0) (j := 12) dX8_init_101 (iH_o hT0) rfl rfl inC9 lkX8_44 rfl (Or.inr ⟨rfl, rfl, rfl⟩) ?_
  refine AW.heq (iH_step (j := 12) rfl rfl rfl) ?_
  refine AW.pcs (pc2 := 104) rfl ?_
  refine AW.heq (iH_sc (j := 13) rfl) ?_
  refine AW.aload_n dX8_init_104 rfl ?_
  refine AW.bipush dX8_init_105 bp_8 (by decide) ?_
  refine AW.newa (t := 0) (N := 8) (2, 14, 0) (iH_n hN (by decide)) dX8_init_107 (by decide) rfl arc_int rfl (by decide) (by decide) (by intro C e; cases e) rfl rfl ?_
  refine AW.putR (kc := 9) (len := 0) (j := 14) dX8_init_109 (iH_o hT0) rfl rfl inC9 lkX8_47 rfl (Or.inr ⟨rfl, rfl, rfl⟩) ?_
  refine AW.heq (iH_step (j := 14) rfl rfl rfl) ?_
  refine AW.pcs (pc2 := 112) rfl ?_
  refine AW.aload_n dX8_init_112 rfl ?_
  refine AW.bipush dX8_init_113 bp_8 (by decide) ?_
  refine AW.newa (t := 0) (N := 8) (2, 15, 0) (iH_n hN (by decide)) dX8_init_115 (by decide) rfl arc_int rfl (by decide) (by decide) (by intro C e; cases e) rfl rfl ?_
  refine AW.putR (kc := 9) (len := 0) (j := 15) dX8_init_117 (iH_o hT0) rfl rfl inC9 lkX8_50 rfl (Or.inr ⟨rfl, rfl, rfl⟩) ?_
  refine AW.heq (iH_step (j := 15) rfl rfl rfl) ?_
  refine AW.pcs (pc2 := 120) rfl ?_
  refine AW.aload_n dX8_init_120 rfl ?_
  refine AW.bipush dX8_init_121 bp_8 (by decide) ?_
  refine AW.newa (t := 1) (N := 8) (2, 16, 0) (iH_n hN (by decide)) dX8_init_123 (by decide) rfl arc_boolean rfl (by decide) (by decide) (by intro C e; cases e) rfl rfl ?_
  refine AW.putR (kc := 9) (len := 0) (j := 16) dX8_init_125 (iH_o hT0) rfl rfl inC9 lkX8_53 rfl (Or.inr ⟨rfl, rfl, rfl⟩) ?_
  refine AW.heq (iH_step (j := 16) rfl rfl rfl) ?_
  refine AW.pcs (pc2 := 128) rfl ?_
  refine AW.aload_n dX8_init_128 rfl ?_
  refine AW.sipush dX8_init_129 sp_384 (by decide) ?_
  refine AW.newa (t := 1) (N := 384) (2, 17, 0) (iH_n hN (by decide)) dX8_init_132 (by decide) rfl arc_boolean rfl (by decide) (by decide) (by intro C e; cases e) rfl rfl ?_
  refine AW.putR (kc := 9) (len := 0) (j := 17) dX8_init_134 (iH_o hT0) rfl rfl inC9 lkX8_56 rfl (Or.inr ⟨rfl, rfl, rfl⟩) ?_
  refine AW.heq (iH_step (j := 17) rfl rfl rfl) ?_
  refine AW.pcs (pc2 := 137) rfl ?_
  refine AW.aload_n dX8_init_137 rfl ?_
  refine AW.sipush dX8_init_138 sp_384 (by decide) ?_
  refine AW.newa (t := 1) (N := 384) (2, 18, 0) (iH_n hN (by decide)) dX8_init_141 (by decide) rfl arc_boolean rfl (by decide) (by decide) (by intro C e; cases e) rfl rfl ?_
  refine AW.putR (kc := 9) (len := 0) (j := 18) dX8_init_143 (iH_o hT0) rfl rfl inC9 lkX8_59 rfl (Or.inr ⟨rfl, rfl, rfl⟩) ?_
  refine AW.heq (iH_step (j := 18) rfl rfl rfl) ?_
  refine AW.pcs (pc2 := 146) rfl ?_
  refine AW.heq (iH_sc (j := 19) rfl) ?_
  refine AW.aload_n dX8_init_146 rfl ?_
  refine AW.bipush dX8_init_147 bp_22 (by decide) ?_
  refine AW.newa (t := 0) (N := 22) (2, 20, 0) (iH_n hN (by decide)) dX8_init_149 (by decide) rfl arc_int rfl (by decide) (by decide) (by intro C e; cases e) rfl rfl ?_
  refine AW.putR (kc := 9) (len := 0) (j := 20) dX8_init_151 (iH_o hT0) rfl rfl inC9 lkX8_62 rfl (Or.inr ⟨rfl, rfl, rfl⟩) ?_
  refine AW.heq (iH_step (j := 20) rfl rfl rfl) ?_
  refine AW.pcs (pc2 := 154) rfl ?_
  refine AW.aload_n dX8_init_154 rfl ?_
  refine AW.bipush dX8_init_155 bp_22 (by decide) ?_
  refine AW.newa (t := 0) (N := 22) (2, 21, 0) (iH_n hN (by decide)) dX8_init_157 (by decide) rfl arc_int rfl (by decide) (by decide) (by intro C e; cases e) rfl rfl ?_
  refine AW.putR (kc := 9) (len := 0) (j := 21) dX8_init_159 (iH_o hT0) rfl rfl inC9 lkX8_65 rfl (Or.inr ⟨rfl, rfl, rfl⟩) ?_
  refine AW.heq (iH_step (j := 21) rfl rfl rfl) ?_
  refine AW.pcs (pc2 := 162) rfl ?_
  refine AW.aload_n dX8_init_162 rfl ?_
  refine AW.sipush dX8_init_163 sp_1056 (by decide) ?_
  refine AW.newa (t := 0) (N := 1056) (2, 22, 0) (iH_n hN (by decide)) dX8_init_166 (by decide) rfl arc_int rfl (by decide) (by decide) (by intro C e; cases e) rfl rfl ?_
  refine AW.putR (kc := 9) (len := 0) (j := 22) dX8_init_168 (iH_o hT0) rfl rfl inC9 lkX8_68 rfl (Or.inr ⟨rfl, rfl, rfl⟩) ?_
  refine AW.heq (iH_step (j := 22) rfl rfl rfl) ?_
  refine AW.pcs (pc2 := 171) rfl ?_
  refine AW.aload_n dX8_init_171 rfl ?_
  refine AW.bipush dX8_init_172 bp_22 (by decide) ?_
  refine AW.newa (t := 0) (N := 22) (2, 23, 0) (iH_n hN (by decide)) dX8_init_174 (by decide) rfl arc_int rfl (by decide) (by decide) (by intro C e; cases e) rfl rfl ?_
  refine AW.putR (kc := 9) (len := 0) (j := 23) dX8_init_176 (iH_o hT0) rfl rfl inC9 lkX8_71 rfl (Or.inr ⟨rfl, rfl, rfl⟩) ?_
  refine AW.heq (iH_step (j := 23) rfl rfl rfl) ?_
  refine AW.pcs (pc2 := 179) rfl ?_
  refine AW.aload_n dX8_init_179 rfl ?_
  refine AW.sipush dX8_init_180 sp_528 (by decide) ?_
  refine AW.newa (t := 0) (N := 528) (2, 24, 0) (iH_n hN (by decide)) dX8_init_183 (by decide) rfl arc_int rfl (by decide) (by decide) (by intro C e; cases e) rfl rfl ?_
  refine AW.putR (kc := 9) (len := 0) (j := 24) dX8_init_185 (iH_o hT0) rfl rfl inC9 lkX8_74 rfl (Or.inr ⟨rfl, rfl, rfl⟩) ?_
  refine AW.heq (iH_step (j := 24) rfl rfl rfl) ?_
  refine AW.pcs (pc2 := 188) rfl ?_
  refine AW.aload_n dX8_init_188 rfl ?_
  refine AW.sipush dX8_init_189 sp_1056 (by decide) ?_
  refine AW.newa (t := 0) (N := 1056) (2, 25, 0) (iH_n hN (by decide)) dX8_init_192 (by decide) rfl arc_int rfl (by decide) (by decide) (by intro C e; cases e) rfl rfl ?_
  refine AW.putR (kc := 9) (len := 0) (j := 25) dX8_init_194 (iH_o hT0) rfl rfl inC9 lkX8_77 rfl (Or.inr ⟨rfl, rfl, rfl⟩) ?_
  refine AW.heq (iH_step (j := 25) rfl rfl rfl) ?_
  refine AW.pcs (pc2 := 197) rfl ?_
  refine AW.aload_n dX8_init_197 rfl ?_
  refine AW.bipush dX8_init_198 bp_22 (by decide) ?_
  refine AW.newa (t := 0) (N := 22) (2, 26, 0) (iH_n hN (by decide)) dX8_init_200 (by decide) rfl arc_int rfl (by decide) (by decide) (by intro C e; cases e) rfl rfl ?_
  refine AW.putR (kc := 9) (len := 0) (j := 26) dX8_init_202 (iH_o hT0) rfl rfl inC9 lkX8_80 rfl (Or.inr ⟨rfl, rfl, rfl⟩) ?_
  refine AW.heq (iH_step (j := 26) rfl rfl rfl) ?_
  refine AW.pcs (pc2 := 205) rfl ?_
  refine AW.heq (iH_sc (j := 27) rfl) ?_
  refine AW.heq (iH_sc (j := 28) rfl) ?_
  refine AW.aload_n dX8_init_205 rfl ?_
  refine AW.bipush dX8_init_206 bp_8 (by decide) ?_
  refine AW.newa (t := 0) (N := 8) (2, 29, 0) (iH_n hN (by decide)) dX8_init_208 (by decide) rfl arc_int rfl (by decide) (by decide) (by intro C e; cases e) rfl rfl ?_
  refine AW.putR (kc := 9) (len := 0) (j := 29) dX8_init_210 (iH_o hT0) rfl rfl inC9 lkX8_83 rfl (Or.inr ⟨rfl, rfl, rfl⟩) ?_
  refine AW.heq (iH_step (j := 29) rfl rfl rfl) ?_
  refine AW.pcs (pc2 := 213) rfl ?_
  refine AW.aload_n dX8_init_213 rfl ?_
  refine AW.bipush dX8_init_214 bp_8 (by decide) ?_
  refine AW.newa (t := 0) (N := 8) (2, 30, 0) (iH_n hN (by decide)) dX8_init_216 (by decide) rfl arc_int rfl (by decide) (by decide) (by intro C e; cases e) rfl rfl ?_
  refine AW.putR (kc := 9) (len := 0) (j := 30) dX8_init_218 (iH_o hT0) rfl rfl inC9 lkX8_86 rfl (Or.inr ⟨rfl, rfl, rfl⟩) ?_
  refine AW.heq (iH_step (j := 30) rfl rfl rfl) ?_
  refine AW.pcs (pc2 := 221) rfl ?_
  refine AW.aload_n dX8_init_221 rfl ?_
  refine AW.bipush dX8_init_222 bp_8 (by decide) ?_
  refine AW.newa (t := 0) (N := 8) (2, 31, 0) (iH_n hN (by decide)) dX8_init_224 (by decide) rfl arc_int rfl (by decide) (by decide) (by intro C e; cases e) rfl rfl ?_
  refine AW.putR (kc := 9) (len := 0) (j := 31) dX8_init_226 (iH_o hT0) rfl rfl inC9 lkX8_89 rfl (Or.inr ⟨rfl, rfl, rfl⟩) ?_
  refine AW.heq (iH_step (j := 31) rfl rfl rfl) ?_
  refine AW.pcs (pc2 := 229) rfl ?_
  refine AW.heq (iH_sc (j := 32) rfl) ?_
  refine AW.aload_n dX8_init_229 rfl ?_
  refine AW.sipush dX8_init_230 sp_4096 (by decide) ?_
  refine AW.newa (t := 0) (N := 4096) (2, 33, 0) (iH_n hN (by decide)) dX8_init_233 (by decide) rfl arc_int rfl (by decide) (by decide) (by intro C e; cases e) rfl rfl ?_
  refine AW.putR (kc := 9) (len := 0) (j := 33) dX8_init_235 (iH_o hT0) rfl rfl inC9 lkX8_92 rfl (Or.inr ⟨rfl, rfl, rfl⟩) ?_
  refine AW.heq (iH_step (j := 33) rfl rfl rfl) ?_
  refine AW.pcs (pc2 := 238) rfl ?_
  refine AW.aload_n dX8_init_238 rfl ?_
  refine AW.sipush dX8_init_239 sp_4096 (by decide) ?_
  refine AW.newa (t := 0) (N := 4096) (2, 34, 0) (iH_n hN (by decide)) dX8_init_242 (by decide) rfl arc_int rfl (by decide) (by decide) (by intro C e; cases e) rfl rfl ?_
  refine AW.putR (kc := 9) (len := 0) (j := 34) dX8_init_244 (iH_o hT0) rfl rfl inC9 lkX8_95 rfl (Or.inr ⟨rfl, rfl, rfl⟩) ?_
  refine AW.heq (iH_step (j := 34) rfl rfl rfl) ?_
  refine AW.pcs (pc2 := 247) rfl ?_
  refine AW.aload_n dX8_init_247 rfl ?_
  refine AW.sipush dX8_init_248 sp_4096 (by decide) ?_
  refine AW.newa (t := 0) (N := 4096) (2, 35, 0) (iH_n hN (by decide)) dX8_init_251 (by decide) rfl arc_int rfl (by decide) (by decide) (by intro C e; cases e) rfl rfl ?_
  refine AW.putR (kc := 9) (len := 0) (j := 35) dX8_init_253 (iH_o hT0) rfl rfl inC9 lkX8_98 rfl (Or.inr ⟨rfl, rfl, rfl⟩) ?_
  refine AW.heq (iH_step (j := 35) rfl rfl rfl) ?_
  refine AW.pcs (pc2 := 256) rfl ?_
  refine AW.aload_n dX8_init_256 rfl ?_
  refine AW.sipush dX8_init_257 sp_4096 (by decide) ?_
  refine AW.newa (t := 0) (N := 4096) (2, 36, 0) (iH_n hN (by decide)) dX8_init_260 (by decide) rfl arc_int rfl (by decide) (by decide) (by intro C e; cases e) rfl rfl ?_
  refine AW.putR (kc := 9) (len := 0) (j := 36) dX8_init_262 (iH_o hT0) rfl rfl inC9 lkX8_101 rfl (Or.inr ⟨rfl, rfl, rfl⟩) ?_
  refine AW.heq (iH_step (j := 36) rfl rfl rfl) ?_
  refine AW.pcs (pc2 := 265) rfl ?_
  refine AW.aload_n dX8_init_265 rfl ?_
  refine AW.sipush dX8_init_266 sp_4096 (by decide) ?_
  refine AW.newa (t := 0) (N := 4096) (2, 37, 0) (iH_n hN (by decide)) dX8_init_269 (by decide) rfl arc_int rfl (by decide) (by decide) (by intro C e; cases e) rfl rfl ?_
  refine AW.putR (kc := 9) (len := 0) (j := 37) dX8_init_271 (iH_o hT0) rfl rfl inC9 lkX8_104 rfl (Or.inr ⟨rfl, rfl, rfl⟩) ?_
  refine AW.heq (iH_step (j := 37) rfl rfl rfl) ?_
  refine AW.pcs (pc2 := 274) rfl ?_
  refine AW.aload_n dX8_init_274 rfl ?_
  refine AW.sipush dX8_init_275 sp_4096 (by decide) ?_
  refine AW.newa (t := 0) (N := 4096) (2, 38, 0) (iH_n hN (by decide)) dX8_init_278 (by decide) rfl arc_int rfl (by decide) (by decide) (by intro C e; cases e) rfl rfl ?_
  refine AW.putR (kc := 9) (len := 0) (j := 38) dX8_init_280 (iH_o hT0) rfl rfl inC9 lkX8_107 rfl (Or.inr ⟨rfl, rfl, rfl⟩) ?_
  refine AW.heq (iH_step (j := 38) rfl rfl rfl) ?_
  refine AW.pcs (pc2 := 283) rfl ?_
  refine AW.aload_n dX8_init_283 rfl ?_
  refine AW.sipush dX8_init_284 sp_4096 (by decide) ?_
  refine AW.newa (t := 0) (N := 4096) (2, 39, 0) (iH_n hN (by decide)) dX8_init_287 (by decide) rfl arc_int rfl (by decide) (by decide) (by intro C e; cases e) rfl rfl ?_
  refine AW.putR (kc := 9) (len := 0) (j := 39) dX8_init_289 (iH_o hT0) rfl rfl inC9 lkX8_110 rfl (Or.inr ⟨rfl, rfl, rfl⟩) ?_
  refine AW.heq (iH_step (j := 39) rfl rfl rfl) ?_
  refine AW.pcs (pc2 := 292) rfl ?_
  refine AW.aload_n dX8_init_292 rfl ?_
  refine AW.sipush dX8_init_293 sp_8192 (by decide) ?_
  refine AW.newa (t := 0) (N := 8192) (2, 40, 0) (iH_n hN (by decide)) dX8_init_296 (by decide) rfl arc_int rfl (by decide) (by decide) (by intro C e; cases e) rfl rfl ?_
  refine AW.putR (kc := 9) (len := 0) (j := 40) dX8_init_298 (iH_o hT0) rfl rfl inC9 lkX8_113 rfl (Or.inr ⟨rfl, rfl, rfl⟩) ?_
  refine AW.heq (iH_step (j := 40) rfl rfl rfl) ?_
  refine AW.pcs (pc2 := 301) rfl ?_
  refine AW.aload_n dX8_init_301 rfl ?_
  refine AW.sipush dX8_init_302 sp_8192 (by decide) ?_
  refine AW.newa (t := 0) (N := 8192) (2, 41, 0) (iH_n hN (by decide)) dX8_init_305 (by decide) rfl arc_int rfl (by decide) (by decide) (by intro C e; cases e) rfl rfl ?_
  refine AW.putR (kc := 9) (len := 0) (j := 41) dX8_init_307 (iH_o hT0) rfl rfl inC9 lkX8_116 rfl (Or.inr ⟨rfl, rfl, rfl⟩) ?_
  refine AW.heq (iH_step (j := 41) rfl rfl rfl) ?_
  refine AW.pcs (pc2 := 310) rfl ?_
  refine AW.aload_n dX8_init_310 rfl ?_
  refine AW.sipush dX8_init_311 sp_8192 (by decide) ?_
  refine AW.newa (t := 0) (N := 8192) (2, 42, 0) (iH_n hN (by decide)) dX8_init_314 (by decide) rfl arc_int rfl (by decide) (by decide) (by intro C e; cases e) rfl rfl ?_
  refine AW.putR (kc := 9) (len := 0) (j := 42) dX8_init_316 (iH_o hT0) rfl rfl inC9 lkX8_119 rfl (Or.inr ⟨rfl, rfl, rfl⟩) ?_
  refine AW.heq (iH_step (j := 42) rfl rfl rfl) ?_
  refine AW.pcs (pc2 := 319) rfl ?_
  refine AW.aload_n dX8_init_319 rfl ?_
  refine AW.iconst dX8_init_320 (by decide) ?_
  refine AW.newa (t := 0) (N := 2) (2, 43, 0) (iH_n hN (by decide)) dX8_init_321 (by decide) rfl arc_int rfl (by decide) (by decide) (by intro C e; cases e) rfl rfl ?_
  refine AW.putR (kc := 9) (len := 0) (j := 43) dX8_init_323 (iH_o hT0) rfl rfl inC9 lkX8_122 rfl (Or.inr ⟨rfl, rfl, rfl⟩) ?_
  refine AW.heq (iH_step (j := 43) rfl rfl rfl) ?_
  refine AW.pcs (pc2 := 326) rfl ?_
  refine AW.aload_n dX8_init_326 rfl ?_
  refine AW.iconst dX8_init_327 (by decide) ?_
  refine AW.newa (t := 0) (N := 2) (2, 44, 0) (iH_n hN (by decide)) dX8_init_328 (by decide) rfl arc_int rfl (by decide) (by decide) (by intro C e; cases e) rfl rfl ?_
  refine AW.putR (kc := 9) (len := 0) (j := 44) dX8_init_330 (iH_o hT0) rfl rfl inC9 lkX8_125 rfl (Or.inr ⟨rfl, rfl, rfl⟩) ?_
  refine AW.heq (iH_step (j := 44) rfl rfl rfl) ?_
  refine AW.pcs (pc2 := 333) rfl ?_
  refine AW.aload_n dX8_init_333 rfl ?_
  refine AW.iconst dX8_init_334 (by decide) ?_
  refine AW.newa (t := 0) (N := 2) (2, 45, 0) (iH_n hN (by decide)) dX8_init_335 (by decide) rfl arc_int rfl (by decide) (by decide) (by intro C e; cases e) rfl rfl ?_
  refine AW.putR (kc := 9) (len := 0) (j := 45) dX8_init_337 (iH_o hT0) rfl rfl inC9 lkX8_128 rfl (Or.inr ⟨rfl, rfl, rfl⟩) ?_
  refine AW.heq (iH_step (j := 45) rfl rfl rfl) ?_
  refine AW.pcs (pc2 := 340) rfl ?_
  refine AW.aload_n dX8_init_340 rfl ?_
  refine AW.bipush dX8_init_341 bp_48 (by decide) ?_
  refine AW.newa (t := 1) (N := 48) (2, 46, 0) (iH_n hN (by decide)) dX8_init_343 (by decide) rfl arc_boolean rfl (by decide) (by decide) (by intro C e; cases e) rfl rfl ?_
  refine AW.putR (kc := 9) (len := 0) (j := 46) dX8_init_345 (iH_o hT0) rfl rfl inC9 lkX8_131 rfl (Or.inr ⟨rfl, rfl, rfl⟩) ?_
  refine AW.heq (iH_step (j := 46) rfl rfl rfl) ?_
  refine AW.pcs (pc2 := 348) rfl ?_
  refine AW.aload_n dX8_init_348 rfl ?_
  refine AW.bipush dX8_init_349 bp_48 (by decide) ?_
  refine AW.newa (t := 1) (N := 48) (2, 47, 0) (iH_n hN (by decide)) dX8_init_351 (by decide) rfl arc_boolean rfl (by decide) (by decide) (by intro C e; cases e) rfl rfl ?_
  refine AW.putR (kc := 9) (len := 0) (j := 47) dX8_init_353 (iH_o hT0) rfl rfl inC9 lkX8_134 rfl (Or.inr ⟨rfl, rfl, rfl⟩) ?_
  refine AW.heq (iH_step (j := 47) rfl rfl rfl) ?_
  refine AW.pcs (pc2 := 356) rfl ?_
  refine AW.heq (iH_sc (j := 48) rfl) ?_
  refine AW.heq (mput_mget (iH h 49)).symm ?_
  refine AW.mZ zini_0.symm ?_
  refine AW.iconst dX8_init_356 (by decide) ?_
  refine AW.istore_n dX8_init_357 rfl ?_
  exact X8_init_l (iH_W hT0) k 4608 0 (by omega) (by omega)
end M23
