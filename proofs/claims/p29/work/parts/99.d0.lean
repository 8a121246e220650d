/-! ===== the version in progress ===== -/
section D0
variable {Q : AH → AO → Prop} {h g G : AH} {Z Y : ZT} {d m : Nat} {D K : Nat → Int} {W nf : Int}
/-- the law's schema alone is touched -/
def FG (h g : AH) : Prop := FL (fun j => j = 1 ∨ j = 2 ∨ j = 3 ∨ j = 4) h g ∧ ∀ i, 2 ≤ i → hI g (la 4) i = hI h (la 4) i
theorem FG.rf : FG h h := ⟨FL.rf, fun _ _ => rfl⟩
theorem FG.tr (a : FG h g) (b : FG g G) : FG h G := ⟨a.1.tr b.1, fun i hi => (b.2 i hi).trans (a.2 i hi)⟩
theorem FG.w1 {i : Nat} {v : Int64} (F : FG h g) : FG h (sL g (la 1) i v) := F.tr ⟨FL.rf.wL (Or.inl rfl), fun _ _ => rfl⟩
theorem FG.w2 {i : Nat} {v : Int} (F : FG h g) : FG h (sI g (la 2) i v) := F.tr ⟨FL.rf.wI (Or.inr (Or.inl rfl)), fun i _ => by rw [hI_sIla, if_neg (by omega)]⟩
theorem FG.w3 {i : Nat} {v : Int} (F : FG h g) : FG h (sI g (la 3) i v) := F.tr ⟨FL.rf.wI (Or.inr (Or.inr (Or.inl rfl))), fun i _ => by rw [hI_sIla, if_neg (by omega)]⟩
theorem FG.w4 {i : Nat} {v : Int} (F : FG h g) (hi : i < 2) : FG h (sI g (la 4) i v) := F.tr ⟨FL.rf.wI (Or.inr (Or.inr (Or.inr rfl))), fun i _ => by rw [hI_sIla, if_neg (by omega)]⟩
def LC (h : AH) (Z : ZT) (d : Nat) (D : Nat → Int) (W nf : Int) (K : Nat → Int) : Prop := (hI h (la 4) 0 = (d : Int) ∧ hI h (la 4) 1 = nf)
  ∧ (∀ a f : Nat, a < d → f < 10 → stt (hL h (la 1) a) f = zdg Z a f) ∧ (∀ f : Nat, f < 10 → stt (hL h (la 1) d) f = D f)
  ∧ (∀ a : Nat, 1 ≤ a → a < d → hI h (la 2) a = zwd Z a) ∧ hI h (la 2) d = W
  ∧ (∀ f : Nat, (f : Int) < Z 2 0 → hI h (la 3) f = Z 3 f + 3 * Z 4 f) ∧ ∀ f : Nat, Z 2 0 ≤ (f : Int) → (f : Int) < nf → hI h (la 3) f = K f
theorem LC.g0 (C : LC h Z d D W nf K) : hI h (la 4) 0 = (d : Int) := C.1.1
theorem LC.g1 (C : LC h Z d D W nf K) : hI h (la 4) 1 = nf := C.1.2
theorem LC.w (C : LC h Z d D W nf K) : hI h (la 2) d = W := C.2.2.2.2.1
theorem FL.gI {P : Nat → Prop} (F : FL P h g) {j i : Nat} (hj : ¬ P j) {x : Int} (e : hI h (la j) i = x) : hI g (la j) i = x := (F.I hj i).trans e
/-- the digits of the version in progress change -/
theorem LC.dig {x : Int64} {D' : Nat → Int} (C : LC h Z d D W nf K) (e : ∀ f : Nat, f < 10 → stt x f = D' f) : LC (sL h (la 1) d x) Z d D' W nf K := by
  obtain ⟨c1, c2, c3, c4, c5, c6, c7⟩ := C
  refine ⟨c1, fun a f ha hf => ?_, fun f hf => ?_, c4, c5, c6, c7⟩
  · rw [hL_sLla, if_neg (by omega)]; exact c2 a f ha hf
  · rw [hL_sLla, if_pos ⟨rfl, rfl⟩]; exact e f hf
theorem LC.wrd {x : Int} (C : LC h Z d D W nf K) : LC (sI h (la 2) d x) Z d D x nf K := by
  obtain ⟨c1, c2, c3, c4, c5, c6, c7⟩ := C
  refine ⟨⟨?_, ?_⟩, c2, c3, fun a h1 ha => ?_, ?_, fun f hf => ?_, fun f h1 hf => ?_⟩
  · rw [hI_sIla, if_neg (by omega)]; exact c1.1
  · rw [hI_sIla, if_neg (by omega)]; exact c1.2
  · rw [hI_sIla, if_neg (by omega)]; exact c4 a h1 ha
  · rw [hI_sIla, if_pos ⟨rfl, rfl⟩]
  · rw [hI_sIla, if_neg (by omega)]; exact c6 f hf
  · rw [hI_sIla, if_neg (by omega)]; exact c7 f h1 hf
/-- a field more -/
theorem LC.fld' {x : Int} (C : LC h Z d D W (m : Int) K) (e : hI h (la 3) m = x) : LC (sI h (la 4) 1 ((m : Int) + 1)) Z d D W ((m : Int) + 1) (fun f => if f = m then x else K f) := by
  obtain ⟨c1, c2, c3, c4, c5, c6, c7⟩ := C
  refine ⟨⟨?_, ?_⟩, c2, c3, fun a h1 ha => ?_, ?_, fun f hf => ?_, fun f h1 hf => ?_⟩
  · rw [hI_sIla, if_neg (by omega)]; exact c1.1
  · rw [hI_sIla, if_pos ⟨rfl, rfl⟩]
  · rw [hI_sIla, if_neg (by omega)]; exact c4 a h1 ha
  · rw [hI_sIla, if_neg (by omega)]; exact c5
  · rw [hI_sIla, if_neg (by omega)]; exact c6 f hf
  · rw [hI_sIla, if_neg (by omega)]
    show hI h (la 3) f = if f = m then x else K f
    by_cases ef : f = m
    · rw [if_pos ef, ef]; exact e
    · rw [if_neg ef]; exact c7 f h1 (by omega)
theorem LC.fl3 {x : Int} (hm : Z 2 0 ≤ (m : Int)) (C : LC h Z d D W (m : Int) K) : LC (sI h (la 3) m x) Z d D W (m : Int) K := by
  obtain ⟨c1, c2, c3, c4, c5, c6, c7⟩ := C
  refine ⟨⟨?_, ?_⟩, c2, c3, fun a h1 ha => ?_, ?_, fun f hf => ?_, fun f h1 hf => ?_⟩
  · rw [hI_sIla, if_neg (by omega)]; exact c1.1
  · rw [hI_sIla, if_neg (by omega)]; exact c1.2
  · rw [hI_sIla, if_neg (by omega)]; exact c4 a h1 ha
  · rw [hI_sIla, if_neg (by omega)]; exact c5
  · rw [hI_sIla, if_neg (by omega)]; exact c6 f hf
  · rw [hI_sIla, if_neg (by omega)]; exact c7 f h1 hf
theorem LC.cg {D' : Nat → Int} {W' : Int} (C : LC h Z d D W nf K) (eD : ∀ f, D f = D' f) (eW : W = W') : LC h Z d D' W' nf K := by
  have : D = D' := funext eD
  subst this; subst eW; exact C
set_option maxHeartbeats 1000000 in
theorem kL_begins {wh a b y : Int} (T0 : LT h) (S : LSc h Z) (h1 : 1 ≤ d) (hd : Z 1 0 + 1 = (d : Int)) (hd2 : d < 13) (h0 : 0 ≤ wh ∧ wh ≤ 6) (ha : -1 ≤ a ∧ a < 10) (hb : -1 ≤ b ∧ b < 10) (hy : 0 ≤ y ∧ y ≤ 101) (k : ∀ g, FG h g → LC g Z d (fun f => zdg Z (d - 1) f) (wh + 8 * (a + 1 + 16 * (b + 1)) + 524288 * y) (Z 2 0) K → Q g (.inl none)) : AC mL_begins fL_begins loL_begins 0 0 h [vr (la 1), vr (la 2), vr (la 4), vi wh, vi a, vi b, vi y] Q := by
  have T := T0
  refine AC.mk (by decide) (Nat.le_of_ble_eq_true rfl) ?_
  have e0 : Z 1 0 = ((d - 1 : Nat) : Int) := by omega
  refine AW.aload_n dL_begins_0 rfl ?_
  refine AW.iconst dL_begins_1 (by decide) ?_
  refine AW.dup2 dL_begins_2 rfl rfl ?_
  refine AW.aldIE dL_begins_3 T.a4 (by omega) (by omega) (by exact S.g0) ?_
  refine AW.iconst dL_begins_4 (by decide) ?_
  refine AW.iaddB dL_begins_5 (by omega) ?_
  refine AW.top (y := (d : Int)) hd ?_
  refine AW.astI dL_begins_6 T.a4 (by omega) (by omega) ?_
  refine AW.gen (P := fun g => FG h g ∧ (hI g (la 4) 0 = (d : Int) ∧ hI g (la 4) 1 = Z 2 0) ∧ (∀ i, hI g (la 2) i = hI h (la 2) i) ∧ (∀ i, hI g (la 3) i = hI h (la 3) i) ∧ ∀ i, hL g (la 1) i = hL h (la 1) i) ⟨FG.rf.w4 (by decide), ⟨by rw [hI_sIla]; exact if_pos ⟨rfl, rfl⟩, by rw [hI_sIla, if_neg (by decide)]; exact S.g1⟩, fun i => by rw [hI_sIla, if_neg (by omega)], fun i => by rw [hI_sIla, if_neg (by omega)], fun _ => rfl⟩ (fun g1 ⟨F1, ⟨x0, x1⟩, x2, x3, x4⟩ => ?_)
  have T := F1.1.T T
  refine AW.aload_n dL_begins_7 rfl ?_
  refine AW.aload_n dL_begins_8 rfl ?_
  refine AW.iconst dL_begins_9 (by decide) ?_
  refine AW.aldIE dL_begins_10 T.a4 (by omega) (by omega) (by exact x0) ?_
  refine AW.aload_n dL_begins_11 rfl ?_
  refine AW.aload_n dL_begins_12 rfl ?_
  refine AW.iconst dL_begins_13 (by decide) ?_
  refine AW.aldIE dL_begins_14 T.a4 (by omega) (by omega) (by exact x0) ?_
  refine AW.iconst dL_begins_15 (by decide) ?_
  refine AW.isubB dL_begins_16 (by omega) ?_
  refine AW.top (y := ((d - 1 : Nat) : Int)) (by omega) ?_
  refine AW.aldLE dL_begins_17 T.a1 (by omega) (by omega) (by (repeat first | apply hI_n1 rfl | apply hI_n3 rfl | apply hI_e (by omega) | apply hI_m (by omega)); exact rfl) ?_
  refine AW.astL dL_begins_18 T.a1 (by omega) (by omega) ?_
  refine AW.gen (P := fun g => FG h g ∧ (hI g (la 4) 0 = (d : Int) ∧ hI g (la 4) 1 = Z 2 0) ∧ (∀ i, hI g (la 2) i = hI h (la 2) i) ∧ (∀ i, hI g (la 3) i = hI h (la 3) i) ∧ ∀ i, hL g (la 1) i = if i = d then hL h (la 1) (d - 1) else hL h (la 1) i) ⟨F1.w1, ⟨x0, x1⟩, x2, x3, fun i => by rw [hL_sLla]; by_cases e : i = d; (rw [if_pos ⟨rfl, by omega⟩, if_pos e, Int.toNat_natCast]; exact x4 _); (rw [if_neg (by omega), if_neg e]; exact x4 i)⟩ (fun g2 ⟨F2, ⟨x0, x1⟩, x2, x3, x4⟩ => ?_)
  have T := F2.1.T T0
  refine AW.aload_n dL_begins_19 rfl ?_
  refine AW.aload_n dL_begins_20 rfl ?_
  refine AW.iconst dL_begins_21 (by decide) ?_
  refine AW.aldIE dL_begins_22 T.a4 (by omega) (by omega) (by exact x0) ?_
  refine AW.pcs (pc2 := 23) rfl ?_
  refine AW.iload_n dL_begins_23 rfl ?_
  refine AW.bipush dL_begins_24 bp_8 (by decide) ?_
  refine AW.iload dL_begins_26 rfl ?_
  refine AW.iconst dL_begins_28 (by decide) ?_
  refine AW.iaddB dL_begins_29 (by omega) ?_
  refine AW.bipush dL_begins_30 bp_16 (by decide) ?_
  refine AW.iload dL_begins_32 rfl ?_
  refine AW.iconst dL_begins_34 (by decide) ?_
  refine AW.iaddB dL_begins_35 (by omega) ?_
  refine AW.imulB dL_begins_36 (by omega) ?_
  refine AW.iaddB dL_begins_37 (by omega) ?_
  refine AW.imulB dL_begins_38 (by omega) ?_
  refine AW.iaddB dL_begins_39 (by omega) ?_
  refine AW.ldcI dL_begins_40 lkL_85 (by decide) ?_
  refine AW.iload dL_begins_42 rfl ?_
  refine AW.imulB dL_begins_44 (by omega) ?_
  refine AW.iaddB dL_begins_45 (by omega) ?_
  refine AW.astI dL_begins_46 T.a2 (by omega) (by omega) ?_
  rw [Int.toNat_natCast]
  refine AW.vret dL_begins_47 rfl ?_
  exact k _ F2.w2 (LC.cg (W := wh + 8 * (a + 1 + 16 * (b + 1)) + 524288 * y) (D := fun f => zdg Z (d - 1) f) (LC.wrd (W := hI g2 (la 2) d) ⟨⟨x0, x1⟩, fun i f hi hf => by rw [x4, if_neg (by omega)]; exact S.v (by omega) hf, fun f hf => by rw [x4, if_pos rfl]; exact S.v (by omega) hf, fun i i1 hi => by rw [x2]; exact S.w i1 (by omega), rfl, fun f hf => by rw [x3]; exact S.f hf, fun f f1 f2 => absurd f1 (by omega)⟩) (fun _ => rfl) rfl)
set_option maxHeartbeats 1000000 in
theorem kL_goes {f : Nat} (T : LT h) (C : LC h Z d D W nf K) (hd2 : d < 13) (hf : f < 10) (k : ∀ g, FG h g → LC g Z d (fun i => if i = f then 0 else D i) W nf K → Q g (.inl none)) : AC mL_goes fL_goes loL_goes 0 0 h [vr (la 1), vr (la 4), vi (f : Int)] Q := by
  refine AC.mk (by decide) (Nat.le_of_ble_eq_true rfl) ?_
  refine AW.aload_n dL_goes_0 rfl ?_
  refine AW.aload_n dL_goes_1 rfl ?_
  refine AW.iconst dL_goes_2 (by decide) ?_
  refine AW.aldIE dL_goes_3 T.a4 (by omega) (by omega) (by exact C.g0) ?_
  refine AW.dup2 dL_goes_4 rfl rfl ?_
  refine AW.aldLE dL_goes_5 T.a1 (by omega) (by omega) rfl ?_
  refine AW.ldc2I (63) dL_goes_6 lkL_77 (by decide) ?_
  refine AW.bipush dL_goes_9 bp_6 (by decide) ?_
  refine AW.iload_n dL_goes_11 rfl ?_
  refine AW.imulB dL_goes_12 (by omega) ?_
  refine AW.lshl dL_goes_13 (by omega) ?_
  refine AW.ldc2I (-1) dL_goes_14 lkL_139 (by decide) ?_
  refine AW.lxor dL_goes_17 ?_
  refine AW.land dL_goes_18 ?_
  refine AW.astL dL_goes_19 T.a1 (by omega) (by omega) ?_
  rw [Int.toNat_natCast]
  refine AW.vret dL_goes_20 rfl ?_
  exact k _ FG.rf.w1 (C.dig (fun i hi => (stt_clr (x := hL h (la 1) d) hf hi).trans (by rw [C.2.2.1 i hi])))
set_option maxHeartbeats 1000000 in
theorem kL_makes00 {nm kd v : Int} (T0 : LT h) (C : LC h Z d D W (m : Int) K) (hd2 : d < 13) (hm : m < 10) (h2 : Z 2 0 ≤ (m : Int)) (hW : 0 ≤ W ∧ W < 1000000000) (h0 : D m = 0) (hn : 0 ≤ nm ∧ nm ≤ 25) (hk : 0 ≤ kd ∧ kd ≤ 2) (hv : -1 ≤ v ∧ v ≤ 99999) (k : ∀ g, FG h g → LC g Z d (fun i => if i = m then nm + 1 + 0 else D i) (W + 2048 * (1 * ((m : Int) + 1))) ((m : Int) + 1) (fun i => if i = m then kd + 3 * v else K i) → Q g (.inl none)) : AC mL_makes fL_makes loL_makes 0 0 h [vr (la 1), vr (la 2), vr (la 3), vr (la 4), vi nm, vi kd, vi v, vi 0, vi 0] Q := by
  have T := T0
  refine AC.mk (by decide) (Nat.le_of_ble_eq_true rfl) ?_
  refine AW.aload_n dL_makes_0 rfl ?_
  refine AW.aload_n dL_makes_1 rfl ?_
  refine AW.iconst dL_makes_2 (by decide) ?_
  refine AW.aldIE dL_makes_3 T.a4 (by omega) (by omega) (by exact C.g1) ?_
  refine AW.iload dL_makes_4 rfl ?_
  refine AW.iconst dL_makes_6 (by decide) ?_
  refine AW.iload dL_makes_7 rfl ?_
  refine AW.imulB dL_makes_9 (by omega) ?_
  refine AW.iaddB dL_makes_10 (by omega) ?_
  refine AW.astI dL_makes_11 T.a3 (by omega) (by omega) ?_
  rw [Int.toNat_natCast]
  refine AW.gen (P := fun g => FG h g ∧ LC g Z d D W (m : Int) K ∧ hI g (la 3) m = kd + 3 * v) ⟨FG.rf.w3, C.fl3 h2, by rw [hI_sIla]; exact if_pos ⟨rfl, rfl⟩⟩ (fun g1 ⟨F1, C1, y1⟩ => ?_)
  have T := F1.1.T T
  refine AW.aload_n dL_makes_12 rfl ?_
  refine AW.aload_n dL_makes_13 rfl ?_
  refine AW.iconst dL_makes_14 (by decide) ?_
  refine AW.aldIE dL_makes_15 T.a4 (by omega) (by omega) (by exact C1.g0) ?_
  refine AW.dup2 dL_makes_16 rfl rfl ?_
  refine AW.aldLE dL_makes_17 T.a1 (by omega) (by omega) (by (repeat first | apply hI_n1 rfl | apply hI_n3 rfl | apply hI_e (by omega) | apply hI_m (by omega)); exact rfl) ?_
  refine AW.iload dL_makes_18 rfl ?_
  refine AW.iconst dL_makes_20 (by decide) ?_
  refine AW.iaddB dL_makes_21 (by omega) ?_
  refine AW.iload dL_makes_22 rfl ?_
  refine AW.if_eqT (tgt := 32) dL_makes_24 rfl (by omega) ?_
  refine AW.iconst dL_makes_32 (by decide) ?_
  refine AW.iaddB dL_makes_33 (by omega) ?_
  refine AW.pcs (pc2 := 34) rfl ?_
  refine AW.i2l dL_makes_34 ?_
  refine AW.bipush dL_makes_35 bp_6 (by decide) ?_
  refine AW.aload_n dL_makes_37 rfl ?_
  refine AW.iconst dL_makes_38 (by decide) ?_
  refine AW.aldIE dL_makes_39 T.a4 (by omega) (by omega) (by exact C1.g1) ?_
  refine AW.imulB dL_makes_40 (by omega) ?_
  refine AW.lshl dL_makes_41 (by omega) ?_
  refine AW.lor dL_makes_42 ?_
  refine AW.astL dL_makes_43 T.a1 (by omega) (by omega) ?_
  rw [Int.toNat_natCast]
  refine AW.gen (P := fun g => FG h g ∧ LC g Z d (fun i => if i = m then nm + 1 + 0 else D i) W (m : Int) K ∧ hI g (la 3) m = kd + 3 * v) ⟨F1.w1, C1.dig (fun i hi => (stt_or (x := hL g1 (la 1) d) ((C1.2.2.1 m hm).trans h0) (by omega) hm hi).trans (by rw [C1.2.2.1 i hi])), y1⟩ (fun g2 ⟨F2, C2, y2⟩ => ?_)
  have T := F2.1.T T0
  refine AW.aload_n dL_makes_44 rfl ?_
  refine AW.aload_n dL_makes_45 rfl ?_
  refine AW.iconst dL_makes_46 (by decide) ?_
  refine AW.aldIE dL_makes_47 T.a4 (by omega) (by omega) (by exact C2.g0) ?_
  refine AW.dup2 dL_makes_48 rfl rfl ?_
  refine AW.aldIE dL_makes_49 T.a2 (by omega) (by omega) (by exact hIx (by omega) C2.w) ?_
  refine AW.sipush dL_makes_50 sp_2048 (by decide) ?_
  refine AW.iload dL_makes_53 rfl ?_
  refine AW.if_neF (tgt := 62) dL_makes_55 rfl (by omega) ?_
  refine AW.iconst dL_makes_58 (by decide) ?_
  refine AW.goto (tgt := 64) dL_makes_59 rfl ?_
  refine AW.imulB dL_makes_64 (by omega) ?_
  refine AW.aload_n dL_makes_65 rfl ?_
  refine AW.iconst dL_makes_66 (by decide) ?_
  refine AW.aldIE dL_makes_67 T.a4 (by omega) (by omega) (by exact C2.g1) ?_
  refine AW.pcs (pc2 := 68) rfl ?_
  refine AW.iconst dL_makes_68 (by decide) ?_
  refine AW.iaddB dL_makes_69 (by omega) ?_
  refine AW.imulB dL_makes_70 (by omega) ?_
  refine AW.iaddB dL_makes_71 (by omega) ?_
  refine AW.astI dL_makes_72 T.a2 (by omega) (by omega) ?_
  rw [Int.toNat_natCast]
  refine AW.gen (P := fun g => FG h g ∧ LC g Z d (fun i => if i = m then nm + 1 + 0 else D i) (W + 2048 * (1 * ((m : Int) + 1))) (m : Int) K ∧ hI g (la 3) m = kd + 3 * v) ⟨F2.w2, C2.wrd.cg (fun _ => rfl) (by omega), by rw [hI_sIla, if_neg (by omega)]; exact y2⟩ (fun g3 ⟨F3, C3, y3⟩ => ?_)
  have T := F3.1.T T0
  refine AW.aload_n dL_makes_73 rfl ?_
  refine AW.iconst dL_makes_74 (by decide) ?_
  refine AW.dup2 dL_makes_75 rfl rfl ?_
  refine AW.aldIE dL_makes_76 T.a4 (by omega) (by omega) (by exact C3.g1) ?_
  refine AW.iconst dL_makes_77 (by decide) ?_
  refine AW.iaddB dL_makes_78 (by omega) ?_
  refine AW.astI dL_makes_79 T.a4 (by omega) (by omega) ?_
  refine AW.vret dL_makes_80 rfl ?_
  exact k _ (F3.w4 (by decide)) (C3.fld' y3)
set_option maxHeartbeats 1000000 in
theorem kL_makes01 {nm kd v : Int} (T0 : LT h) (C : LC h Z d D W (m : Int) K) (hd2 : d < 13) (hm : m < 10) (h2 : Z 2 0 ≤ (m : Int)) (hW : 0 ≤ W ∧ W < 1000000000) (h0 : D m = 0) (hn : 0 ≤ nm ∧ nm ≤ 25) (hk : 0 ≤ kd ∧ kd ≤ 2) (hv : -1 ≤ v ∧ v ≤ 99999) (k : ∀ g, FG h g → LC g Z d (fun i => if i = m then nm + 1 + 0 else D i) (W + 2048 * (16 * ((m : Int) + 1))) ((m : Int) + 1) (fun i => if i = m then kd + 3 * v else K i) → Q g (.inl none)) : AC mL_makes fL_makes loL_makes 0 0 h [vr (la 1), vr (la 2), vr (la 3), vr (la 4), vi nm, vi kd, vi v, vi 0, vi 1] Q := by
  have T := T0
  refine AC.mk (by decide) (Nat.le_of_ble_eq_true rfl) ?_
  refine AW.aload_n dL_makes_0 rfl ?_
  refine AW.aload_n dL_makes_1 rfl ?_
  refine AW.iconst dL_makes_2 (by decide) ?_
  refine AW.aldIE dL_makes_3 T.a4 (by omega) (by omega) (by exact C.g1) ?_
  refine AW.iload dL_makes_4 rfl ?_
  refine AW.iconst dL_makes_6 (by decide) ?_
  refine AW.iload dL_makes_7 rfl ?_
  refine AW.imulB dL_makes_9 (by omega) ?_
  refine AW.iaddB dL_makes_10 (by omega) ?_
  refine AW.astI dL_makes_11 T.a3 (by omega) (by omega) ?_
  rw [Int.toNat_natCast]
  refine AW.gen (P := fun g => FG h g ∧ LC g Z d D W (m : Int) K ∧ hI g (la 3) m = kd + 3 * v) ⟨FG.rf.w3, C.fl3 h2, by rw [hI_sIla]; exact if_pos ⟨rfl, rfl⟩⟩ (fun g1 ⟨F1, C1, y1⟩ => ?_)
  have T := F1.1.T T
  refine AW.aload_n dL_makes_12 rfl ?_
  refine AW.aload_n dL_makes_13 rfl ?_
  refine AW.iconst dL_makes_14 (by decide) ?_
  refine AW.aldIE dL_makes_15 T.a4 (by omega) (by omega) (by exact C1.g0) ?_
  refine AW.dup2 dL_makes_16 rfl rfl ?_
  refine AW.aldLE dL_makes_17 T.a1 (by omega) (by omega) (by (repeat first | apply hI_n1 rfl | apply hI_n3 rfl | apply hI_e (by omega) | apply hI_m (by omega)); exact rfl) ?_
  refine AW.iload dL_makes_18 rfl ?_
  refine AW.iconst dL_makes_20 (by decide) ?_
  refine AW.iaddB dL_makes_21 (by omega) ?_
  refine AW.iload dL_makes_22 rfl ?_
  refine AW.if_eqT (tgt := 32) dL_makes_24 rfl (by omega) ?_
  refine AW.iconst dL_makes_32 (by decide) ?_
  refine AW.iaddB dL_makes_33 (by omega) ?_
  refine AW.pcs (pc2 := 34) rfl ?_
  refine AW.i2l dL_makes_34 ?_
  refine AW.bipush dL_makes_35 bp_6 (by decide) ?_
  refine AW.aload_n dL_makes_37 rfl ?_
  refine AW.iconst dL_makes_38 (by decide) ?_
  refine AW.aldIE dL_makes_39 T.a4 (by omega) (by omega) (by exact C1.g1) ?_
  refine AW.imulB dL_makes_40 (by omega) ?_
  refine AW.lshl dL_makes_41 (by omega) ?_
  refine AW.lor dL_makes_42 ?_
  refine AW.astL dL_makes_43 T.a1 (by omega) (by omega) ?_
  rw [Int.toNat_natCast]
  refine AW.gen (P := fun g => FG h g ∧ LC g Z d (fun i => if i = m then nm + 1 + 0 else D i) W (m : Int) K ∧ hI g (la 3) m = kd + 3 * v) ⟨F1.w1, C1.dig (fun i hi => (stt_or (x := hL g1 (la 1) d) ((C1.2.2.1 m hm).trans h0) (by omega) hm hi).trans (by rw [C1.2.2.1 i hi])), y1⟩ (fun g2 ⟨F2, C2, y2⟩ => ?_)
  have T := F2.1.T T0
  refine AW.aload_n dL_makes_44 rfl ?_
  refine AW.aload_n dL_makes_45 rfl ?_
  refine AW.iconst dL_makes_46 (by decide) ?_
  refine AW.aldIE dL_makes_47 T.a4 (by omega) (by omega) (by exact C2.g0) ?_
  refine AW.dup2 dL_makes_48 rfl rfl ?_
  refine AW.aldIE dL_makes_49 T.a2 (by omega) (by omega) (by exact hIx (by omega) C2.w) ?_
  refine AW.sipush dL_makes_50 sp_2048 (by decide) ?_
  refine AW.iload dL_makes_53 rfl ?_
  refine AW.if_neT (tgt := 62) dL_makes_55 rfl (by omega) ?_
  refine AW.bipush dL_makes_62 bp_16 (by decide) ?_
  refine AW.imulB dL_makes_64 (by omega) ?_
  refine AW.aload_n dL_makes_65 rfl ?_
  refine AW.iconst dL_makes_66 (by decide) ?_
  refine AW.aldIE dL_makes_67 T.a4 (by omega) (by omega) (by exact C2.g1) ?_
  refine AW.iconst dL_makes_68 (by decide) ?_
  refine AW.pcs (pc2 := 69) rfl ?_
  refine AW.iaddB dL_makes_69 (by omega) ?_
  refine AW.imulB dL_makes_70 (by omega) ?_
  refine AW.iaddB dL_makes_71 (by omega) ?_
  refine AW.astI dL_makes_72 T.a2 (by omega) (by omega) ?_
  rw [Int.toNat_natCast]
  refine AW.gen (P := fun g => FG h g ∧ LC g Z d (fun i => if i = m then nm + 1 + 0 else D i) (W + 2048 * (16 * ((m : Int) + 1))) (m : Int) K ∧ hI g (la 3) m = kd + 3 * v) ⟨F2.w2, C2.wrd.cg (fun _ => rfl) (by omega), by rw [hI_sIla, if_neg (by omega)]; exact y2⟩ (fun g3 ⟨F3, C3, y3⟩ => ?_)
  have T := F3.1.T T0
  refine AW.aload_n dL_makes_73 rfl ?_
  refine AW.iconst dL_makes_74 (by decide) ?_
  refine AW.dup2 dL_makes_75 rfl rfl ?_
  refine AW.aldIE dL_makes_76 T.a4 (by omega) (by omega) (by exact C3.g1) ?_
  refine AW.iconst dL_makes_77 (by decide) ?_
  refine AW.iaddB dL_makes_78 (by omega) ?_
  refine AW.astI dL_makes_79 T.a4 (by omega) (by omega) ?_
  refine AW.vret dL_makes_80 rfl ?_
  exact k _ (F3.w4 (by decide)) (C3.fld' y3)
set_option maxHeartbeats 1000000 in
theorem kL_makes10 {nm kd v : Int} (T0 : LT h) (C : LC h Z d D W (m : Int) K) (hd2 : d < 13) (hm : m < 10) (h2 : Z 2 0 ≤ (m : Int)) (hW : 0 ≤ W ∧ W < 1000000000) (h0 : D m = 0) (hn : 0 ≤ nm ∧ nm ≤ 25) (hk : 0 ≤ kd ∧ kd ≤ 2) (hv : -1 ≤ v ∧ v ≤ 99999) (k : ∀ g, FG h g → LC g Z d (fun i => if i = m then nm + 1 + 32 else D i) (W + 2048 * (1 * ((m : Int) + 1))) ((m : Int) + 1) (fun i => if i = m then kd + 3 * v else K i) → Q g (.inl none)) : AC mL_makes fL_makes loL_makes 0 0 h [vr (la 1), vr (la 2), vr (la 3), vr (la 4), vi nm, vi kd, vi v, vi 1, vi 0] Q := by
  have T := T0
  refine AC.mk (by decide) (Nat.le_of_ble_eq_true rfl) ?_
  refine AW.aload_n dL_makes_0 rfl ?_
  refine AW.aload_n dL_makes_1 rfl ?_
  refine AW.iconst dL_makes_2 (by decide) ?_
  refine AW.aldIE dL_makes_3 T.a4 (by omega) (by omega) (by exact C.g1) ?_
  refine AW.iload dL_makes_4 rfl ?_
  refine AW.iconst dL_makes_6 (by decide) ?_
  refine AW.iload dL_makes_7 rfl ?_
  refine AW.imulB dL_makes_9 (by omega) ?_
  refine AW.iaddB dL_makes_10 (by omega) ?_
  refine AW.astI dL_makes_11 T.a3 (by omega) (by omega) ?_
  rw [Int.toNat_natCast]
  refine AW.gen (P := fun g => FG h g ∧ LC g Z d D W (m : Int) K ∧ hI g (la 3) m = kd + 3 * v) ⟨FG.rf.w3, C.fl3 h2, by rw [hI_sIla]; exact if_pos ⟨rfl, rfl⟩⟩ (fun g1 ⟨F1, C1, y1⟩ => ?_)
  have T := F1.1.T T
  refine AW.aload_n dL_makes_12 rfl ?_
  refine AW.aload_n dL_makes_13 rfl ?_
  refine AW.iconst dL_makes_14 (by decide) ?_
  refine AW.aldIE dL_makes_15 T.a4 (by omega) (by omega) (by exact C1.g0) ?_
  refine AW.dup2 dL_makes_16 rfl rfl ?_
  refine AW.aldLE dL_makes_17 T.a1 (by omega) (by omega) (by (repeat first | apply hI_n1 rfl | apply hI_n3 rfl | apply hI_e (by omega) | apply hI_m (by omega)); exact rfl) ?_
  refine AW.iload dL_makes_18 rfl ?_
  refine AW.iconst dL_makes_20 (by decide) ?_
  refine AW.iaddB dL_makes_21 (by omega) ?_
  refine AW.iload dL_makes_22 rfl ?_
  refine AW.if_eqF (tgt := 32) dL_makes_24 rfl (by omega) ?_
  refine AW.bipush dL_makes_27 bp_32 (by decide) ?_
  refine AW.goto (tgt := 33) dL_makes_29 rfl ?_
  refine AW.pcs (pc2 := 33) rfl ?_
  refine AW.iaddB dL_makes_33 (by omega) ?_
  refine AW.i2l dL_makes_34 ?_
  refine AW.bipush dL_makes_35 bp_6 (by decide) ?_
  refine AW.aload_n dL_makes_37 rfl ?_
  refine AW.iconst dL_makes_38 (by decide) ?_
  refine AW.aldIE dL_makes_39 T.a4 (by omega) (by omega) (by exact C1.g1) ?_
  refine AW.imulB dL_makes_40 (by omega) ?_
  refine AW.lshl dL_makes_41 (by omega) ?_
  refine AW.lor dL_makes_42 ?_
  refine AW.astL dL_makes_43 T.a1 (by omega) (by omega) ?_
  rw [Int.toNat_natCast]
  refine AW.gen (P := fun g => FG h g ∧ LC g Z d (fun i => if i = m then nm + 1 + 32 else D i) W (m : Int) K ∧ hI g (la 3) m = kd + 3 * v) ⟨F1.w1, C1.dig (fun i hi => (stt_or (x := hL g1 (la 1) d) ((C1.2.2.1 m hm).trans h0) (by omega) hm hi).trans (by rw [C1.2.2.1 i hi])), y1⟩ (fun g2 ⟨F2, C2, y2⟩ => ?_)
  have T := F2.1.T T0
  refine AW.aload_n dL_makes_44 rfl ?_
  refine AW.aload_n dL_makes_45 rfl ?_
  refine AW.iconst dL_makes_46 (by decide) ?_
  refine AW.aldIE dL_makes_47 T.a4 (by omega) (by omega) (by exact C2.g0) ?_
  refine AW.dup2 dL_makes_48 rfl rfl ?_
  refine AW.aldIE dL_makes_49 T.a2 (by omega) (by omega) (by exact hIx (by omega) C2.w) ?_
  refine AW.sipush dL_makes_50 sp_2048 (by decide) ?_
  refine AW.iload dL_makes_53 rfl ?_
  refine AW.if_neF (tgt := 62) dL_makes_55 rfl (by omega) ?_
  refine AW.iconst dL_makes_58 (by decide) ?_
  refine AW.goto (tgt := 64) dL_makes_59 rfl ?_
  refine AW.imulB dL_makes_64 (by omega) ?_
  refine AW.aload_n dL_makes_65 rfl ?_
  refine AW.iconst dL_makes_66 (by decide) ?_
  refine AW.pcs (pc2 := 67) rfl ?_
  refine AW.aldIE dL_makes_67 T.a4 (by omega) (by omega) (by exact C2.g1) ?_
  refine AW.iconst dL_makes_68 (by decide) ?_
  refine AW.iaddB dL_makes_69 (by omega) ?_
  refine AW.imulB dL_makes_70 (by omega) ?_
  refine AW.iaddB dL_makes_71 (by omega) ?_
  refine AW.astI dL_makes_72 T.a2 (by omega) (by omega) ?_
  rw [Int.toNat_natCast]
  refine AW.gen (P := fun g => FG h g ∧ LC g Z d (fun i => if i = m then nm + 1 + 32 else D i) (W + 2048 * (1 * ((m : Int) + 1))) (m : Int) K ∧ hI g (la 3) m = kd + 3 * v) ⟨F2.w2, C2.wrd.cg (fun _ => rfl) (by omega), by rw [hI_sIla, if_neg (by omega)]; exact y2⟩ (fun g3 ⟨F3, C3, y3⟩ => ?_)
  have T := F3.1.T T0
  refine AW.aload_n dL_makes_73 rfl ?_
  refine AW.iconst dL_makes_74 (by decide) ?_
  refine AW.dup2 dL_makes_75 rfl rfl ?_
  refine AW.aldIE dL_makes_76 T.a4 (by omega) (by omega) (by exact C3.g1) ?_
  refine AW.iconst dL_makes_77 (by decide) ?_
  refine AW.iaddB dL_makes_78 (by omega) ?_
  refine AW.astI dL_makes_79 T.a4 (by omega) (by omega) ?_
  refine AW.vret dL_makes_80 rfl ?_
  exact k _ (F3.w4 (by decide)) (C3.fld' y3)
set_option maxHeartbeats 1000000 in
theorem kL_makes11 {nm kd v : Int} (T0 : LT h) (C : LC h Z d D W (m : Int) K) (hd2 : d < 13) (hm : m < 10) (h2 : Z 2 0 ≤ (m : Int)) (hW : 0 ≤ W ∧ W < 1000000000) (h0 : D m = 0) (hn : 0 ≤ nm ∧ nm ≤ 25) (hk : 0 ≤ kd ∧ kd ≤ 2) (hv : -1 ≤ v ∧ v ≤ 99999) (k : ∀ g, FG h g → LC g Z d (fun i => if i = m then nm + 1 + 32 else D i) (W + 2048 * (16 * ((m : Int) + 1))) ((m : Int) + 1) (fun i => if i = m then kd + 3 * v else K i) → Q g (.inl none)) : AC mL_makes fL_makes loL_makes 0 0 h [vr (la 1), vr (la 2), vr (la 3), vr (la 4), vi nm, vi kd, vi v, vi 1, vi 1] Q := by
  have T := T0
  refine AC.mk (by decide) (Nat.le_of_ble_eq_true rfl) ?_
  refine AW.aload_n dL_makes_0 rfl ?_
  refine AW.aload_n dL_makes_1 rfl ?_
  refine AW.iconst dL_makes_2 (by decide) ?_
  refine AW.aldIE dL_makes_3 T.a4 (by omega) (by omega) (by exact C.g1) ?_
  refine AW.iload dL_makes_4 rfl ?_
  refine AW.iconst dL_makes_6 (by decide) ?_
  refine AW.iload dL_makes_7 rfl ?_
  refine AW.imulB dL_makes_9 (by omega) ?_
  refine AW.iaddB dL_makes_10 (by omega) ?_
  refine AW.astI dL_makes_11 T.a3 (by omega) (by omega) ?_
  rw [Int.toNat_natCast]
  refine AW.gen (P := fun g => FG h g ∧ LC g Z d D W (m : Int) K ∧ hI g (la 3) m = kd + 3 * v) ⟨FG.rf.w3, C.fl3 h2, by rw [hI_sIla]; exact if_pos ⟨rfl, rfl⟩⟩ (fun g1 ⟨F1, C1, y1⟩ => ?_)
  have T := F1.1.T T
  refine AW.aload_n dL_makes_12 rfl ?_
  refine AW.aload_n dL_makes_13 rfl ?_
  refine AW.iconst dL_makes_14 (by decide) ?_
  refine AW.aldIE dL_makes_15 T.a4 (by omega) (by omega) (by exact C1.g0) ?_
  refine AW.dup2 dL_makes_16 rfl rfl ?_
  refine AW.aldLE dL_makes_17 T.a1 (by omega) (by omega) (by (repeat first | apply hI_n1 rfl | apply hI_n3 rfl | apply hI_e (by omega) | apply hI_m (by omega)); exact rfl) ?_
  refine AW.iload dL_makes_18 rfl ?_
  refine AW.iconst dL_makes_20 (by decide) ?_
  refine AW.iaddB dL_makes_21 (by omega) ?_
  refine AW.iload dL_makes_22 rfl ?_
  refine AW.if_eqF (tgt := 32) dL_makes_24 rfl (by omega) ?_
  refine AW.bipush dL_makes_27 bp_32 (by decide) ?_
  refine AW.goto (tgt := 33) dL_makes_29 rfl ?_
  refine AW.pcs (pc2 := 33) rfl ?_
  refine AW.iaddB dL_makes_33 (by omega) ?_
  refine AW.i2l dL_makes_34 ?_
  refine AW.bipush dL_makes_35 bp_6 (by decide) ?_
  refine AW.aload_n dL_makes_37 rfl ?_
  refine AW.iconst dL_makes_38 (by decide) ?_
  refine AW.aldIE dL_makes_39 T.a4 (by omega) (by omega) (by exact C1.g1) ?_
  refine AW.imulB dL_makes_40 (by omega) ?_
  refine AW.lshl dL_makes_41 (by omega) ?_
  refine AW.lor dL_makes_42 ?_
  refine AW.astL dL_makes_43 T.a1 (by omega) (by omega) ?_
  rw [Int.toNat_natCast]
  refine AW.gen (P := fun g => FG h g ∧ LC g Z d (fun i => if i = m then nm + 1 + 32 else D i) W (m : Int) K ∧ hI g (la 3) m = kd + 3 * v) ⟨F1.w1, C1.dig (fun i hi => (stt_or (x := hL g1 (la 1) d) ((C1.2.2.1 m hm).trans h0) (by omega) hm hi).trans (by rw [C1.2.2.1 i hi])), y1⟩ (fun g2 ⟨F2, C2, y2⟩ => ?_)
  have T := F2.1.T T0
  refine AW.aload_n dL_makes_44 rfl ?_
  refine AW.aload_n dL_makes_45 rfl ?_
  refine AW.iconst dL_makes_46 (by decide) ?_
  refine AW.aldIE dL_makes_47 T.a4 (by omega) (by omega) (by exact C2.g0) ?_
  refine AW.dup2 dL_makes_48 rfl rfl ?_
  refine AW.aldIE dL_makes_49 T.a2 (by omega) (by omega) (by exact hIx (by omega) C2.w) ?_
  refine AW.sipush dL_makes_50 sp_2048 (by decide) ?_
  refine AW.iload dL_makes_53 rfl ?_
  refine AW.if_neT (tgt := 62) dL_makes_55 rfl (by omega) ?_
  refine AW.bipush dL_makes_62 bp_16 (by decide) ?_
  refine AW.imulB dL_makes_64 (by omega) ?_
  refine AW.aload_n dL_makes_65 rfl ?_
  refine AW.iconst dL_makes_66 (by decide) ?_
  refine AW.aldIE dL_makes_67 T.a4 (by omega) (by omega) (by exact C2.g1) ?_
  refine AW.pcs (pc2 := 68) rfl ?_
  refine AW.iconst dL_makes_68 (by decide) ?_
  refine AW.iaddB dL_makes_69 (by omega) ?_
  refine AW.imulB dL_makes_70 (by omega) ?_
  refine AW.iaddB dL_makes_71 (by omega) ?_
  refine AW.astI dL_makes_72 T.a2 (by omega) (by omega) ?_
  rw [Int.toNat_natCast]
  refine AW.gen (P := fun g => FG h g ∧ LC g Z d (fun i => if i = m then nm + 1 + 32 else D i) (W + 2048 * (16 * ((m : Int) + 1))) (m : Int) K ∧ hI g (la 3) m = kd + 3 * v) ⟨F2.w2, C2.wrd.cg (fun _ => rfl) (by omega), by rw [hI_sIla, if_neg (by omega)]; exact y2⟩ (fun g3 ⟨F3, C3, y3⟩ => ?_)
  have T := F3.1.T T0
  refine AW.aload_n dL_makes_73 rfl ?_
  refine AW.iconst dL_makes_74 (by decide) ?_
  refine AW.dup2 dL_makes_75 rfl rfl ?_
  refine AW.aldIE dL_makes_76 T.a4 (by omega) (by omega) (by exact C3.g1) ?_
  refine AW.iconst dL_makes_77 (by decide) ?_
  refine AW.iaddB dL_makes_78 (by omega) ?_
  refine AW.astI dL_makes_79 T.a4 (by omega) (by omega) ?_
  refine AW.vret dL_makes_80 rfl ?_
  exact k _ (F3.w4 (by decide)) (C3.fld' y3)
end D0
