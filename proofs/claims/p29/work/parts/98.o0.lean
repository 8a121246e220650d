/-! ===== the class: the constructor ===== -/
section ANC
variable {M : MI} {fr lo mc ms bc bs pc : Nat} {Q : AH → AO → Prop} {h : AH} {loc : AL} {st : List AV}
theorem AW.anewC {t N idx : Nat} {C9 : String} {len : Int} (n : Nm) (hn : hT h n = none) (hd : decode M.2.1 pc = .ok (.anewarray idx, 3)) (ht : t < 11) (hty : ety t = .object (C9)) (hw : Cond.classLink M.1.cls idx (C9) ∈ gtbl) (hao : Cond.arrayOver (.object (C9)) ∈ xtbl) (hN : len = (N : Int)) (hb0 : N < 60000000)
    (hb1 : Nat.ble 1 bc = true) (hb2 : Nat.ble N bs = true) (kk : AW M fr lo mc ms Q (bc - 1) (bs - N) (pc + 3) (aN h n (20 + t) N) loc (vr n :: st)) : AW M fr lo mc ms Q bc bs pc h loc (vi len :: st) := by
  intro p l e s m args below meth c D dA B0 H0 C dom0 al0 al H locs cells slots ls hZ hA hS hc hs ho hv hl9
  have hW := C.2.2.2.2.2.2.2.2.1
  have hts := C.2.2.2.2.2.2.1
  have b1 := Nat.le_of_ble_eq_true hb1
  have b2 := Nat.le_of_ble_eq_true hb2
  have hi : inR len := hv.hd
  have hcl : (Int32.ofInt len).toNatClampNeg = N := by rw [i32_cl hi, hN]; rfl
  refine W.anew C.1 C.2.1 C.2.2.2.2.1 (hts _ hw) (va_AO.use (hW.2.2.2.2.2.2.2.2 _ hao)) rfl hd rfl (by rw [i32_ltz hi]; omega) (by rw [hcl]; omega) (by show cells + 1 ≤ mc; omega) (by rw [hcl]; show slots + N ≤ ms; omega) fun cA kA comp f1 f2 f3 f4 => ?_
  rw [hcl]
  have hra := (hW.1.2 t _ (tys_at dA t ht)).2
  dsimp only at hra
  rw [hty] at hra
  obtain ⟨_, _, _, _, _, q4⟩ := hra
  have hcA : cA = dA t := Option.some.inj (f1.symm.trans q4)
  refine AW.come (H := H) st hn kk b1 b2 C hZ hA hS hc hs ho hv.tl hl9 (by simp) (fun q hq => by rw [Array.getElem?_push, if_neg (Nat.ne_of_lt hq)]) ?_
  unfold relC
  rw [hT_aN, if_pos rfl]
  dsimp only
  rw [if_neg (by omega), if_pos (by omega), Nat.add_sub_cancel_left]
  have e9 : nal al n H.size n = H.size := if_pos rfl
  rw [e9]
  refine ⟨Nat.le_trans hW.2.2.1 hS.1, by omega, ?_⟩
  rw [arrV_new, hcA]
  simp only [Array.getElem?_push_size]
  congr 2
  funext j
  unfold aval
  rw [pv_new, hty]
  rfl
end ANC
section O0
variable {Q : AH → AO → Prop} {h g : AH} {Z : ZT}
def fln (x : Nat) : Nat := if x = 1 then 4 else if x = 3 then 20 else if x = 5 then 512 else 8
/-- the object with its arrays below k -/
def IFm (h g : AH) (k : Nat) : Prop := Fr (fun n => ¬ n.1 = 3) h g ∧ hT g (3, 0, 0) = some (8, 0) ∧ (∀ x, 1 ≤ x → x < k → hT g (3, x, 0) = some (22 + x, fln x) ∧ hR g (3, 0, 0) (x - 1) = some (3, x, 0) ∧ ∀ i, hR g (3, x, 0) i = none) ∧ (∀ x, 1 ≤ x → k ≤ x → hT g (3, x, 0) = none) ∧ ∀ i, hI g (3, 0, 0) i = 0
theorem IFm.z (n3 : ∀ x, hT h (3, x, 0) = none) : IFm h (aN h (3, 0, 0) 8 0) 1 := by
  refine ⟨Fr.rf.nw (fun z => z rfl), by rw [hT_aN, if_pos rfl], fun x h1 h2 => absurd h1 (by omega), fun x h1 _ => ?_, fun i => by rw [hI_aN, if_pos rfl]⟩
  rw [hT_aN, if_neg (by simp; omega)]; exact n3 x
theorem IFm.nw {k K L : Nat} (I : IFm h g k) (h1 : 1 ≤ k) (eK : K = 22 + k) (eL : L = fln k) : IFm h (sR (aN g (3, k, 0) K L) (3, 0, 0) (k - 1) (some (3, k, 0))) (k + 1) := by
  obtain ⟨i1, i2, i3, i4, i5⟩ := I
  have ne : ∀ x : Nat, ¬ x = k → ¬ ((3, x, 0) : Nm) = (3, k, 0) := fun x hx z => hx (congrArg (fun n : Nm => n.2.1) z)
  have ne0 : ∀ x : Nat, ¬ x = 0 → ¬ ((3, x, 0) : Nm) = (3, 0, 0) := fun x hx z => hx (congrArg (fun n : Nm => n.2.1) z)
  refine ⟨(i1.nw (fun z => z rfl)).wR (fun z => z rfl), ?_, fun x h2 h3 => ?_, fun x h2 h3 => ?_, fun i => ?_⟩
  · rw [hT_sR, hT_aN, if_neg (ne 0 (by omega))]; exact i2
  · by_cases y : x = k
    · subst y
      rw [hT_sR, hT_aN, if_pos rfl, hR_sR, if_pos ⟨rfl, rfl⟩, eK, eL]
      exact ⟨rfl, rfl, fun i => by rw [hR_sR, if_neg (fun z => ne0 x (by omega) z.1), hR_aN, if_pos rfl]⟩
    · obtain ⟨q1, q2, q3⟩ := i3 x h2 (by omega)
      rw [hT_sR, hT_aN, if_neg (ne x y), hR_sR, if_neg (fun z => by omega), hR_aN, if_neg (ne 0 (by omega))]
      exact ⟨q1, q2, fun i => by rw [hR_sR, if_neg (fun z => ne0 x (by omega) z.1), hR_aN, if_neg (ne x y)]; exact q3 i⟩
  · rw [hT_sR, hT_aN, if_neg (ne x (by omega))]; exact i4 x h2 (by omega)
  · rw [hI_sR, hI_aN, if_neg (ne 0 (by omega))]; exact i5 i
set_option maxHeartbeats 1000000 in
theorem kX7_n (n3 : ∀ x, hT h (3, x, 0) = none) (n12 : ∀ x, hT h (12, 0, x) = none) (k : ∀ g, IFm h g 6 → Q (sR (cst (aN g (12, 0, 0) 6 0) 12 0) (3, 0, 0) 5 (some (12, 0, 0))) (.inl none)) : AC mX7_init fX7_init loX7_init 9 800 (aN h (3, 0, 0) 8 0) [vr mF] Q := by
  refine AC.mk (by decide) (Nat.le_of_ble_eq_true rfl) ?_
  refine AW.gen (P := fun g => IFm h g 1) (IFm.z n3) (fun g I => ?_)
  refine AW.aload_n dX7_init_0 rfl ?_
  refine AW.objInit dX7_init_1 lkX7_3 oi1 oi2 rfl rfl rfl ?_
  refine AW.aload_n dX7_init_4 rfl ?_
  refine AW.iconst dX7_init_5 (by decide) ?_
  refine AW.anew (t := 3) (N := 4) (kc := 5) (3, 1, 0) (I.2.2.2.1 1 (by decide) (Nat.le_refl _)) dX7_init_6 (by decide) rfl lkX7_9 aov_Schema rfl (by decide) rfl rfl ?_
  refine AW.putR (j := 0) dX7_init_9 (hT_old (by simp) I.2.1) rfl rfl inC8 lkX7_11 rfl (Or.inr ⟨rfl, rfl, rfl⟩) ?_
  refine AW.gen (P := fun g => IFm h g 2) (I.nw (k := 1) (K := 23) (L := 4) (by decide) rfl rfl) (fun g I => ?_)
  refine AW.aload_n dX7_init_12 rfl ?_
  refine AW.bipush dX7_init_13 bp_8 (by decide) ?_
  refine AW.anewC (t := 4) (N := 8) (C9 := "FieldMigrator$Form") (3, 2, 0) (I.2.2.2.1 2 (by decide) (Nat.le_refl _)) dX7_init_15 (by decide) rfl lkX7_15 aov_Form rfl (by decide) rfl rfl ?_
  refine AW.putR (j := 1) dX7_init_18 (hT_old (by simp) I.2.1) rfl rfl inC8 lkX7_17 rfl (Or.inr ⟨rfl, rfl, rfl⟩) ?_
  refine AW.gen (P := fun g => IFm h g 3) (I.nw (k := 2) (K := 24) (L := 8) (by decide) rfl rfl) (fun g I => ?_)
  refine AW.aload_n dX7_init_21 rfl ?_
  refine AW.bipush dX7_init_22 bp_20 (by decide) ?_
  refine AW.anew (t := 5) (N := 20) (kc := 4) (3, 3, 0) (I.2.2.2.1 3 (by decide) (Nat.le_refl _)) dX7_init_24 (by decide) rfl lkX7_21 aov_Row rfl (by decide) rfl rfl ?_
  refine AW.putR (j := 2) dX7_init_27 (hT_old (by simp) I.2.1) rfl rfl inC8 lkX7_23 rfl (Or.inr ⟨rfl, rfl, rfl⟩) ?_
  refine AW.gen (P := fun g => IFm h g 4) (I.nw (k := 3) (K := 25) (L := 20) (by decide) rfl rfl) (fun g I => ?_)
  refine AW.aload_n dX7_init_30 rfl ?_
  refine AW.bipush dX7_init_31 bp_8 (by decide) ?_
  refine AW.anew (t := 6) (N := 8) (kc := 3) (3, 4, 0) (I.2.2.2.1 4 (by decide) (Nat.le_refl _)) dX7_init_33 (by decide) rfl lkX7_27 aov_Mover rfl (by decide) rfl rfl ?_
  refine AW.putR (j := 3) dX7_init_36 (hT_old (by simp) I.2.1) rfl rfl inC8 lkX7_29 rfl (Or.inr ⟨rfl, rfl, rfl⟩) ?_
  refine AW.gen (P := fun g => IFm h g 5) (I.nw (k := 4) (K := 26) (L := 8) (by decide) rfl rfl) (fun g I => ?_)
  refine AW.aload_n dX7_init_39 rfl ?_
  refine AW.sipush dX7_init_40 sp_512 (by decide) ?_
  refine AW.anew (t := 7) (N := 512) (kc := 2) (3, 5, 0) (I.2.2.2.1 5 (by decide) (Nat.le_refl _)) dX7_init_43 (by decide) rfl lkX7_33 aov_Move rfl (by decide) rfl rfl ?_
  refine AW.putR (j := 4) dX7_init_46 (hT_old (by simp) I.2.1) rfl rfl inC8 lkX7_35 rfl (Or.inr ⟨rfl, rfl, rfl⟩) ?_
  refine AW.gen (P := fun g => IFm h g 6) (I.nw (k := 5) (K := 27) (L := 512) (by decide) rfl rfl) (fun g I => ?_)
  have m12 : ∀ x, hT g (12, 0, x) = none := fun x => by rw [I.1.T (by simp)]; exact n12 x
  have ne : ∀ i j : Nat, ¬ i = j → ¬ ((12, 0, i) : Nm) = (12, 0, j) := fun i j q e => q (by simpa using e)
  have o3 : hT (cst (aN g (12, 0, 0) 6 0) 12 0) (3, 0, 0) = some (8, 0) := by
    rw [hT_cst]
    unfold cst3 cst2 cst1
    simp [hT_aN, hT_sR, I.2.1]
  refine AW.aload_n dX7_init_49 rfl ?_
  refine AW.new (kc := 6) (12, 0, 0) (m12 0) dX7_init_50 rfl inC6 lkX7_39 insX5 iniX5 rfl rfl ?_
  refine AW.dup dX7_init_53 rfl ?_
  refine AW.callI (as := []) dX7_init_54 rfl rfl rfl okX5_init lkX7_41 rfl rfl rfl rfl rfl (kX5_init hT_new (hT_old (ne _ _ (by decide)) (m12 1)) (hT_old (ne _ _ (by decide)) (m12 2)) (hT_old (ne _ _ (by decide)) (m12 3)) (AW.k0 ?_))
  refine AW.putR (j := 5) dX7_init_57 o3 rfl rfl inC8 lkX7_42 rfl (Or.inr ⟨rfl, rfl, rfl⟩) ?_
  refine AW.vret dX7_init_60 rfl ?_
  exact k g I
/-- the fresh model -/
def Z00 (Z : ZT) : Prop := (∀ j, j < 49 → ¬ j = 5 → ∀ i, Z j i = 0) ∧ (∀ i, i < 4608 → Z 5 i = -1) ∧ ∀ i, -1 ≤ Z 5 i ∧ Z 5 i ≤ 25
set_option maxHeartbeats 1000000 in
theorem SIM_0 (Z0 : Z00 Z) (nf : ∀ a b i : Nat, 4 ≤ a → a ≤ 14 → hT h (a, b, i) = none) (I : IFm h g 6) : SIM (sR (cst (aN g (12, 0, 0) 6 0) 12 0) (3, 0, 0) 5 (some (12, 0, 0))) Z 0 ∧ Fr nMo h (sR (cst (aN g (12, 0, 0) 6 0) 12 0) (3, 0, 0) 5 (some (12, 0, 0))) := by
  obtain ⟨F, i2, i3, -, i5⟩ := I
  have z := fun j hj h5 i => Z0.1 j hj h5 i
  have Fc : Fr (fun n => ¬ n.1 = 12) g (cst (aN g (12, 0, 0) 6 0) 12 0) := by
    unfold cst
    refine Fr.fl ?_ (fun z => z rfl)
    unfold cst3 cst2 cst1
    exact ((((((Fr.rf.nw (fun z => z rfl)).nw (fun z => z rfl)).wR (fun z => z rfl)).nw (fun z => z rfl)).wR (fun z => z rfl)).nw (fun z => z rfl)).wR (fun z => z rfl)
  have F3 : Fr (fun n => ¬ n.1 = 3) (cst (aN g (12, 0, 0) 6 0) 12 0) (sR (cst (aN g (12, 0, 0) 6 0) 12 0) (3, 0, 0) 5 (some (12, 0, 0))) := Fr.rf.wR (fun z => z rfl)
  have FG : Fr (fun n => (¬ n.1 = 3 ∧ ¬ n.1 = 12)) h (sR (cst (aN g (12, 0, 0) 6 0) 12 0) (3, 0, 0) 5 (some (12, 0, 0))) := ((F.mo (fun n z => z.1)).tr (Fc.mo (fun n z => z.2))).tr (F3.mo (fun n z => z.1))
  have W12 : StaW (sR (cst (aN g (12, 0, 0) 6 0) 12 0) (3, 0, 0) 5 (some (12, 0, 0))) 12 0 := (cst_S (b := 0) hT_new).f F3 (fun j => by simp)
  have t3 : ∀ x, hT (sR (cst (aN g (12, 0, 0) 6 0) 12 0) (3, 0, 0) 5 (some (12, 0, 0))) (3, x, 0) = hT g (3, x, 0) := fun x => by rw [hT_sR, Fc.T (by simp)]
  have i3' : ∀ j, hI (sR (cst (aN g (12, 0, 0) 6 0) 12 0) (3, 0, 0) 5 (some (12, 0, 0))) (3, 0, 0) j = 0 := fun j => by rw [hI_sR, Fc.I (by simp)]; exact i5 j
  have r0 : ∀ j, ¬ j = 5 → hR (sR (cst (aN g (12, 0, 0) 6 0) 12 0) (3, 0, 0) 5 (some (12, 0, 0))) (3, 0, 0) j = hR g (3, 0, 0) j := fun j hj => by rw [hR_sR, if_neg (fun w => hj w.2), Fc.R (by simp)]
  have r5 : hR (sR (cst (aN g (12, 0, 0) 6 0) 12 0) (3, 0, 0) 5 (some (12, 0, 0))) (3, 0, 0) 5 = some (12, 0, 0) := by rw [hR_sR, if_pos ⟨rfl, rfl⟩]
  have rx : ∀ x j, 1 ≤ x → x < 6 → hR (sR (cst (aN g (12, 0, 0) 6 0) 12 0) (3, 0, 0) 5 (some (12, 0, 0))) (3, x, 0) j = none := fun x j h1 h2 => by rw [hR_sR, if_neg (by simp; omega), Fc.R (by simp)]; exact (i3 x h1 h2).2.2 j
  generalize sR (cst (aN g (12, 0, 0) 6 0) 12 0) (3, 0, 0) 5 (some (12, 0, 0)) = G at *
  have z0 := z 0 (by decide) (by decide) 0
  have z13 := z 13 (by decide) (by decide) 0
  have z19 := z 19 (by decide) (by decide) 0
  have z28 := z 28 (by decide) (by decide) 0
  have z32 := z 32 (by decide) (by decide) 0
  have z27 := z 27 (by decide) (by decide) 0
  have a := fun x h1 h2 => i3 x h1 h2
  refine ⟨⟨fun _ => 0, ⟨?_, ?_, ?_, W12, ?_, ?_⟩, ⟨?_, ?_, ?_, ?_, ?_, ?_⟩, ?_, ?_, ?_, ?_, ?_⟩, FG.mo (fun n w => ⟨fun v => ?_, fun v => ?_⟩)⟩
  · refine ⟨(t3 0).trans i2, ⟨(r0 0 (by decide)).trans (a 1 (by decide) (by decide)).2.1, (t3 1).trans (a 1 (by decide) (by decide)).1⟩, ⟨(r0 1 (by decide)).trans (a 2 (by decide) (by decide)).2.1, (t3 2).trans (a 2 (by decide) (by decide)).1⟩, ⟨(r0 2 (by decide)).trans (a 3 (by decide) (by decide)).2.1, (t3 3).trans (a 3 (by decide) (by decide)).1⟩, ⟨(r0 3 (by decide)).trans (a 4 (by decide) (by decide)).2.1, (t3 4).trans (a 4 (by decide) (by decide)).1⟩, ⟨(r0 4 (by decide)).trans (a 5 (by decide) (by decide)).2.1, (t3 5).trans (a 5 (by decide) (by decide)).1⟩, r5⟩
  · unfold FmC
    rw [i3', i3', i3', i3', i3']
    refine ⟨⟨by omega, fun i _ => ?_⟩, ⟨by omega, fun i _ => ?_⟩, ⟨by omega, fun i _ => ?_⟩, ⟨by omega, fun i _ => ?_⟩, ⟨by omega, fun i _ => ?_⟩⟩
    · rw [rx 1 i (by decide) (by decide), if_neg (by omega)]
    · rw [rx 2 i (by decide) (by decide), if_neg (by omega)]
    · rw [rx 3 i (by decide) (by decide), if_neg (by omega)]
    · rw [rx 4 i (by decide) (by decide), if_neg (by omega)]
    · rw [rx 5 i (by decide) (by decide), if_neg (by omega)]
  · rw [i3', i3', i3', i3', i3', z0, z13, z19, z28, z32]; exact ⟨rfl, rfl, rfl, rfl, rfl⟩
  · intro s hs; omega
  · rw [z27, z32]; exact ⟨by omega, by omega, by omega⟩
  · intro s i _ _; rw [FG.T ⟨by simp, by simp⟩]; exact nf 4 s i (by decide) (by decide)
  · intro s v _ _ _
    rw [FG.T ⟨by simp, by simp⟩, FG.T ⟨by simp, by simp⟩, FG.T ⟨by simp, by simp⟩]
    exact ⟨nf 5 _ _ (by decide) (by decide), nf 6 _ _ (by decide) (by decide), nf 7 _ _ (by decide) (by decide)⟩
  · intro x _; rw [FG.T ⟨by simp, by simp⟩]; exact nf 8 _ _ (by decide) (by decide)
  · intro x _
    rw [FG.T ⟨by simp, by simp⟩]
    exact ⟨nf 9 _ _ (by decide) (by decide), fun i => by rw [FG.T ⟨by simp, by simp⟩]; exact nf 13 _ _ (by decide) (by decide)⟩
  · intro x _; rw [FG.T ⟨by simp, by simp⟩]; exact nf 10 _ _ (by decide) (by decide)
  · intro x _
    rw [FG.T ⟨by simp, by simp⟩]
    exact ⟨nf 11 _ _ (by decide) (by decide), fun i => by rw [FG.T ⟨by simp, by simp⟩]; exact nf 14 _ _ (by decide) (by decide)⟩
  · intro s hs; omega
  · intro x hs; omega
  · intro x hs; omega
  · intro x hs; omega
  · intro x hs; omega
  · rcases w with w | w <;> omega
  · rcases w with w | w <;> omega
end O0
