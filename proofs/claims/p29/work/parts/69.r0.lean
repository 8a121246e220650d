/-! ===== the relation: frames, the class's cells ===== -/
section R0
variable {h h' g : AH} {s : Nat} {P : Nm → Prop}
abbrev eIx : String := "java/lang/IndexOutOfBoundsException"
abbrev eIa : String := "java/lang/IllegalArgumentException"
abbrev eIs : String := "java/lang/IllegalStateException"
abbrev mF : Nm := (3, 0, 0)
/-- the cells named by P are as they were -/
def Fr (P : Nm → Prop) (h h' : AH) : Prop := ∀ n, P n → hT h' n = hT h n ∧ (∀ i, hI h' n i = hI h n i) ∧ (∀ i, hL h' n i = hL h n i) ∧ (∀ i, hR h' n i = hR h n i)
theorem Fr.rf : Fr P h h := fun _ _ => ⟨rfl, fun _ => rfl, fun _ => rfl, fun _ => rfl⟩
theorem Fr.tr (a : Fr P h g) (b : Fr P g h') : Fr P h h' := fun n hn => ⟨(b n hn).1.trans (a n hn).1, fun i => ((b n hn).2.1 i).trans ((a n hn).2.1 i), fun i => ((b n hn).2.2.1 i).trans ((a n hn).2.2.1 i), fun i => ((b n hn).2.2.2 i).trans ((a n hn).2.2.2 i)⟩
theorem Fr.mo {P' : Nm → Prop} (a : Fr P h h') (k : ∀ n, P' n → P n) : Fr P' h h' := fun n hn => a n (k n hn)
theorem Fr.T (a : Fr P h h') {n : Nm} (hn : P n) : hT h' n = hT h n := (a n hn).1
theorem Fr.I (a : Fr P h h') {n : Nm} (hn : P n) (i : Nat) : hI h' n i = hI h n i := (a n hn).2.1 i
theorem Fr.L (a : Fr P h h') {n : Nm} (hn : P n) (i : Nat) : hL h' n i = hL h n i := (a n hn).2.2.1 i
theorem Fr.R (a : Fr P h h') {n : Nm} (hn : P n) (i : Nat) : hR h' n i = hR h n i := (a n hn).2.2.2 i
theorem Fr.wI {n : Nm} {i : Nat} {v : Int} (a : Fr P h g) (hn : ¬ P n) : Fr P h (sI g n i v) := a.tr fun m hm => by
  have e : ∀ j, ¬ (m = n ∧ j = i) := fun j z => hn (z.1 ▸ hm)
  exact ⟨rfl, fun j => by rw [hI_sI, if_neg (e j)], fun _ => rfl, fun _ => rfl⟩
theorem Fr.wL {n : Nm} {i : Nat} {v : Int64} (a : Fr P h g) (hn : ¬ P n) : Fr P h (sL g n i v) := a.tr fun m hm => by
  have e : ∀ j, ¬ (m = n ∧ j = i) := fun j z => hn (z.1 ▸ hm)
  exact ⟨rfl, fun _ => rfl, fun j => by rw [hL_sL, if_neg (e j)], fun _ => rfl⟩
theorem Fr.wR {n : Nm} {i : Nat} {v : Option Nm} (a : Fr P h g) (hn : ¬ P n) : Fr P h (sR g n i v) := a.tr fun m hm => by
  have e : ∀ j, ¬ (m = n ∧ j = i) := fun j z => hn (z.1 ▸ hm)
  exact ⟨rfl, fun _ => rfl, fun _ => rfl, fun j => by rw [hR_sR, if_neg (e j)]⟩
theorem Fr.nw {n : Nm} {k l : Nat} (a : Fr P h g) (hn : ¬ P n) : Fr P h (aN g n k l) := a.tr fun m hm => by
  have e : ¬ m = n := fun z => hn (z ▸ hm)
  exact ⟨by rw [hT_aN, if_neg e], fun _ => by rw [hI_aN, if_neg e], fun _ => by rw [hL_aN, if_neg e], fun _ => by rw [hR_aN, if_neg e]⟩
theorem Fr.fl {n : Nm} {f : Nat → Int} {i : Nat} (a : Fr P h g) (hn : ¬ P n) : Fr P h (hfl g n f i) := a.tr fun m hm => by
  have e : ∀ j, ¬ (m = n ∧ j < i) := fun j z => hn (z.1 ▸ hm)
  exact ⟨rfl, fun j => by rw [hI_hfl, if_neg (e j)], fun _ => rfl, fun _ => rfl⟩
theorem Fr.cp {n m : Nm} {l : Nat} (a : Fr P h g) (hn : ¬ P n) : Fr P h (cpI g m n l) := a.tr fun q hq => by
  have e : ∀ j, ¬ (q = n ∧ j < l) := fun j z => hn (z.1 ▸ hq)
  exact ⟨rfl, fun j => by rw [hI_cpI, if_neg (e j)], fun _ => rfl, fun _ => rfl⟩
theorem Fr.scr (a : Scr s h h') (hn : ∀ n, P n → ¬ scn s n) : Fr P h h' := fun n q => ⟨by rw [a.1], fun i => a.2.2.2 n i (hn n q), fun _ => by rw [a.2.1], fun _ => by rw [a.2.2.1]⟩
/-- types only come -/
def Gr (h h' : AH) : Prop := ∀ n, hT h n ≠ none → hT h' n = hT h n
/-! the object -/
def FmW (h : AH) : Prop := hT h (3, 0, 0) = some (8, 0) ∧ (hR h (3, 0, 0) 0 = some (3, 1, 0) ∧ hT h (3, 1, 0) = some (23, 4)) ∧ (hR h (3, 0, 0) 1 = some (3, 2, 0) ∧ hT h (3, 2, 0) = some (24, 8)) ∧ (hR h (3, 0, 0) 2 = some (3, 3, 0) ∧ hT h (3, 3, 0) = some (25, 20)) ∧ (hR h (3, 0, 0) 3 = some (3, 4, 0) ∧ hT h (3, 4, 0) = some (26, 8)) ∧ (hR h (3, 0, 0) 4 = some (3, 5, 0) ∧ hT h (3, 5, 0) = some (27, 512)) ∧ hR h (3, 0, 0) 5 = some (12, 0, 0)
theorem FmW.o (W : FmW h) : hT h (3, 0, 0) = some (8, 0) := W.1
theorem FmW.r0 (W : FmW h) : hR h (3, 0, 0) 0 = some (3, 1, 0) := W.2.1.1
theorem FmW.t0 (W : FmW h) : hT h (3, 1, 0) = some (23, 4) := W.2.1.2
theorem FmW.r1 (W : FmW h) : hR h (3, 0, 0) 1 = some (3, 2, 0) := W.2.2.1.1
theorem FmW.t1 (W : FmW h) : hT h (3, 2, 0) = some (24, 8) := W.2.2.1.2
theorem FmW.r2 (W : FmW h) : hR h (3, 0, 0) 2 = some (3, 3, 0) := W.2.2.2.1.1
theorem FmW.t2 (W : FmW h) : hT h (3, 3, 0) = some (25, 20) := W.2.2.2.1.2
theorem FmW.r3 (W : FmW h) : hR h (3, 0, 0) 3 = some (3, 4, 0) := W.2.2.2.2.1.1
theorem FmW.t3 (W : FmW h) : hT h (3, 4, 0) = some (26, 8) := W.2.2.2.2.1.2
theorem FmW.r4 (W : FmW h) : hR h (3, 0, 0) 4 = some (3, 5, 0) := W.2.2.2.2.2.1.1
theorem FmW.t4 (W : FmW h) : hT h (3, 5, 0) = some (27, 512) := W.2.2.2.2.2.1.2
theorem FmW.r5 (W : FmW h) : hR h (3, 0, 0) 5 = some (12, 0, 0) := W.2.2.2.2.2.2
/-- the counted arrays -/
def FmC (h : AH) : Prop := ((0 ≤ hI h (3, 0, 0) 6 ∧ hI h (3, 0, 0) 6 ≤ 4) ∧ ∀ i : Nat, i < 4 → hR h (3, 1, 0) i = if (i : Int) < hI h (3, 0, 0) 6 then some (4, i, 0) else none)
  ∧ ((0 ≤ hI h (3, 0, 0) 7 ∧ hI h (3, 0, 0) 7 ≤ 8) ∧ ∀ i : Nat, i < 8 → hR h (3, 2, 0) i = if (i : Int) < hI h (3, 0, 0) 7 then some (8, i, 0) else none)
  ∧ ((0 ≤ hI h (3, 0, 0) 8 ∧ hI h (3, 0, 0) 8 ≤ 20) ∧ ∀ i : Nat, i < 20 → hR h (3, 3, 0) i = if (i : Int) < hI h (3, 0, 0) 8 then some (9, i, 0) else none)
  ∧ ((0 ≤ hI h (3, 0, 0) 9 ∧ hI h (3, 0, 0) 9 ≤ 8) ∧ ∀ i : Nat, i < 8 → hR h (3, 4, 0) i = if (i : Int) < hI h (3, 0, 0) 9 then some (10, i, 0) else none)
  ∧ ((0 ≤ hI h (3, 0, 0) 10 ∧ hI h (3, 0, 0) 10 ≤ 512) ∧ ∀ i : Nat, i < 512 → hR h (3, 5, 0) i = if (i : Int) < hI h (3, 0, 0) 10 then some (11, i, 0) else none)
def ForW (h : AH) (g s : Nat) : Prop := hT h (8, g, 0) = some (1, 0) ∧ hR h (8, g, 0) 0 = some (4, s, 0)
theorem ForW.o {g : Nat} (W : ForW h g s) : hT h (8, g, 0) = some (1, 0) := W.1
theorem ForW.r0 {g : Nat} (W : ForW h g s) : hR h (8, g, 0) 0 = some (4, s, 0) := W.2
def RowW (h : AH) (r s : Nat) : Prop := hT h (9, r, 0) = some (4, 0) ∧ hR h (9, r, 0) 0 = some (4, s, 0) ∧ hR h (9, r, 0) 1 = some (13, r, 0)
theorem RowW.o {r : Nat} (W : RowW h r s) : hT h (9, r, 0) = some (4, 0) := W.1
theorem RowW.r0 {r : Nat} (W : RowW h r s) : hR h (9, r, 0) 0 = some (4, s, 0) := W.2.1
theorem RowW.r1 {r : Nat} (W : RowW h r s) : hR h (9, r, 0) 1 = some (13, r, 0) := W.2.2
def MvrW (h : AH) (m s : Nat) : Prop := hT h (10, m, 0) = some (3, 0) ∧ hR h (10, m, 0) 0 = some (4, s, 0)
theorem MvrW.o {m : Nat} (W : MvrW h m s) : hT h (10, m, 0) = some (3, 0) := W.1
theorem MvrW.r0 {m : Nat} (W : MvrW h m s) : hR h (10, m, 0) 0 = some (4, s, 0) := W.2
def MovW (h : AH) (k : Nat) : Prop := hT h (11, k, 0) = some (2, 0) ∧ hR h (11, k, 0) 3 = some (14, k, 0) ∧ StaW h 14 k
theorem MovW.o {k : Nat} (W : MovW h k) : hT h (11, k, 0) = some (2, 0) := W.1
theorem MovW.r3 {k : Nat} (W : MovW h k) : hR h (11, k, 0) 3 = some (14, k, 0) := W.2.1
end R0
section R0b
variable {Q : AH → AO → Prop} {h : AH} {s : Nat}
theorem kX7_schemaAt {s : Int} (W : FmW h) (C : FmC h) (kE : ¬ (0 ≤ s ∧ s < hI h (3, 0, 0) 6) → Q h (.inr eIx)) (kO : (0 ≤ s ∧ s < hI h (3, 0, 0) 6) → Q h (.inl (some (vr (4, s.toNat, 0))))) : AC mX7_schemaAt fX7_schemaAt loX7_schemaAt 1 6 h [vr (3, 0, 0), vi s] Q := by
  have C0 := C.1.1
  refine AC.mk (by decide) (Nat.le_of_ble_eq_true rfl) ?_
  by_cases c : 0 ≤ s ∧ s < hI h (3, 0, 0) 6
  · have e : hR h (3, 1, 0) s.toNat = some (4, s.toNat, 0) := by rw [C.1.2 _ (by omega), if_pos (by omega)]
    refine AW.iload_n dX7_schemaAt_0 rfl ?_
    refine AW.if_lt (tgt := 22) dX7_schemaAt_1 rfl (fun c_1 => ?_) (fun c_1 => ?_)
    · exact absurd c_1 (by omega)
    · refine AW.iload_n dX7_schemaAt_4 rfl ?_
      refine AW.aload_n dX7_schemaAt_5 rfl ?_
      refine AW.getRE (j := 0) W.o dX7_schemaAt_6 lkX7_11 rfl rfl inC8 rfl W.r0 ?_
      refine AW.alen (t := 3) dX7_schemaAt_9 W.t0 (by decide) (by decide) ?_
      refine AW.icmp_ge (tgt := 22) dX7_schemaAt_10 rfl (fun c_10 => ?_) (fun c_10 => ?_)
      · exact absurd c_10 (by omega)
      · refine AW.aload_n dX7_schemaAt_13 rfl ?_
        refine AW.getRE (j := 0) W.o dX7_schemaAt_14 lkX7_11 rfl rfl inC8 rfl W.r0 ?_
        refine AW.iload_n dX7_schemaAt_17 rfl ?_
        refine AW.aldR (t := 3) dX7_schemaAt_18 W.t0 (by decide) rfl (by omega) (by omega) e ?_
        refine AW.goto (tgt := 23) dX7_schemaAt_19 rfl ?_
        refine AW.astore_n dX7_schemaAt_23 rfl ?_
        refine AW.aload_n dX7_schemaAt_24 rfl ?_
        refine AW.ifnonnull (tgt := 39) dX7_schemaAt_25 rfl (fun n_25 c_25 => ?_) (fun c_25 => ?_)
        · refine AW.aload_n dX7_schemaAt_39 rfl ?_
          refine AW.aret dX7_schemaAt_40 rfl ?_
          exact kO c
        · exact absurd c_25 (by simp)
  · refine AW.iload_n dX7_schemaAt_0 rfl ?_
    refine AW.if_lt (tgt := 22) dX7_schemaAt_1 rfl (fun c_1 => ?_) (fun c_1 => ?_)
    · refine AW.anull dX7_schemaAt_22 ?_
      refine AW.astore_n dX7_schemaAt_23 rfl ?_
      refine AW.aload_n dX7_schemaAt_24 rfl ?_
      refine AW.ifnonnull (tgt := 39) dX7_schemaAt_25 rfl (fun n_25 c_25 => ?_) (fun c_25 => ?_)
      · exact absurd c_25 (by simp)
      · refine AW.throwW dX7_schemaAt_28 dX7_schemaAt_31 dX7_schemaAt_32 dX7_schemaAt_35 dX7_schemaAt_38 rfl okTX7_186 strX7_405 rfl rfl rfl rfl rfl ?_
        exact kE c
    · refine AW.iload_n dX7_schemaAt_4 rfl ?_
      refine AW.aload_n dX7_schemaAt_5 rfl ?_
      refine AW.getRE (j := 0) W.o dX7_schemaAt_6 lkX7_11 rfl rfl inC8 rfl W.r0 ?_
      refine AW.alen (t := 3) dX7_schemaAt_9 W.t0 (by decide) (by decide) ?_
      refine AW.icmp_ge (tgt := 22) dX7_schemaAt_10 rfl (fun c_10 => ?_) (fun c_10 => ?_)
      · refine AW.anull dX7_schemaAt_22 ?_
        refine AW.astore_n dX7_schemaAt_23 rfl ?_
        refine AW.aload_n dX7_schemaAt_24 rfl ?_
        refine AW.ifnonnull (tgt := 39) dX7_schemaAt_25 rfl (fun n_25 c_25 => ?_) (fun c_25 => ?_)
        · exact absurd c_25 (by simp)
        · refine AW.throwW dX7_schemaAt_28 dX7_schemaAt_31 dX7_schemaAt_32 dX7_schemaAt_35 dX7_schemaAt_38 rfl okTX7_186 strX7_405 rfl rfl rfl rfl rfl ?_
          exact kE c
      · have e : hR h (3, 1, 0) s.toNat = none := by rw [C.1.2 _ (by omega), if_neg (by omega)]
        refine AW.aload_n dX7_schemaAt_13 rfl ?_
        refine AW.getRE (j := 0) W.o dX7_schemaAt_14 lkX7_11 rfl rfl inC8 rfl W.r0 ?_
        refine AW.iload_n dX7_schemaAt_17 rfl ?_
        refine AW.aldR (t := 3) dX7_schemaAt_18 W.t0 (by decide) rfl (by omega) (by omega) e ?_
        refine AW.goto (tgt := 23) dX7_schemaAt_19 rfl ?_
        refine AW.astore_n dX7_schemaAt_23 rfl ?_
        refine AW.aload_n dX7_schemaAt_24 rfl ?_
        refine AW.ifnonnull (tgt := 39) dX7_schemaAt_25 rfl (fun n_25 c_25 => ?_) (fun c_25 => ?_)
        · exact absurd c_25 (by simp)
        · refine AW.throwW dX7_schemaAt_28 dX7_schemaAt_31 dX7_schemaAt_32 dX7_schemaAt_35 dX7_schemaAt_38 rfl okTX7_186 strX7_405 rfl rfl rfl rfl rfl ?_
          exact kE c
theorem kX7_rowAt {s : Int} (W : FmW h) (C : FmC h) (kE : ¬ (0 ≤ s ∧ s < hI h (3, 0, 0) 8) → Q h (.inr eIx)) (kO : (0 ≤ s ∧ s < hI h (3, 0, 0) 8) → Q h (.inl (some (vr (9, s.toNat, 0))))) : AC mX7_rowAt fX7_rowAt loX7_rowAt 1 6 h [vr (3, 0, 0), vi s] Q := by
  have C0 := C.2.2.1.1
  refine AC.mk (by decide) (Nat.le_of_ble_eq_true rfl) ?_
  by_cases c : 0 ≤ s ∧ s < hI h (3, 0, 0) 8
  · have e : hR h (3, 3, 0) s.toNat = some (9, s.toNat, 0) := by rw [C.2.2.1.2 _ (by omega), if_pos (by omega)]
    refine AW.iload_n dX7_rowAt_0 rfl ?_
    refine AW.if_lt (tgt := 22) dX7_rowAt_1 rfl (fun c_1 => ?_) (fun c_1 => ?_)
    · exact absurd c_1 (by omega)
    · refine AW.iload_n dX7_rowAt_4 rfl ?_
      refine AW.aload_n dX7_rowAt_5 rfl ?_
      refine AW.getRE (j := 2) W.o dX7_rowAt_6 lkX7_23 rfl rfl inC8 rfl W.r2 ?_
      refine AW.alen (t := 5) dX7_rowAt_9 W.t2 (by decide) (by decide) ?_
      refine AW.icmp_ge (tgt := 22) dX7_rowAt_10 rfl (fun c_10 => ?_) (fun c_10 => ?_)
      · exact absurd c_10 (by omega)
      · refine AW.aload_n dX7_rowAt_13 rfl ?_
        refine AW.getRE (j := 2) W.o dX7_rowAt_14 lkX7_23 rfl rfl inC8 rfl W.r2 ?_
        refine AW.iload_n dX7_rowAt_17 rfl ?_
        refine AW.aldR (t := 5) dX7_rowAt_18 W.t2 (by decide) rfl (by omega) (by omega) e ?_
        refine AW.goto (tgt := 23) dX7_rowAt_19 rfl ?_
        refine AW.astore_n dX7_rowAt_23 rfl ?_
        refine AW.aload_n dX7_rowAt_24 rfl ?_
        refine AW.ifnonnull (tgt := 39) dX7_rowAt_25 rfl (fun n_25 c_25 => ?_) (fun c_25 => ?_)
        · refine AW.aload_n dX7_rowAt_39 rfl ?_
          refine AW.aret dX7_rowAt_40 rfl ?_
          exact kO c
        · exact absurd c_25 (by simp)
  · refine AW.iload_n dX7_rowAt_0 rfl ?_
    refine AW.if_lt (tgt := 22) dX7_rowAt_1 rfl (fun c_1 => ?_) (fun c_1 => ?_)
    · refine AW.anull dX7_rowAt_22 ?_
      refine AW.astore_n dX7_rowAt_23 rfl ?_
      refine AW.aload_n dX7_rowAt_24 rfl ?_
      refine AW.ifnonnull (tgt := 39) dX7_rowAt_25 rfl (fun n_25 c_25 => ?_) (fun c_25 => ?_)
      · exact absurd c_25 (by simp)
      · refine AW.throwW dX7_rowAt_28 dX7_rowAt_31 dX7_rowAt_32 dX7_rowAt_35 dX7_rowAt_38 rfl okTX7_186 strX7_409 rfl rfl rfl rfl rfl ?_
        exact kE c
    · refine AW.iload_n dX7_rowAt_4 rfl ?_
      refine AW.aload_n dX7_rowAt_5 rfl ?_
      refine AW.getRE (j := 2) W.o dX7_rowAt_6 lkX7_23 rfl rfl inC8 rfl W.r2 ?_
      refine AW.alen (t := 5) dX7_rowAt_9 W.t2 (by decide) (by decide) ?_
      refine AW.icmp_ge (tgt := 22) dX7_rowAt_10 rfl (fun c_10 => ?_) (fun c_10 => ?_)
      · refine AW.anull dX7_rowAt_22 ?_
        refine AW.astore_n dX7_rowAt_23 rfl ?_
        refine AW.aload_n dX7_rowAt_24 rfl ?_
        refine AW.ifnonnull (tgt := 39) dX7_rowAt_25 rfl (fun n_25 c_25 => ?_) (fun c_25 => ?_)
        · exact absurd c_25 (by simp)
        · refine AW.throwW dX7_rowAt_28 dX7_rowAt_31 dX7_rowAt_32 dX7_rowAt_35 dX7_rowAt_38 rfl okTX7_186 strX7_409 rfl rfl rfl rfl rfl ?_
          exact kE c
      · have e : hR h (3, 3, 0) s.toNat = none := by rw [C.2.2.1.2 _ (by omega), if_neg (by omega)]
        refine AW.aload_n dX7_rowAt_13 rfl ?_
        refine AW.getRE (j := 2) W.o dX7_rowAt_14 lkX7_23 rfl rfl inC8 rfl W.r2 ?_
        refine AW.iload_n dX7_rowAt_17 rfl ?_
        refine AW.aldR (t := 5) dX7_rowAt_18 W.t2 (by decide) rfl (by omega) (by omega) e ?_
        refine AW.goto (tgt := 23) dX7_rowAt_19 rfl ?_
        refine AW.astore_n dX7_rowAt_23 rfl ?_
        refine AW.aload_n dX7_rowAt_24 rfl ?_
        refine AW.ifnonnull (tgt := 39) dX7_rowAt_25 rfl (fun n_25 c_25 => ?_) (fun c_25 => ?_)
        · exact absurd c_25 (by simp)
        · refine AW.throwW dX7_rowAt_28 dX7_rowAt_31 dX7_rowAt_32 dX7_rowAt_35 dX7_rowAt_38 rfl okTX7_186 strX7_409 rfl rfl rfl rfl rfl ?_
          exact kE c
theorem kX7_moverAt {s : Int} (W : FmW h) (C : FmC h) (kE : ¬ (0 ≤ s ∧ s < hI h (3, 0, 0) 9) → Q h (.inr eIx)) (kO : (0 ≤ s ∧ s < hI h (3, 0, 0) 9) → Q h (.inl (some (vr (10, s.toNat, 0))))) : AC mX7_moverAt fX7_moverAt loX7_moverAt 1 6 h [vr (3, 0, 0), vi s] Q := by
  have C0 := C.2.2.2.1.1
  refine AC.mk (by decide) (Nat.le_of_ble_eq_true rfl) ?_
  by_cases c : 0 ≤ s ∧ s < hI h (3, 0, 0) 9
  · have e : hR h (3, 4, 0) s.toNat = some (10, s.toNat, 0) := by rw [C.2.2.2.1.2 _ (by omega), if_pos (by omega)]
    refine AW.iload_n dX7_moverAt_0 rfl ?_
    refine AW.if_lt (tgt := 22) dX7_moverAt_1 rfl (fun c_1 => ?_) (fun c_1 => ?_)
    · exact absurd c_1 (by omega)
    · refine AW.iload_n dX7_moverAt_4 rfl ?_
      refine AW.aload_n dX7_moverAt_5 rfl ?_
      refine AW.getRE (j := 3) W.o dX7_moverAt_6 lkX7_29 rfl rfl inC8 rfl W.r3 ?_
      refine AW.alen (t := 6) dX7_moverAt_9 W.t3 (by decide) (by decide) ?_
      refine AW.icmp_ge (tgt := 22) dX7_moverAt_10 rfl (fun c_10 => ?_) (fun c_10 => ?_)
      · exact absurd c_10 (by omega)
      · refine AW.aload_n dX7_moverAt_13 rfl ?_
        refine AW.getRE (j := 3) W.o dX7_moverAt_14 lkX7_29 rfl rfl inC8 rfl W.r3 ?_
        refine AW.iload_n dX7_moverAt_17 rfl ?_
        refine AW.aldR (t := 6) dX7_moverAt_18 W.t3 (by decide) rfl (by omega) (by omega) e ?_
        refine AW.goto (tgt := 23) dX7_moverAt_19 rfl ?_
        refine AW.astore_n dX7_moverAt_23 rfl ?_
        refine AW.aload_n dX7_moverAt_24 rfl ?_
        refine AW.ifnonnull (tgt := 39) dX7_moverAt_25 rfl (fun n_25 c_25 => ?_) (fun c_25 => ?_)
        · refine AW.aload_n dX7_moverAt_39 rfl ?_
          refine AW.aret dX7_moverAt_40 rfl ?_
          exact kO c
        · exact absurd c_25 (by simp)
  · refine AW.iload_n dX7_moverAt_0 rfl ?_
    refine AW.if_lt (tgt := 22) dX7_moverAt_1 rfl (fun c_1 => ?_) (fun c_1 => ?_)
    · refine AW.anull dX7_moverAt_22 ?_
      refine AW.astore_n dX7_moverAt_23 rfl ?_
      refine AW.aload_n dX7_moverAt_24 rfl ?_
      refine AW.ifnonnull (tgt := 39) dX7_moverAt_25 rfl (fun n_25 c_25 => ?_) (fun c_25 => ?_)
      · exact absurd c_25 (by simp)
      · refine AW.throwW dX7_moverAt_28 dX7_moverAt_31 dX7_moverAt_32 dX7_moverAt_35 dX7_moverAt_38 rfl okTX7_186 strX7_411 rfl rfl rfl rfl rfl ?_
        exact kE c
    · refine AW.iload_n dX7_moverAt_4 rfl ?_
      refine AW.aload_n dX7_moverAt_5 rfl ?_
      refine AW.getRE (j := 3) W.o dX7_moverAt_6 lkX7_29 rfl rfl inC8 rfl W.r3 ?_
      refine AW.alen (t := 6) dX7_moverAt_9 W.t3 (by decide) (by decide) ?_
      refine AW.icmp_ge (tgt := 22) dX7_moverAt_10 rfl (fun c_10 => ?_) (fun c_10 => ?_)
      · refine AW.anull dX7_moverAt_22 ?_
        refine AW.astore_n dX7_moverAt_23 rfl ?_
        refine AW.aload_n dX7_moverAt_24 rfl ?_
        refine AW.ifnonnull (tgt := 39) dX7_moverAt_25 rfl (fun n_25 c_25 => ?_) (fun c_25 => ?_)
        · exact absurd c_25 (by simp)
        · refine AW.throwW dX7_moverAt_28 dX7_moverAt_31 dX7_moverAt_32 dX7_moverAt_35 dX7_moverAt_38 rfl okTX7_186 strX7_411 rfl rfl rfl rfl rfl ?_
          exact kE c
      · have e : hR h (3, 4, 0) s.toNat = none := by rw [C.2.2.2.1.2 _ (by omega), if_neg (by omega)]
        refine AW.aload_n dX7_moverAt_13 rfl ?_
        refine AW.getRE (j := 3) W.o dX7_moverAt_14 lkX7_29 rfl rfl inC8 rfl W.r3 ?_
        refine AW.iload_n dX7_moverAt_17 rfl ?_
        refine AW.aldR (t := 6) dX7_moverAt_18 W.t3 (by decide) rfl (by omega) (by omega) e ?_
        refine AW.goto (tgt := 23) dX7_moverAt_19 rfl ?_
        refine AW.astore_n dX7_moverAt_23 rfl ?_
        refine AW.aload_n dX7_moverAt_24 rfl ?_
        refine AW.ifnonnull (tgt := 39) dX7_moverAt_25 rfl (fun n_25 c_25 => ?_) (fun c_25 => ?_)
        · exact absurd c_25 (by simp)
        · refine AW.throwW dX7_moverAt_28 dX7_moverAt_31 dX7_moverAt_32 dX7_moverAt_35 dX7_moverAt_38 rfl okTX7_186 strX7_411 rfl rfl rfl rfl rfl ?_
          exact kE c
theorem kX7_moveAt {s : Int} (W : FmW h) (C : FmC h) (kE : ¬ (0 ≤ s ∧ s < hI h (3, 0, 0) 10) → Q h (.inl (some (vq none)))) (kO : (0 ≤ s ∧ s < hI h (3, 0, 0) 10) → Q h (.inl (some (vr (11, s.toNat, 0))))) : AC mX7_moveAt fX7_moveAt loX7_moveAt 0 0 h [vr (3, 0, 0), vi s] Q := by
  have C0 := C.2.2.2.2.1
  refine AC.mk (by decide) (Nat.le_of_ble_eq_true rfl) ?_
  by_cases c : 0 ≤ s ∧ s < hI h (3, 0, 0) 10
  · have e : hR h (3, 5, 0) s.toNat = some (11, s.toNat, 0) := by rw [C.2.2.2.2.2 _ (by omega), if_pos (by omega)]
    refine AW.iload_n dX7_moveAt_0 rfl ?_
    refine AW.if_lt (tgt := 22) dX7_moveAt_1 rfl (fun c_1 => ?_) (fun c_1 => ?_)
    · exact absurd c_1 (by omega)
    · refine AW.iload_n dX7_moveAt_4 rfl ?_
      refine AW.aload_n dX7_moveAt_5 rfl ?_
      refine AW.getRE (j := 4) W.o dX7_moveAt_6 lkX7_35 rfl rfl inC8 rfl W.r4 ?_
      refine AW.alen (t := 7) dX7_moveAt_9 W.t4 (by decide) (by decide) ?_
      refine AW.icmp_ge (tgt := 22) dX7_moveAt_10 rfl (fun c_10 => ?_) (fun c_10 => ?_)
      · exact absurd c_10 (by omega)
      · refine AW.aload_n dX7_moveAt_13 rfl ?_
        refine AW.getRE (j := 4) W.o dX7_moveAt_14 lkX7_35 rfl rfl inC8 rfl W.r4 ?_
        refine AW.iload_n dX7_moveAt_17 rfl ?_
        refine AW.aldR (t := 7) dX7_moveAt_18 W.t4 (by decide) rfl (by omega) (by omega) e ?_
        refine AW.goto (tgt := 23) dX7_moveAt_19 rfl ?_
        refine AW.aret dX7_moveAt_23 rfl ?_
        exact kO c
  · refine AW.iload_n dX7_moveAt_0 rfl ?_
    refine AW.if_lt (tgt := 22) dX7_moveAt_1 rfl (fun c_1 => ?_) (fun c_1 => ?_)
    · refine AW.anull dX7_moveAt_22 ?_
      refine AW.aret dX7_moveAt_23 rfl ?_
      exact kE c
    · refine AW.iload_n dX7_moveAt_4 rfl ?_
      refine AW.aload_n dX7_moveAt_5 rfl ?_
      refine AW.getRE (j := 4) W.o dX7_moveAt_6 lkX7_35 rfl rfl inC8 rfl W.r4 ?_
      refine AW.alen (t := 7) dX7_moveAt_9 W.t4 (by decide) (by decide) ?_
      refine AW.icmp_ge (tgt := 22) dX7_moveAt_10 rfl (fun c_10 => ?_) (fun c_10 => ?_)
      · refine AW.anull dX7_moveAt_22 ?_
        refine AW.aret dX7_moveAt_23 rfl ?_
        exact kE c
      · have e : hR h (3, 5, 0) s.toNat = none := by rw [C.2.2.2.2.2 _ (by omega), if_neg (by omega)]
        refine AW.aload_n dX7_moveAt_13 rfl ?_
        refine AW.getRE (j := 4) W.o dX7_moveAt_14 lkX7_35 rfl rfl inC8 rfl W.r4 ?_
        refine AW.iload_n dX7_moveAt_17 rfl ?_
        refine AW.aldR (t := 7) dX7_moveAt_18 W.t4 (by decide) rfl (by omega) (by omega) e ?_
        refine AW.goto (tgt := 23) dX7_moveAt_19 rfl ?_
        refine AW.aret dX7_moveAt_23 rfl ?_
        exact kE c
theorem kX7_fieldAt {v n : Int} (W : SchW h s) (B : SB h s) (kE : cfn h s v n = -1 → Q h (.inr eIx)) (kO : ¬ cfn h s v n = -1 → Q h (.inl (some (vi (cfn h s v n))))) : AC mX7_fieldAt fX7_fieldAt loX7_fieldAt 1 6 h [vr (4, s, 0), vi v, vi n] Q := by
  refine AC.mk (by decide) (Nat.le_of_ble_eq_true rfl) ?_
  refine AW.aload_n dX7_fieldAt_0 rfl ?_
  refine AW.iload_n dX7_fieldAt_1 rfl ?_
  refine AW.iload_n dX7_fieldAt_2 rfl ?_
  refine AW.callV (as := [vi _, vi _]) dX7_fieldAt_3 rfl rfl rfl okX4_fieldNamed lkX7_78 W.o rfl rfl rfl rfl rfl rfl rfl (kX4_fieldNamed W B (AW.k1 ?_))
  refine AW.istore_n dX7_fieldAt_6 rfl ?_
  refine AW.iload_n dX7_fieldAt_7 rfl ?_
  refine AW.iconst dX7_fieldAt_8 (by decide) ?_
  refine AW.icmp_ne (tgt := 23) dX7_fieldAt_9 rfl (fun c_9 => ?_) (fun c_9 => ?_)
  · refine AW.iload_n dX7_fieldAt_23 rfl ?_
    refine AW.iret dX7_fieldAt_24 rfl ?_
    exact kO (by assumption)
  · refine AW.throwW dX7_fieldAt_12 dX7_fieldAt_15 dX7_fieldAt_16 dX7_fieldAt_19 dX7_fieldAt_22 rfl okTX7_186 strX7_413 rfl rfl rfl rfl rfl ?_
    exact kE (by assumption)
theorem kX7_fieldOfHead {n : Int} (W : SchW h s) (B : SB h s) (kE : cfn h s (hI h (4, s, 0) 0) n = -1 → Q h (.inr eIx)) (kO : ¬ cfn h s (hI h (4, s, 0) 0) n = -1 → Q h (.inl (some (vi (cfn h s (hI h (4, s, 0) 0) n))))) : AC mX7_fieldOfHead fX7_fieldOfHead loX7_fieldOfHead 1 6 h [vr (4, s, 0), vi n] Q := by
  refine AC.mk (by decide) (Nat.le_of_ble_eq_true rfl) ?_
  refine AW.aload_n dX7_fieldOfHead_0 rfl ?_
  refine AW.aload_n dX7_fieldOfHead_1 rfl ?_
  refine AW.getIE (j := 0) W.o dX7_fieldOfHead_2 lkX7_75 rfl rfl inC5 rfl rfl ?_
  refine AW.iload_n dX7_fieldOfHead_5 rfl ?_
  refine AW.callS (as := [vq _, vi _, vi _]) dX7_fieldOfHead_6 rfl rfl rfl okX7_fieldAt lkX7_341 rfl rfl rfl rfl rfl rfl (kX7_fieldAt W B (fun c => kE c) (fun c => (AW.k1 ?_)))
  refine AW.iret dX7_fieldOfHead_9 rfl ?_
  exact kO c
theorem kX4_nameOf {v f : Int} {n : Nat} (W : SchW h s) (B : SB h s) (hn : n < 26) (e : cfn h s v n = f) (u : ∀ i : Nat, i < n → ¬ cfn h s v i = f) (k : Q h (.inl (some (vi (n : Int))))) : AC mX4_nameOf fX4_nameOf loX4_nameOf 0 0 h [vr (4, s, 0), vi v, vi f] Q := by
  refine AC.mk (by decide) (Nat.le_of_ble_eq_true rfl) ?_
  have lp : ∀ (m i : Nat), i ≤ n → n ≤ i + m → AW mX4_nameOf fX4_nameOf loX4_nameOf 0 0 Q 0 0 2 h [(3, vi (i : Int)), (0, vr (4, s, 0)), (1, vi v), (2, vi f)] [] := by
    intro m
    induction m with
    | zero =>
      intro i h1 h2
      have e2 : i = n := by omega
      subst e2
      refine AW.iload_n dX4_nameOf_2 rfl ?_
      refine AW.bipush dX4_nameOf_3 bp_26 (by decide) ?_
      refine AW.icmp_ge (tgt := 26) dX4_nameOf_5 rfl (fun c_5 => ?_) (fun c_5 => ?_)
      · exact absurd c_5 (by omega)
      · refine AW.aload_n dX4_nameOf_8 rfl ?_
        refine AW.iload_n dX4_nameOf_9 rfl ?_
        refine AW.iload_n dX4_nameOf_10 rfl ?_
        refine AW.callV (as := [vi _, vi _]) dX4_nameOf_11 rfl rfl rfl okX4_fieldNamed lkX4_62 W.o rfl rfl rfl rfl rfl rfl rfl (kX4_fieldNamed W B (AW.k1 ?_))
        refine AW.iload_n dX4_nameOf_14 rfl ?_
        refine AW.icmp_ne (tgt := 20) dX4_nameOf_15 rfl (fun c_15 => ?_) (fun c_15 => ?_)
        · exact absurd e c_15
        · refine AW.iload_n dX4_nameOf_18 rfl ?_
          refine AW.iret dX4_nameOf_19 rfl ?_
          exact k
    | succ m ih =>
      intro i h1 h2
      by_cases q : i = n
      · exact ih i h1 (by omega)
      have u2 := u i (by omega)
      refine AW.iload_n dX4_nameOf_2 rfl ?_
      refine AW.bipush dX4_nameOf_3 bp_26 (by decide) ?_
      refine AW.icmp_ge (tgt := 26) dX4_nameOf_5 rfl (fun c_5 => ?_) (fun c_5 => ?_)
      · exact absurd c_5 (by omega)
      · refine AW.aload_n dX4_nameOf_8 rfl ?_
        refine AW.iload_n dX4_nameOf_9 rfl ?_
        refine AW.iload_n dX4_nameOf_10 rfl ?_
        refine AW.callV (as := [vi _, vi _]) dX4_nameOf_11 rfl rfl rfl okX4_fieldNamed lkX4_62 W.o rfl rfl rfl rfl rfl rfl rfl (kX4_fieldNamed W B (AW.k1 ?_))
        refine AW.iload_n dX4_nameOf_14 rfl ?_
        refine AW.icmp_ne (tgt := 20) dX4_nameOf_15 rfl (fun c_15 => ?_) (fun c_15 => ?_)
        · refine AW.iincB dX4_nameOf_20 rfl rfl (by omega) ?_
          refine AW.goto (tgt := 2) dX4_nameOf_23 rfl ?_
          exact AW.locs [(3, vi ((i + 1 : Nat) : Int)), (0, vr (4, s, 0)), (1, vi v), (2, vi f)] ⟨rfl, rfl, rfl, rfl, trivial⟩ (ih (i + 1) (by omega) (by omega))
        · exact absurd c_15 u2
  refine AW.iconst dX4_nameOf_0 (by decide) ?_
  refine AW.istore_n dX4_nameOf_1 rfl ?_
  exact lp n 0 (by omega) (by omega)
end R0b
