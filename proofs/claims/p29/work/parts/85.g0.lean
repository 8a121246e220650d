/-! ===== the relation: traces, what is held up ===== -/
section G0
variable {Q : AH → AO → Prop} {h g G : AH} {Z Y : ZT} {s c : Nat} {A : Nat → Nat}
/-- the bits of x are the flags t -/
def BQ (x : Int64) (t : Nat → Int) : Prop := ∀ f : Nat, f < 64 → (bt x f ↔ f < 48 ∧ ¬ t f = 0)
theorem zh1_ex {a b : Int} {t : Nat → Int} : ¬ zh1 a b t = 0 ↔ (¬ a = -1 ∧ ¬ t a.toNat = 0) ∨ (¬ b = -1 ∧ ¬ t b.toNat = 0) := by
  unfold zh1
  by_cases q : ¬ zh0 a t = 0
  · rw [if_pos q]
    exact ⟨fun _ => Or.inl (bz_n0.mp q), fun _ => by decide⟩
  · rw [if_neg q]
    have q2 := Classical.not_not.mp q
    have q3 : ¬ (¬ a = -1 ∧ ¬ t a.toNat = 0) := bz_0.mp q2
    unfold zh0
    rw [bz_n0]
    constructor
    · rintro ⟨x, y⟩
      refine Or.inr ⟨x, fun e => y ?_⟩
      unfold zt1
      split
      · exact e
      · unfold tset
        split
        · rfl
        · exact e
    · rintro (z | ⟨x, y⟩)
      · exact absurd z q3
      · refine ⟨x, fun e => ?_⟩
        unfold zt1 at e
        split at e
        · exact y e
        · next qa =>
          unfold tset at e
          split at e
          · next qe => exact q3 ⟨qa, by rw [← qe]; exact y⟩
          · exact y e
theorem zt1_f {a : Int} {t : Nat → Int} {f : Nat} (ha : -1 ≤ a) : zt1 a t f = if (f : Int) = a then 0 else t f := by
  unfold zt1 tset
  by_cases e : a = -1
  · rw [if_pos e, if_neg (by omega)]
  · rw [if_neg e]
    by_cases q : (f : Int) = a
    · rw [if_pos (by omega), if_pos q]
    · rw [if_neg (by omega), if_neg q]
theorem ztb_f {hs b : Int} {t : Nat → Int} {f : Nat} (hb : -1 ≤ b) : ztb hs b t f = if ¬ hs = 0 ∧ (f : Int) = b then 1 else t f := by
  unfold ztb tset
  by_cases e : hs = 0 ∨ b = -1
  · rw [if_pos e, if_neg (by omega)]
  · rw [if_neg e]
    by_cases q : (f : Int) = b
    · rw [if_pos (by omega), if_pos ⟨by omega, q⟩]
    · rw [if_neg (by omega), if_neg (fun z => q z.2)]
/-- over a step that takes a, b and makes x, y -/
theorem zfs_f {p : Nat} {t : Nat → Int} {f : Nat} (h8 : -1 ≤ Z 8 (2 * p) ∧ -1 ≤ Z 8 (2 * p + 1) ∧ -1 ≤ Z 9 (2 * p) ∧ -1 ≤ Z 9 (2 * p + 1)) (hk : 2 ≤ Z 7 p ∧ Z 7 p ≤ 5) :
    ¬ zfs Z p t f = 0 ↔ (((¬ Z 8 (2 * p) = -1 ∧ ¬ t (Z 8 (2 * p)).toNat = 0) ∨ (¬ Z 8 (2 * p + 1) = -1 ∧ ¬ t (Z 8 (2 * p + 1)).toNat = 0)) ∧ ((f : Int) = Z 9 (2 * p) ∨ (f : Int) = Z 9 (2 * p + 1))) ∨ (¬ (f : Int) = Z 8 (2 * p) ∧ ¬ (f : Int) = Z 8 (2 * p + 1) ∧ ¬ t f = 0) := by
  have hx := zh1_ex (a := Z 8 (2 * p)) (b := Z 8 (2 * p + 1)) (t := t)
  unfold zfs
  rw [Int.toNat_natCast, if_pos hk, show (2 * (p : Int)).toNat = 2 * p by omega, show (2 * (p : Int) + 1).toNat = 2 * p + 1 by omega]
  rw [ztb_f h8.2.2.2, ztb_f h8.2.2.1]
  unfold zt2
  rw [zt1_f h8.2.1, zt1_f h8.1, ← hx]
  generalize zh1 (Z 8 (2 * p)) (Z 8 (2 * p + 1)) t = H
  by_cases e1 : ¬ H = 0 ∧ (f : Int) = Z 9 (2 * p + 1)
  · rw [if_pos e1]
    exact ⟨fun _ => Or.inl ⟨e1.1, Or.inr e1.2⟩, fun _ => by decide⟩
  · rw [if_neg e1]
    by_cases e2 : ¬ H = 0 ∧ (f : Int) = Z 9 (2 * p)
    · rw [if_pos e2]
      exact ⟨fun _ => Or.inl ⟨e2.1, Or.inl e2.2⟩, fun _ => by decide⟩
    · rw [if_neg e2]
      by_cases e3 : (f : Int) = Z 8 (2 * p + 1)
      · rw [if_pos e3]
        constructor
        · intro z; exact absurd rfl z
        · rintro (⟨z1, z2 | z2⟩ | z)
          · exact absurd ⟨z1, z2⟩ e2
          · exact absurd ⟨z1, z2⟩ e1
          · exact absurd e3 z.2.1
      · rw [if_neg e3]
        by_cases e4 : (f : Int) = Z 8 (2 * p)
        · rw [if_pos e4]
          constructor
          · intro z; exact absurd rfl z
          · rintro (⟨z1, z2 | z2⟩ | z)
            · exact absurd ⟨z1, z2⟩ e2
            · exact absurd ⟨z1, z2⟩ e1
            · exact absurd e4 z.1
        · rw [if_neg e4]
          constructor
          · intro z; exact Or.inr ⟨e4, e3, z⟩
          · rintro (⟨z1, z2 | z2⟩ | z)
            · exact absurd ⟨z1, z2⟩ e2
            · exact absurd ⟨z1, z2⟩ e1
            · exact z.2.2
theorem zfs_o {p : Nat} {t : Nat → Int} (hk : ¬ (2 ≤ Z 7 p ∧ Z 7 p ≤ 5)) : zfs Z p t = t := by
  unfold zfs; rw [Int.toNat_natCast, if_neg hk]
/-- the class's bits over a step -/
theorem BQ.st {p : Nat} {x : Int64} {t : Nat → Int} (q : BQ x t) (b2 : Z 2 s ≤ 46) (K : ZP Z s p) (P : SPt h Z p) :
    BQ (if x &&& cff h p = 0 then x else (x &&& (cff h p ^^^ (-1))) ||| cbf h p) (zfs Z p t) := by
  obtain ⟨⟨p1, p2, p3, p4⟩, k, -⟩ := K
  obtain ⟨-, e7, -, e1, e2, e3, e4⟩ := P
  unfold cff cbf
  rw [e1, e2, e3, e4]
  intro f hf
  have gA := ctg_bt (x := Z 8 (2 * p)) (y := Z 8 (2 * p + 1)) hf (by omega) (by omega)
  have gB := ctg_bt (x := Z 9 (2 * p)) (y := Z 9 (2 * p + 1)) hf (by omega) (by omega)
  have eb : bt ((x &&& (ctg (Z 8 (2 * p)) (Z 8 (2 * p + 1)) ^^^ (-1))) ||| ctg (Z 9 (2 * p)) (Z 9 (2 * p + 1))) f ↔ (bt x f ∧ ¬ ((f : Int) = Z 8 (2 * p) ∨ (f : Int) = Z 8 (2 * p + 1))) ∨ ((f : Int) = Z 9 (2 * p) ∨ (f : Int) = Z 9 (2 * p + 1)) := by
    rw [bt_or, bt_and, bt_not (by omega), gA, gB]
  have z0 : x &&& ctg (Z 8 (2 * p)) (Z 8 (2 * p + 1)) = 0 ↔ ∀ f : Nat, f < 64 → ¬ (bt x f ∧ ((f : Int) = Z 8 (2 * p) ∨ (f : Int) = Z 8 (2 * p + 1))) := by
    constructor
    · intro z f hf y
      have : bt (x &&& ctg (Z 8 (2 * p)) (Z 8 (2 * p + 1))) f := bt_and.mpr ⟨y.1, (ctg_bt hf (by omega) (by omega)).mpr y.2⟩
      rw [z] at this
      exact bt_0 this
    · intro z
      refine bt_ext (fun f hf => ?_)
      rw [bt_and, ctg_bt hf (by omega) (by omega)]
      exact ⟨fun y => absurd y (z f hf), fun y => absurd y bt_0⟩
  have qq := q f hf
  by_cases hk : 2 ≤ Z 7 p ∧ Z 7 p ≤ 5
  · have zf := zfs_f (t := t) (f := f) ⟨p1.1, p2.1, p3.1, p4.1⟩ hk
    have hasx : (∃ f : Nat, f < 64 ∧ bt x f ∧ ((f : Int) = Z 8 (2 * p) ∨ (f : Int) = Z 8 (2 * p + 1))) ↔ ((¬ Z 8 (2 * p) = -1 ∧ ¬ t (Z 8 (2 * p)).toNat = 0) ∨ (¬ Z 8 (2 * p + 1) = -1 ∧ ¬ t (Z 8 (2 * p + 1)).toNat = 0)) := by
      constructor
      · rintro ⟨f, hf, hx, e | e⟩
        · have := ((q f hf).mp hx).2
          exact Or.inl ⟨by omega, by rw [← e]; exact this⟩
        · have := ((q f hf).mp hx).2
          exact Or.inr ⟨by omega, by rw [← e]; exact this⟩
      · rintro (⟨y, z⟩ | ⟨y, z⟩)
        · exact ⟨(Z 8 (2 * p)).toNat, by omega, (q _ (by omega)).mpr ⟨by omega, z⟩, Or.inl (by omega)⟩
        · exact ⟨(Z 8 (2 * p + 1)).toNat, by omega, (q _ (by omega)).mpr ⟨by omega, z⟩, Or.inr (by omega)⟩
    rw [zf]
    by_cases w : x &&& ctg (Z 8 (2 * p)) (Z 8 (2 * p + 1)) = 0
    · rw [if_pos w, qq]
      have w2 := z0.mp w
      have w3 : ¬ ((¬ Z 8 (2 * p) = -1 ∧ ¬ t (Z 8 (2 * p)).toNat = 0) ∨ (¬ Z 8 (2 * p + 1) = -1 ∧ ¬ t (Z 8 (2 * p + 1)).toNat = 0)) := fun y => by
        obtain ⟨f, hf, y⟩ := hasx.mpr y
        exact w2 f hf y
      constructor
      · rintro ⟨y1, y2⟩
        refine ⟨y1, Or.inr ⟨fun e => w2 f hf ⟨qq.mpr ⟨y1, y2⟩, Or.inl e⟩, fun e => w2 f hf ⟨qq.mpr ⟨y1, y2⟩, Or.inr e⟩, y2⟩⟩
      · rintro ⟨y1, y2 | y2⟩
        · exact absurd y2.1 w3
        · exact ⟨y1, y2.2.2⟩
    · rw [if_neg w, eb, qq]
      have w3 : ((¬ Z 8 (2 * p) = -1 ∧ ¬ t (Z 8 (2 * p)).toNat = 0) ∨ (¬ Z 8 (2 * p + 1) = -1 ∧ ¬ t (Z 8 (2 * p + 1)).toNat = 0)) := by
        refine Classical.byContradiction (fun y => w (z0.mpr (fun f hf z => y (hasx.mp ⟨f, hf, z⟩))))
      constructor
      · rintro (⟨⟨y1, y2⟩, y3⟩ | y)
        · exact ⟨y1, Or.inr ⟨fun e => y3 (Or.inl e), fun e => y3 (Or.inr e), y2⟩⟩
        · exact ⟨by omega, Or.inl ⟨w3, y⟩⟩
      · rintro ⟨y1, y2 | y2⟩
        · exact Or.inr y2.2
        · exact Or.inl ⟨⟨y1, y2.2.2⟩, fun e => e.elim y2.1 y2.2.1⟩
  · rw [zfs_o hk, ← qq]
    by_cases w : x &&& ctg (Z 8 (2 * p)) (Z 8 (2 * p + 1)) = 0
    · rw [if_pos w]
    · rw [if_neg w, eb]
      have k2 : (Z 8 (2 * p) = -1 ∧ Z 8 (2 * p + 1) = -1) ∨ (0 ≤ Z 8 (2 * p) ∧ Z 8 (2 * p + 1) = -1 ∧ Z 9 (2 * p) = Z 8 (2 * p) ∧ Z 9 (2 * p + 1) = -1) := by
        rcases k with k | ⟨y, k⟩ | k | k | k | k
        · exact Or.inl ⟨k.2.1, k.2.2.1⟩
        · exact Or.inr k
        · omega
        · omega
        · omega
        · omega
      rcases k2 with k2 | k2
      · exact absurd (z0.mpr (fun f hf y => by omega)) w
      · constructor
        · rintro (y | y)
          · exact y.1
          · have : bt x f := Classical.byContradiction (fun u => w (z0.mpr (fun f' hf' z => by
              have : f' = f := by omega
              rw [this] at z
              exact u z.1)))
            exact this
        · intro y
          by_cases e : (f : Int) = Z 8 (2 * p)
          · exact Or.inr (Or.inl (by omega))
          · exact Or.inl ⟨y, by omega⟩
/-- traces are alike -/
theorem BQ.tr {v : Nat} {x : Int64} {t : Nat → Int} (q : BQ x t) (S : SV h Z s) (K : ZS Z s) (hv : (v : Int) ≤ Z 1 s) : BQ (ctr h s v x) (zfo Z s v t (Z 1 s - (v : Int)).toNat) := by
  have b2 := K.b2
  unfold ctr
  rw [S.hd]
  have lp : ∀ i : Nat, (v : Int) + (i : Int) ≤ Z 1 s → BQ (ctrA h s v x i) (zfo Z s v t i) := by
    intro i
    induction i with
    | zero => intro _; exact q
    | succ i ih =>
      intro hi
      have P := S.st (v := v + 1 + i) (by omega) (by omega)
      have R := (ih (by omega)).st b2.2 (K.zp (v := v + 1 + i) (by omega) (by omega)) P.2
      rw [ctrA_s]
      unfold zfo
      rw [show (24 * (s : Int) + ((v : Int) + 1 + (i : Int))) = ((24 * s + (v + 1 + i) : Nat) : Int) by omega]
      exact R
  exact lp _ (by omega)
/-- a held field of a form lies among the schema's -/
theorem zfs_sup {p : Nat} {t : Nat → Int} (b2 : Z 2 s ≤ 46) (K : ZP Z s p) (q : ∀ f : Nat, f < 48 → ¬ t f = 0 → (f : Int) < Z 2 s) : ∀ f : Nat, f < 48 → ¬ zfs Z p t f = 0 → (f : Int) < Z 2 s := by
  obtain ⟨⟨p1, p2, p3, p4⟩, -⟩ := K
  intro f hf
  by_cases hk : 2 ≤ Z 7 p ∧ Z 7 p ≤ 5
  · rw [zfs_f ⟨p1.1, p2.1, p3.1, p4.1⟩ hk]
    rintro (⟨-, y | y⟩ | y)
    · omega
    · omega
    · exact q f hf y.2.2
  · rw [zfs_o hk]; exact q f hf
theorem zfo_sup {v : Nat} {t : Nat → Int} (K : ZS Z s) (q : ∀ f : Nat, f < 48 → ¬ t f = 0 → (f : Int) < Z 2 s) : ∀ i : Nat, (v : Int) + (i : Int) ≤ Z 1 s → ∀ f : Nat, f < 48 → ¬ zfo Z s v t i f = 0 → (f : Int) < Z 2 s := by
  have b2 := K.b2
  intro i
  induction i with
  | zero => intro _; exact q
  | succ i ih =>
    intro hi
    unfold zfo
    rw [show (24 * (s : Int) + ((v : Int) + 1 + (i : Int))) = ((24 * s + (v + 1 + i) : Nat) : Int) by omega]
    exact zfs_sup b2.2 (K.zp (v := v + 1 + i) (by omega) (by omega)) (ih (by omega))
/-- more held, more traces -/
theorem zfs_mo {p : Nat} {t t' : Nat → Int} (b2 : Z 2 s ≤ 46) (K : ZP Z s p) (q : ∀ f : Nat, f < 48 → ¬ t f = 0 → ¬ t' f = 0) : ∀ f : Nat, f < 48 → ¬ zfs Z p t f = 0 → ¬ zfs Z p t' f = 0 := by
  obtain ⟨⟨p1, p2, p3, p4⟩, -⟩ := K
  intro f hf
  by_cases hk : 2 ≤ Z 7 p ∧ Z 7 p ≤ 5
  · rw [zfs_f ⟨p1.1, p2.1, p3.1, p4.1⟩ hk, zfs_f ⟨p1.1, p2.1, p3.1, p4.1⟩ hk]
    rintro (⟨y | y, z⟩ | y)
    · exact Or.inl ⟨Or.inl ⟨y.1, q _ (by omega) y.2⟩, z⟩
    · exact Or.inl ⟨Or.inr ⟨y.1, q _ (by omega) y.2⟩, z⟩
    · exact Or.inr ⟨y.1, y.2.1, q f hf y.2.2⟩
  · rw [zfs_o hk, zfs_o hk]; exact q f hf
theorem zfo_mo {v : Nat} {t t' : Nat → Int} (K : ZS Z s) (q : ∀ f : Nat, f < 48 → ¬ t f = 0 → ¬ t' f = 0) : ∀ i : Nat, (v : Int) + (i : Int) ≤ Z 1 s → ∀ f : Nat, f < 48 → ¬ zfo Z s v t i f = 0 → ¬ zfo Z s v t' i f = 0 := by
  have b2 := K.b2
  intro i
  induction i with
  | zero => intro _; exact q
  | succ i ih =>
    intro hi
    unfold zfo
    rw [show (24 * (s : Int) + ((v : Int) + 1 + (i : Int))) = ((24 * s + (v + 1 + i) : Nat) : Int) by omega]
    exact zfs_mo b2.2 (K.zp (v := v + 1 + i) (by omega) (by omega)) (ih (by omega))
/-- what a form holds, at the head -/
theorem FF.bq {k : Nat} (F : FF h Z k) : BQ (hL h (8, k, 0) 3) (zTo0 Z k 0) := fun f hf => by
  rw [(F.2.2.2.1 f hf).1]
  unfold zTo0
  rw [show (48 * (k : Int) + (f : Int)).toNat = 48 * k + f by omega, bz_n0]
  exact ⟨fun z => ⟨z.1, z.2, Or.inl rfl⟩, fun z => ⟨z.1, z.2.1⟩⟩
theorem FF.bqw {k : Nat} (F : FF h Z k) : BQ (hL h (8, k, 0) 4) (zTo0 Z k 1) := fun f hf => by
  rw [(F.2.2.2.1 f hf).2]
  unfold zTo0
  rw [show (48 * (k : Int) + (f : Int)).toNat = 48 * k + f by omega, bz_n0]
  exact ⟨fun z => ⟨z.1, z.2.1, Or.inr z.2.2⟩, fun z => ⟨z.1, z.2.1, z.2.2.resolve_left (by decide)⟩⟩
theorem FF.tr {q n k : Nat} (S : SIMq A q h Z n) (F : FF h Z k) (G : 0 ≤ Z 15 k ∧ Z 15 k ≤ Z 1 (Z 14 k).toNat) {x : Int64} {w : Int} (q0 : BQ x (zTo0 Z k w)) : BQ (ctr h (Z 14 k).toNat (Z 15 k).toNat x) (zTo Z k w) := by
  obtain ⟨S1, K, -⟩ := S.sc (s := (Z 14 k).toNat) (by have := F.2.1; omega)
  have R := q0.tr S1 K (v := (Z 15 k).toNat) (by omega)
  unfold zTo
  rw [Int.toNat_natCast]
  rw [show (((Z 14 k).toNat : Nat) : Int) = Z 14 k by have := F.2.1; omega, show (((Z 15 k).toNat : Nat) : Int) = Z 15 k by omega] at R
  exact R
set_option maxHeartbeats 1000000 in
theorem sX7_heldUpOf {q n : Nat} (S : SIMq A q h Z n) (B : BG Z) (hs : (s : Int) < Z 0 0) (h13 : Z 13 0 = 0) (k : ∀ x, (∀ f : Nat, f < 64 → (bt x f ↔ f < 48 ∧ ¬ zhu Z s f = 0)) → Q h (.inl (some (vl x)))) : AC mX7_heldUpOf fX7_heldUpOf loX7_heldUpOf 0 0 h [vr mF, vr (4, s, 0)] Q := by
  have W := S.1.1
  have C := S.1.2.1
  have eC := S.1.2.2.1.2.1
  have C1 := C.2.1.1
  rw [eC] at C1
  have zz := S.zz
  refine AC.mk (by decide) (Nat.le_of_ble_eq_true rfl) ?_
  have lp : ∀ (m i : Nat) (x : Int64), i ≤ 8 → 8 ≤ i + m → (∀ f : Nat, f < 64 → (bt x f ↔ f < 48 ∧ ¬ zhuA Z s f (if (i : Int) < Z 13 0 then i else (Z 13 0).toNat) = 0)) →
      AW mX7_heldUpOf fX7_heldUpOf loX7_heldUpOf 0 0 Q 0 0 5 h [(4, vi (i : Int)), (2, vl x), (0, vr mF), (1, vr (4, s, 0))] [] := by
    intro m
    induction m with
    | zero =>
      intro i x h1 h2 hx
      have e : i = 8 := by omega
      subst e
      refine AW.iload dX7_heldUpOf_5 rfl ?_
      refine AW.aload_n dX7_heldUpOf_7 rfl ?_
      refine AW.getRE (j := 1) W.o dX7_heldUpOf_8 lkX7_17 rfl rfl inC8 rfl W.r1 ?_
      refine AW.alen (t := 4) dX7_heldUpOf_11 W.t1 (by decide) (by decide) ?_
      refine AW.icmp_ge (tgt := 69) dX7_heldUpOf_12 rfl (fun c_12 => ?_) (fun c_12 => ?_)
      · refine AW.lload_n dX7_heldUpOf_69 rfl ?_
        refine AW.lret dX7_heldUpOf_70 rfl ?_
        refine k x (fun f hf => ?_)
        have := hx f hf
        rw [if_neg (by omega)] at this
        exact this
      · exact absurd c_12 (by show ¬ ((8 : Nat) : Int) < ((8 : Nat) : Int); omega)
    | succ m ih =>
      intro i x h1 h2 hx
      by_cases e : i = 8
      · exact ih i x h1 (by omega) hx
      by_cases hi : (i : Int) < Z 13 0
      · exact absurd hi (by omega)
      · have er : hR h (3, 2, 0) (i : Int).toNat = none := by rw [Int.toNat_natCast, C.2.1.2 i (by omega), if_neg (by rw [eC]; exact hi)]
        rw [if_neg hi] at hx
        refine AW.iload dX7_heldUpOf_5 rfl ?_
        refine AW.aload_n dX7_heldUpOf_7 rfl ?_
        refine AW.getRE (j := 1) W.o dX7_heldUpOf_8 lkX7_17 rfl rfl inC8 rfl W.r1 ?_
        refine AW.alen (t := 4) dX7_heldUpOf_11 W.t1 (by decide) (by decide) ?_
        refine AW.icmp_ge (tgt := 69) dX7_heldUpOf_12 rfl (fun c_12 => ?_) (fun c_12 => ?_)
        · exact absurd c_12 (by show ¬ ((8 : Nat) : Int) ≤ (i : Int); omega)
        · refine AW.aload_n dX7_heldUpOf_15 rfl ?_
          refine AW.getRE (j := 1) W.o dX7_heldUpOf_16 lkX7_17 rfl rfl inC8 rfl W.r1 ?_
          refine AW.iload dX7_heldUpOf_19 rfl ?_
          refine AW.aldR (t := 4) dX7_heldUpOf_21 W.t1 (by decide) rfl (by omega) (by omega) er ?_
          refine AW.astore dX7_heldUpOf_22 rfl ?_
          refine AW.aload dX7_heldUpOf_24 rfl ?_
          refine AW.ifnull (tgt := 63) dX7_heldUpOf_26 rfl (fun c_26 => ?_) (fun n_26 c_26 => ?_)
          · refine AW.iincB dX7_heldUpOf_63 rfl rfl (by omega) ?_
            refine AW.goto (tgt := 5) dX7_heldUpOf_66 rfl ?_
            refine AW.locs [(4, vi ((i + 1 : Nat) : Int)), (2, vl x), (0, vr mF), (1, vr (4, s, 0))] ⟨rfl, rfl, rfl, rfl, trivial⟩ (ih (i + 1) x (by omega) (by omega) (fun f hf => ?_))
            rw [if_neg (by omega)]
            exact hx f hf
          · exact absurd c_26 (by simp)
  refine AW.lconst dX7_heldUpOf_0 ?_
  refine AW.lstore_n dX7_heldUpOf_1 rfl ?_
  refine AW.iconst dX7_heldUpOf_2 (by decide) ?_
  refine AW.istore dX7_heldUpOf_3 rfl ?_
  refine AW.locs [(4, vi ((0 : Nat) : Int)), (2, vl 0), (0, vr mF), (1, vr (4, s, 0))] ⟨rfl, rfl, rfl, rfl, trivial⟩ (lp 8 0 0 (by omega) (by omega) (fun f hf => ?_))
  have e0 : (if ((0 : Nat) : Int) < Z 13 0 then 0 else (Z 13 0).toNat) = 0 := by (split <;> omega)
  rw [e0]
  exact ⟨fun z => absurd z bt_0, fun z => absurd rfl z.2⟩
end G0
