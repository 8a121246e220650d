/-! ===== the law's schema and the model's: schema 0 alone, ten versions, ten fields ===== -/
section A3
variable {Q : AH → AO → Prop} {h g : AH} {Z Y : ZT}
/-- a field's digit in a version -/
def zdg (Z : ZT) (a f : Nat) : Int := if Z 5 (48 * a + f) = -1 then 0 else Z 5 (48 * a + f) + 1 + (if Z 6 (48 * a + f) = 0 then 0 else 32)
def zby (Z : ZT) (a : Nat) : Int := if Z 7 a = 3 ∨ Z 7 a = 4 then Z 10 a else 0
/-- a step's number -/
def zwd (Z : ZT) (a : Nat) : Int := Z 7 a + 8 * (Z 8 (2 * a) + 1) + 128 * (Z 8 (2 * a + 1) + 1) + 2048 * (Z 9 (2 * a) + 1) + 32768 * (Z 9 (2 * a + 1) + 1) + 524288 * zby Z a
/-- a step's fields lie among the fields; its kind, its factor, the kinds of its fields -/
def QP (Z : ZT) (a : Nat) : Prop := ((-1 ≤ Z 8 (2 * a) ∧ Z 8 (2 * a) < Z 2 0) ∧ (-1 ≤ Z 8 (2 * a + 1) ∧ Z 8 (2 * a + 1) < Z 2 0) ∧ (-1 ≤ Z 9 (2 * a) ∧ Z 9 (2 * a) < Z 2 0) ∧ (-1 ≤ Z 9 (2 * a + 1) ∧ Z 9 (2 * a + 1) < Z 2 0))
  ∧ StK (Z 7 a) (Z 8 (2 * a)) (Z 8 (2 * a + 1)) (Z 9 (2 * a)) (Z 9 (2 * a + 1)) (Z 10 a) (fun f => Z 3 f)
  ∧ (¬ Z 8 (2 * a) = -1 → ¬ Z 5 (48 * (a - 1) + (Z 8 (2 * a)).toNat) = -1) ∧ (¬ Z 8 (2 * a + 1) = -1 → ¬ Z 5 (48 * (a - 1) + (Z 8 (2 * a + 1)).toNat) = -1)
  ∧ (¬ Z 9 (2 * a) = -1 → ¬ Z 5 (48 * a + (Z 9 (2 * a)).toNat) = -1) ∧ (¬ Z 9 (2 * a + 1) = -1 → ¬ Z 5 (48 * a + (Z 9 (2 * a + 1)).toNat) = -1)
/-- what the law adds: bounds, kinds of parts -/
def QX (Z : ZT) : Prop := Z 1 0 ≤ 10 ∧ Z 2 0 ≤ 10 ∧ ∀ a : Nat, 1 ≤ a → (a : Int) ≤ Z 1 0 → (Z 7 a = 3 ∨ Z 7 a = 4 → 1 ≤ Z 10 a ∧ Z 10 a ≤ 100)
  ∧ (Z 7 a = 3 → Z 3 (Z 8 (2 * a)).toNat = 0 ∧ Z 3 (Z 9 (2 * a)).toNat = 0 ∧ Z 3 (Z 9 (2 * a + 1)).toNat = 0) ∧ (Z 7 a = 4 → Z 3 (Z 8 (2 * a)).toNat = 0 ∧ Z 3 (Z 8 (2 * a + 1)).toNat = 0 ∧ Z 3 (Z 9 (2 * a)).toNat = 0)
def QS (Z : ZT) : Prop := ((0 ≤ Z 1 0 ∧ Z 1 0 ≤ 10) ∧ (0 ≤ Z 2 0 ∧ Z 2 0 ≤ 10))
  ∧ (∀ v f : Nat, v < 24 → f < 48 → (Z 2 0 ≤ (f : Int) ∨ Z 1 0 < (v : Int)) → Z 5 (48 * v + f) = -1)
  ∧ (∀ v f : Nat, v < 24 → f < 48 → (-1 ≤ Z 5 (48 * v + f) ∧ Z 5 (48 * v + f) ≤ 25) ∧ (Z 6 (48 * v + f) = 0 ∨ Z 6 (48 * v + f) = 1))
  ∧ (∀ f : Nat, (f : Int) < Z 2 0 → (0 ≤ Z 4 f ∧ Z 4 f ≤ zmost (Z 3 f)) ∧ 0 ≤ Z 3 f ∧ Z 3 f ≤ 2)
  ∧ (∀ v : Nat, 1 ≤ v → (v : Int) ≤ Z 1 0 → QP Z v) ∧ QX Z
theorem QS.b1 (K : QS Z) : 0 ≤ Z 1 0 ∧ Z 1 0 ≤ 10 := K.1.1
theorem QS.b2 (K : QS Z) : 0 ≤ Z 2 0 ∧ Z 2 0 ≤ 10 := K.1.2
theorem QS.p (K : QS Z) {a : Nat} (h1 : 1 ≤ a) (h2 : (a : Int) ≤ Z 1 0) : QP Z a := K.2.2.2.2.1 a h1 h2
theorem QS.x (K : QS Z) {a : Nat} (h1 : 1 ≤ a) (h2 : (a : Int) ≤ Z 1 0) : (Z 7 a = 3 ∨ Z 7 a = 4 → 1 ≤ Z 10 a ∧ Z 10 a ≤ 100)
  ∧ (Z 7 a = 3 → Z 3 (Z 8 (2 * a)).toNat = 0 ∧ Z 3 (Z 9 (2 * a)).toNat = 0 ∧ Z 3 (Z 9 (2 * a + 1)).toNat = 0) ∧ (Z 7 a = 4 → Z 3 (Z 8 (2 * a)).toNat = 0 ∧ Z 3 (Z 8 (2 * a + 1)).toNat = 0 ∧ Z 3 (Z 9 (2 * a)).toNat = 0) := K.2.2.2.2.2.2.2 a h1 h2
/-- out of what is known of the model -/
theorem QS.mk (K : ZS Z 0) (B : BF Z) (X : QX Z) : QS Z := by
  obtain ⟨⟨k1, k2⟩, k3, k4, k5, k6⟩ := K
  refine ⟨⟨⟨k1.1, X.1⟩, k2.1, X.2.1⟩, fun v f hv hf q => ?_, fun v f hv hf => ⟨?_, B 6 rfl _⟩, fun f hf => ?_, fun v h1 h2 => ?_, X⟩
  · have := k3 v f hv hf q
    rwa [show 48 * (24 * 0 + v) + f = 48 * v + f by omega] at this
  · have := k4 v f hv hf
    rwa [show 48 * (24 * 0 + v) + f = 48 * v + f by omega] at this
  · have := k5 f hf
    rwa [show 48 * 0 + f = f by omega] at this
  · obtain ⟨p1, p2, p3, p4, p5, -⟩ := k6 v h1 h2
    rw [show 24 * 0 + v = v by omega] at p1 p2 p3 p4 p5
    have e : (fun f => Z 3 (48 * 0 + f)) = (fun f => Z 3 f) := funext fun f => by rw [show 48 * 0 + f = f by omega]
    rw [e] at p2
    exact ⟨p1, p2, p4, p5, fun q => (p3 _ (by omega)).mpr (Or.inr (Or.inl (by omega))), fun q => (p3 _ (by omega)).mpr (Or.inr (Or.inr (by omega)))⟩
/-- the law's arrays hold the schema -/
def LSc (h : AH) (Z : ZT) : Prop := (hI h (la 4) 0 = Z 1 0 ∧ hI h (la 4) 1 = Z 2 0)
  ∧ (∀ a f : Nat, (a : Int) ≤ Z 1 0 → f < 10 → stt (hL h (la 1) a) f = zdg Z a f) ∧ (∀ a : Nat, 1 ≤ a → (a : Int) ≤ Z 1 0 → hI h (la 2) a = zwd Z a) ∧ ∀ f : Nat, (f : Int) < Z 2 0 → hI h (la 3) f = Z 3 f + 3 * Z 4 f
theorem LSc.g0 (S : LSc h Z) : hI h (la 4) 0 = Z 1 0 := S.1.1
theorem LSc.g1 (S : LSc h Z) : hI h (la 4) 1 = Z 2 0 := S.1.2
theorem LSc.v (S : LSc h Z) {a f : Nat} (ha : (a : Int) ≤ Z 1 0) (hf : f < 10) : stt (hL h (la 1) a) f = zdg Z a f := S.2.1 a f ha hf
theorem LSc.w (S : LSc h Z) {a : Nat} (h1 : 1 ≤ a) (ha : (a : Int) ≤ Z 1 0) : hI h (la 2) a = zwd Z a := S.2.2.1 a h1 ha
theorem LSc.f (S : LSc h Z) {f : Nat} (hf : (f : Int) < Z 2 0) : hI h (la 3) f = Z 3 f + 3 * Z 4 f := S.2.2.2 f hf
/-- the schema's rows of the model -/
def sj (j : Nat) : Bool := j == 1 || j == 2 || j == 3 || j == 4 || j == 5 || j == 6 || j == 7 || j == 8 || j == 9 || j == 10
theorem LSc.o (e : ∀ j, sj j = true → Y j = Z j) (S : LSc h Z) : LSc h Y := by
  unfold LSc zdg zwd zby at *
  rw [e 1 rfl, e 2 rfl, e 3 rfl, e 4 rfl, e 5 rfl, e 6 rfl, e 7 rfl, e 8 rfl, e 9 rfl, e 10 rfl]
  exact S
theorem QS.o (e : ∀ j, sj j = true → Y j = Z j) (S : QS Z) : QS Y := by
  unfold QS QX QP at *
  rw [e 1 rfl, e 2 rfl, e 3 rfl, e 4 rfl, e 5 rfl, e 6 rfl, e 7 rfl, e 8 rfl, e 9 rfl, e 10 rfl]
  exact S
theorem LSc.fl {P : Nat → Prop} (F : FL P h g) (h1 : ¬ P 1) (h2 : ¬ P 2) (h3 : ¬ P 3) (h4 : ¬ P 4) (S : LSc h Z) : LSc g Z := by
  unfold LSc at *
  simp only [F.I h2, F.I h3, F.I h4, F.L h1]
  exact S
/-! bounds -/
theorem zmost_b (k : Int) : 1 ≤ zmost k ∧ zmost k ≤ 9999 := by unfold zmost; (repeat' split) <;> omega
theorem QS.kd (K : QS Z) {f : Nat} (hf : (f : Int) < Z 2 0) : (0 ≤ Z 4 f ∧ Z 4 f ≤ zmost (Z 3 f) ∧ Z 4 f ≤ 9999) ∧ 0 ≤ Z 3 f ∧ Z 3 f ≤ 2 := by
  have := K.2.2.2.1 f hf
  have b := zmost_b (Z 3 f)
  omega
theorem QS.nm (K : QS Z) {v f : Nat} (hv : v < 24) (hf : f < 48) : (-1 ≤ Z 5 (48 * v + f) ∧ Z 5 (48 * v + f) ≤ 25) ∧ (Z 6 (48 * v + f) = 0 ∨ Z 6 (48 * v + f) = 1) := K.2.2.1 v f hv hf
theorem zdg_n (K : QS Z) {a f : Nat} (ha : a < 24) (hf : f < 48) : (zdg Z a f).tmod 32 = Z 5 (48 * a + f) + 1 ∧ (31 < zdg Z a f ↔ ¬ Z 5 (48 * a + f) = -1 ∧ ¬ Z 6 (48 * a + f) = 0) := by
  obtain ⟨b1, b2⟩ := K.nm ha hf
  unfold zdg
  by_cases e : Z 5 (48 * a + f) = -1
  · rw [if_pos e, e]; exact ⟨by decide, by omega⟩
  · rw [if_neg e]
    by_cases e6 : Z 6 (48 * a + f) = 0
    · rw [if_pos e6, tmd (by omega)]; omega
    · rw [if_neg e6, tmd (by omega)]; omega
theorem zw_b (K : QS Z) {a : Nat} (h1 : 1 ≤ a) (ha : (a : Int) ≤ Z 1 0) : (0 ≤ Z 7 a ∧ Z 7 a ≤ 6) ∧ (-1 ≤ Z 8 (2 * a) ∧ Z 8 (2 * a) < 10) ∧ (-1 ≤ Z 8 (2 * a + 1) ∧ Z 8 (2 * a + 1) < 10) ∧ (-1 ≤ Z 9 (2 * a) ∧ Z 9 (2 * a) < 10) ∧ (-1 ≤ Z 9 (2 * a + 1) ∧ Z 9 (2 * a + 1) < 10) ∧ (0 ≤ zby Z a ∧ zby Z a ≤ 100) := by
  obtain ⟨p, s, -⟩ := K.p h1 ha
  have b2 := K.b2
  have x := (K.x h1 ha).1
  refine ⟨?_, by omega, by omega, by omega, by omega, ?_⟩
  · unfold StK at s; omega
  · unfold zby; split
    · next q => have := x q; omega
    · omega
theorem zwd_0 (K : QS Z) {a : Nat} (h1 : 1 ≤ a) (ha : (a : Int) ≤ Z 1 0) : 0 ≤ zwd Z a ∧ zwd Z a < 60000000 := by
  obtain ⟨b0, b1, b2, b3, b4, b5⟩ := zw_b K h1 ha
  unfold zwd; omega
theorem zwd_7 (K : QS Z) {a : Nat} (h1 : 1 ≤ a) (ha : (a : Int) ≤ Z 1 0) : (zwd Z a).tmod 8 = Z 7 a := by
  have w0 := zwd_0 K h1 ha
  obtain ⟨b0, b1, b2, b3, b4, b5⟩ := zw_b K h1 ha
  rw [tmd w0.1]
  unfold zwd; omega
theorem zwd_by (K : QS Z) {a : Nat} (h1 : 1 ≤ a) (ha : (a : Int) ≤ Z 1 0) : (zwd Z a).tdiv 524288 = zby Z a := by
  have w0 := zwd_0 K h1 ha
  obtain ⟨b0, b1, b2, b3, b4, b5⟩ := zw_b K h1 ha
  rw [tdv w0.1]
  unfold zwd; omega
/-! find -/
theorem zfA_s (K : QS Z) {a k : Nat} {n : Int} (ha : a < 24) (hk : k < 48) : (if (zdg Z a k).tmod 32 = n + 1 ∧ 0 ≤ n ∧ n < 26 then (k : Int) else zfA Z 0 (a : Int) n k) = zfA Z 0 (a : Int) n (k + 1) := by
  rw [(zdg_n K ha hk).1]
  show _ = (if (0 ≤ n ∧ n ≤ 25) ∧ Z 5 (48 * (24 * 0 + (a : Int)) + (k : Int)).toNat = n then (k : Int) else zfA Z 0 (a : Int) n k)
  rw [show (48 * (24 * 0 + (a : Int)) + (k : Int)).toNat = 48 * a + k by omega]
  by_cases c : (Z 5 (48 * a + k) + 1 = n + 1 ∧ 0 ≤ n ∧ n < 26)
  · rw [if_pos c, if_pos (by omega)]
  · rw [if_neg c, if_neg (by omega)]
theorem zfA_r {a : Int} {n : Int} : ∀ k : Nat, -1 ≤ zfA Z 0 a n k ∧ zfA Z 0 a n k < k
  | 0 => ⟨by show (-1 : Int) ≤ -1; omega, by show (-1 : Int) < 0; omega⟩
  | k + 1 => by
    have := zfA_r (a := a) (n := n) k
    unfold zfA; split <;> omega
theorem zf_r (K : QS Z) {a n : Int} : -1 ≤ zfind Z 0 a n ∧ zfind Z 0 a n < Z 2 0 := by
  have b2 := K.b2
  have := zfA_r (Z := Z) (a := a) (n := n) (Z 2 0).toNat
  show -1 ≤ zfA Z 0 a n (Z 2 0).toNat ∧ zfA Z 0 a n (Z 2 0).toNat < Z 2 0
  omega
set_option maxHeartbeats 1000000 in
theorem kL_find {a : Nat} {n : Int} (T : LT h) (S : LSc h Z) (K : QS Z) (ha : (a : Int) ≤ Z 1 0) (hn : -100 ≤ n ∧ n ≤ 100) (k : Q h (.inl (some (vi (zfind Z 0 (a : Int) n))))) : AC mL_find fL_find loL_find 0 0 h [vr (la 1), vr (la 4), vi (a : Int), vi n] Q := by
  have b1 := K.b1
  have b2 := K.b2
  refine AC.mk (by decide) (Nat.le_of_ble_eq_true rfl) ?_
  have lp : ∀ (m i : Nat), (i : Int) ≤ Z 2 0 → Z 2 0 ≤ (i : Int) + m → AW mL_find fL_find loL_find 0 0 Q 0 0 6 h [(5, vi (i : Int)), (4, vi (zfA Z 0 (a : Int) n i)), (0, vr (la 1)), (1, vr (la 4)), (2, vi (a : Int)), (3, vi n)] [] := by
    intro m
    induction m with
    | zero =>
      intro i h1 h2
      have e : (Z 2 0).toNat = i := by omega
      have k' : Q h (.inl (some (vi (zfA Z 0 (a : Int) n i)))) := by
        have := k
        unfold zfind at this
        rw [show (Z 2 (0 : Int).toNat).toNat = i from e] at this
        exact this
      refine AW.iload dL_find_6 rfl ?_
      refine AW.aload_n dL_find_8 rfl ?_
      refine AW.iconst dL_find_9 (by decide) ?_
      refine AW.aldIE dL_find_10 T.a4 (by omega) (by omega) (by exact S.g1) ?_
      refine AW.icmp_geT (tgt := 55) dL_find_11 rfl (by omega) ?_
      refine AW.iload dL_find_55 rfl ?_
      refine AW.iret dL_find_57 rfl ?_
      exact k'
    | succ m ih =>
      intro i h1 h2
      by_cases e : (i : Int) = Z 2 0
      · exact ih i h1 (by omega)
      refine AW.iload dL_find_6 rfl ?_
      refine AW.aload_n dL_find_8 rfl ?_
      refine AW.iconst dL_find_9 (by decide) ?_
      refine AW.aldIE dL_find_10 T.a4 (by omega) (by omega) (by exact S.g1) ?_
      refine AW.icmp_geF (tgt := 55) dL_find_11 rfl (by omega) ?_
      refine AW.aload_n dL_find_14 rfl ?_
      refine AW.iload_n dL_find_15 rfl ?_
      refine AW.iload dL_find_16 rfl ?_
      refine AW.callS (as := [vq _, vi _, vi _]) dL_find_18 rfl rfl rfl okL_state lkL_79 rfl rfl rfl (leb (by omega)) (leb (by omega)) rfl (kL_state T (by omega) (by omega) (AW.k1 ?_))
      rw [S.v ha (by omega)]
      refine AW.bipush dL_find_21 bp_32 (by decide) ?_
      refine AW.irem dL_find_23 (by omega) ?_
      refine AW.iload_n dL_find_24 rfl ?_
      refine AW.iconst dL_find_25 (by decide) ?_
      refine AW.iaddB dL_find_26 (by omega) ?_
      refine' AW.icmp_neJ 47 (tgt := 45) dL_find_27 rfl _ _ _
      rotate_left 2
      · intro c_27 k_27
        refine AW.iload dL_find_45 rfl ?_
        exact k_27
      · intro c_27 k_27
        refine AW.iload_n dL_find_30 rfl ?_
        refine' AW.if_ltJ 47 (tgt := 45) dL_find_31 rfl _ _ _
        rotate_left 2
        · intro c_31 k_31
          refine AW.iload dL_find_45 rfl ?_
          exact k_31
        · intro c_31 k_31
          refine AW.iload_n dL_find_34 rfl ?_
          refine AW.bipush dL_find_35 bp_26 (by decide) ?_
          refine' AW.icmp_geJ 47 (tgt := 45) dL_find_37 rfl _ _ _
          rotate_left 2
          · intro c_37 k_37
            refine AW.iload dL_find_45 rfl ?_
            exact k_37
          · intro c_37 k_37
            refine AW.iload dL_find_40 rfl ?_
            refine AW.goto (tgt := 47) dL_find_42 rfl ?_
            exact k_37
          exact k_31
        exact k_27
      refine AW.top (y := zfA Z 0 (a : Int) n (i + 1)) (by rw [← zfA_s K (by omega) (by omega)]; (repeat' split) <;> first | rfl | omega) ?_
      refine AW.istore dL_find_47 rfl ?_
      refine AW.iincB dL_find_49 rfl rfl (by omega) ?_
      refine AW.goto (tgt := 6) dL_find_52 rfl ?_
      exact AW.locs [(5, vi ((i + 1 : Nat) : Int)), (4, vi (zfA Z 0 (a : Int) n (i + 1))), (0, vr (la 1)), (1, vr (la 4)), (2, vi (a : Int)), (3, vi n)] ⟨rfl, rfl, rfl, rfl, rfl, rfl, trivial⟩ (ih (i + 1) (by omega) (by omega))
  refine AW.iconst dL_find_0 (by decide) ?_
  refine AW.istore dL_find_1 rfl ?_
  refine AW.iconst dL_find_3 (by decide) ?_
  refine AW.istore dL_find_4 rfl ?_
  exact AW.locs [(5, vi ((0 : Nat) : Int)), (4, vi (zfA Z 0 (a : Int) n 0)), (0, vr (la 1)), (1, vr (la 4)), (2, vi (a : Int)), (3, vi n)] ⟨rfl, rfl, rfl, rfl, rfl, rfl, trivial⟩ (lp 10 0 (by omega) (by omega))
/-! side -/
def sdv (W u j : Int) : Int := (if u = 0 then (if j = 0 then ((W.tdiv 8).tdiv 16).tdiv 16 else (((W.tdiv 8).tdiv 16).tdiv 16).tdiv 16) else (if j = 0 then W.tdiv 8 else (W.tdiv 8).tdiv 16)).tmod 16 - 1
theorem tm16 (x : Int) : -16 < x.tmod 16 ∧ x.tmod 16 < 16 := by
  by_cases h0 : 0 ≤ x
  · rw [tmd h0]; omega
  · have h1 := Int.tmod_nonneg (16 : Int) (show 0 ≤ -x by omega)
    have h2 := Int.tmod_lt_of_pos (-x) (show (0 : Int) < 16 by omega)
    rw [Int.neg_tmod] at h1 h2
    omega
set_option maxHeartbeats 1000000 in
theorem kL_sideR {a : Nat} {W u j : Int} (T : LT h) (ha : a < 13) (e : hI h (la 2) a = W) (hu : u = 0 ∨ u = 1) (hj : j = 0 ∨ j = 1) (k : Q h (.inl (some (vi (sdv W u j))))) : AC mL_side fL_side loL_side 0 0 h [vr (la 2), vi (a : Int), vi u, vi j] Q := by
  refine AC.mk (by decide) (Nat.le_of_ble_eq_true rfl) ?_
  rcases hu with rfl | rfl
  · rcases hj with rfl | rfl
    · refine AW.aload_n dL_side_0 rfl ?_
      refine AW.iload_n dL_side_1 rfl ?_
      refine AW.aldIE dL_side_2 T.a2 (by omega) (by omega) (by exact e) ?_
      refine AW.bipush dL_side_3 bp_8 (by decide) ?_
      refine AW.idiv dL_side_5 (by omega) ?_
      refine AW.istore dL_side_6 rfl ?_
      refine AW.iconst dL_side_8 (by decide) ?_
      refine AW.istore dL_side_9 rfl ?_
      refine AW.iload dL_side_11 rfl ?_
      refine AW.iload_n dL_side_13 rfl ?_
      refine AW.if_eqT (tgt := 21) dL_side_14 rfl (by omega) ?_
      refine AW.iconst dL_side_21 (by decide) ?_
      refine AW.iload_n dL_side_22 rfl ?_
      refine AW.iaddB dL_side_23 (by omega) ?_
      refine AW.icmp_geF (tgt := 40) dL_side_24 rfl (by omega) ?_
      refine AW.iload dL_side_27 rfl ?_
      refine AW.bipush dL_side_29 bp_16 (by decide) ?_
      refine AW.idiv dL_side_31 (by omega) ?_
      refine AW.istore dL_side_32 rfl ?_
      refine AW.iincB dL_side_34 rfl rfl (by omega) ?_
      refine AW.goto (tgt := 11) dL_side_37 rfl ?_
      refine AW.iload dL_side_11 rfl ?_
      refine AW.iload_n dL_side_13 rfl ?_
      refine AW.pcs (pc2 := 14) rfl ?_
      refine AW.if_eqT (tgt := 21) dL_side_14 rfl (by omega) ?_
      refine AW.iconst dL_side_21 (by decide) ?_
      refine AW.iload_n dL_side_22 rfl ?_
      refine AW.iaddB dL_side_23 (by omega) ?_
      refine AW.icmp_geF (tgt := 40) dL_side_24 rfl (by omega) ?_
      refine AW.iload dL_side_27 rfl ?_
      refine AW.bipush dL_side_29 bp_16 (by decide) ?_
      refine AW.idiv dL_side_31 (by omega) ?_
      refine AW.istore dL_side_32 rfl ?_
      refine AW.iincB dL_side_34 rfl rfl (by omega) ?_
      refine AW.goto (tgt := 11) dL_side_37 rfl ?_
      refine AW.iload dL_side_11 rfl ?_
      refine AW.iload_n dL_side_13 rfl ?_
      refine AW.if_eqT (tgt := 21) dL_side_14 rfl (by omega) ?_
      refine AW.iconst dL_side_21 (by decide) ?_
      refine AW.iload_n dL_side_22 rfl ?_
      refine AW.iaddB dL_side_23 (by omega) ?_
      refine AW.icmp_geT (tgt := 40) dL_side_24 rfl (by omega) ?_
      refine AW.iload dL_side_40 rfl ?_
      refine AW.bipush dL_side_42 bp_16 (by decide) ?_
      refine AW.irem dL_side_44 (by omega) ?_
      refine AW.iconst dL_side_45 (by decide) ?_
      refine AW.isubB dL_side_46 (by have := tm16 (((W.tdiv 8).tdiv 16).tdiv 16); omega) ?_
      refine AW.iret dL_side_47 rfl ?_
      exact k
    · refine AW.aload_n dL_side_0 rfl ?_
      refine AW.iload_n dL_side_1 rfl ?_
      refine AW.aldIE dL_side_2 T.a2 (by omega) (by omega) (by exact e) ?_
      refine AW.bipush dL_side_3 bp_8 (by decide) ?_
      refine AW.idiv dL_side_5 (by omega) ?_
      refine AW.istore dL_side_6 rfl ?_
      refine AW.iconst dL_side_8 (by decide) ?_
      refine AW.istore dL_side_9 rfl ?_
      refine AW.iload dL_side_11 rfl ?_
      refine AW.iload_n dL_side_13 rfl ?_
      refine AW.if_eqT (tgt := 21) dL_side_14 rfl (by omega) ?_
      refine AW.iconst dL_side_21 (by decide) ?_
      refine AW.iload_n dL_side_22 rfl ?_
      refine AW.iaddB dL_side_23 (by omega) ?_
      refine AW.icmp_geF (tgt := 40) dL_side_24 rfl (by omega) ?_
      refine AW.iload dL_side_27 rfl ?_
      refine AW.bipush dL_side_29 bp_16 (by decide) ?_
      refine AW.idiv dL_side_31 (by omega) ?_
      refine AW.istore dL_side_32 rfl ?_
      refine AW.iincB dL_side_34 rfl rfl (by omega) ?_
      refine AW.goto (tgt := 11) dL_side_37 rfl ?_
      refine AW.iload dL_side_11 rfl ?_
      refine AW.iload_n dL_side_13 rfl ?_
      refine AW.pcs (pc2 := 14) rfl ?_
      refine AW.if_eqT (tgt := 21) dL_side_14 rfl (by omega) ?_
      refine AW.iconst dL_side_21 (by decide) ?_
      refine AW.iload_n dL_side_22 rfl ?_
      refine AW.iaddB dL_side_23 (by omega) ?_
      refine AW.icmp_geF (tgt := 40) dL_side_24 rfl (by omega) ?_
      refine AW.iload dL_side_27 rfl ?_
      refine AW.bipush dL_side_29 bp_16 (by decide) ?_
      refine AW.idiv dL_side_31 (by omega) ?_
      refine AW.istore dL_side_32 rfl ?_
      refine AW.iincB dL_side_34 rfl rfl (by omega) ?_
      refine AW.goto (tgt := 11) dL_side_37 rfl ?_
      refine AW.iload dL_side_11 rfl ?_
      refine AW.iload_n dL_side_13 rfl ?_
      refine AW.if_eqT (tgt := 21) dL_side_14 rfl (by omega) ?_
      refine AW.iconst dL_side_21 (by decide) ?_
      refine AW.iload_n dL_side_22 rfl ?_
      refine AW.iaddB dL_side_23 (by omega) ?_
      refine AW.icmp_geF (tgt := 40) dL_side_24 rfl (by omega) ?_
      refine AW.iload dL_side_27 rfl ?_
      refine AW.bipush dL_side_29 bp_16 (by decide) ?_
      refine AW.idiv dL_side_31 (by omega) ?_
      refine AW.istore dL_side_32 rfl ?_
      refine AW.iincB dL_side_34 rfl rfl (by omega) ?_
      refine AW.goto (tgt := 11) dL_side_37 rfl ?_
      refine AW.pcs (pc2 := 11) rfl ?_
      refine AW.iload dL_side_11 rfl ?_
      refine AW.iload_n dL_side_13 rfl ?_
      refine AW.if_eqT (tgt := 21) dL_side_14 rfl (by omega) ?_
      refine AW.iconst dL_side_21 (by decide) ?_
      refine AW.iload_n dL_side_22 rfl ?_
      refine AW.iaddB dL_side_23 (by omega) ?_
      refine AW.icmp_geT (tgt := 40) dL_side_24 rfl (by omega) ?_
      refine AW.iload dL_side_40 rfl ?_
      refine AW.bipush dL_side_42 bp_16 (by decide) ?_
      refine AW.irem dL_side_44 (by omega) ?_
      refine AW.iconst dL_side_45 (by decide) ?_
      refine AW.isubB dL_side_46 (by have := tm16 ((((W.tdiv 8).tdiv 16).tdiv 16).tdiv 16); omega) ?_
      refine AW.iret dL_side_47 rfl ?_
      exact k
  · rcases hj with rfl | rfl
    · refine AW.aload_n dL_side_0 rfl ?_
      refine AW.iload_n dL_side_1 rfl ?_
      refine AW.aldIE dL_side_2 T.a2 (by omega) (by omega) (by exact e) ?_
      refine AW.bipush dL_side_3 bp_8 (by decide) ?_
      refine AW.idiv dL_side_5 (by omega) ?_
      refine AW.istore dL_side_6 rfl ?_
      refine AW.iconst dL_side_8 (by decide) ?_
      refine AW.istore dL_side_9 rfl ?_
      refine AW.iload dL_side_11 rfl ?_
      refine AW.iload_n dL_side_13 rfl ?_
      refine AW.if_eqF (tgt := 21) dL_side_14 rfl (by omega) ?_
      refine AW.iconst dL_side_17 (by decide) ?_
      refine AW.goto (tgt := 22) dL_side_18 rfl ?_
      refine AW.iload_n dL_side_22 rfl ?_
      refine AW.iaddB dL_side_23 (by omega) ?_
      refine AW.icmp_geT (tgt := 40) dL_side_24 rfl (by omega) ?_
      refine AW.iload dL_side_40 rfl ?_
      refine AW.bipush dL_side_42 bp_16 (by decide) ?_
      refine AW.irem dL_side_44 (by omega) ?_
      refine AW.iconst dL_side_45 (by decide) ?_
      refine AW.isubB dL_side_46 (by have := tm16 (W.tdiv 8); omega) ?_
      refine AW.iret dL_side_47 rfl ?_
      exact k
    · refine AW.aload_n dL_side_0 rfl ?_
      refine AW.iload_n dL_side_1 rfl ?_
      refine AW.aldIE dL_side_2 T.a2 (by omega) (by omega) (by exact e) ?_
      refine AW.bipush dL_side_3 bp_8 (by decide) ?_
      refine AW.idiv dL_side_5 (by omega) ?_
      refine AW.istore dL_side_6 rfl ?_
      refine AW.iconst dL_side_8 (by decide) ?_
      refine AW.istore dL_side_9 rfl ?_
      refine AW.iload dL_side_11 rfl ?_
      refine AW.iload_n dL_side_13 rfl ?_
      refine AW.if_eqF (tgt := 21) dL_side_14 rfl (by omega) ?_
      refine AW.iconst dL_side_17 (by decide) ?_
      refine AW.goto (tgt := 22) dL_side_18 rfl ?_
      refine AW.iload_n dL_side_22 rfl ?_
      refine AW.iaddB dL_side_23 (by omega) ?_
      refine AW.icmp_geF (tgt := 40) dL_side_24 rfl (by omega) ?_
      refine AW.iload dL_side_27 rfl ?_
      refine AW.bipush dL_side_29 bp_16 (by decide) ?_
      refine AW.idiv dL_side_31 (by omega) ?_
      refine AW.istore dL_side_32 rfl ?_
      refine AW.iincB dL_side_34 rfl rfl (by omega) ?_
      refine AW.goto (tgt := 11) dL_side_37 rfl ?_
      refine AW.iload dL_side_11 rfl ?_
      refine AW.pcs (pc2 := 13) rfl ?_
      refine AW.iload_n dL_side_13 rfl ?_
      refine AW.if_eqF (tgt := 21) dL_side_14 rfl (by omega) ?_
      refine AW.iconst dL_side_17 (by decide) ?_
      refine AW.goto (tgt := 22) dL_side_18 rfl ?_
      refine AW.iload_n dL_side_22 rfl ?_
      refine AW.iaddB dL_side_23 (by omega) ?_
      refine AW.icmp_geT (tgt := 40) dL_side_24 rfl (by omega) ?_
      refine AW.iload dL_side_40 rfl ?_
      refine AW.bipush dL_side_42 bp_16 (by decide) ?_
      refine AW.irem dL_side_44 (by omega) ?_
      refine AW.iconst dL_side_45 (by decide) ?_
      refine AW.isubB dL_side_46 (by have := tm16 ((W.tdiv 8).tdiv 16); omega) ?_
      refine AW.iret dL_side_47 rfl ?_
      exact k
/-- a field on a side of a step -/
def zsd (Z : ZT) (a : Nat) (u j : Int) : Int := if u = 0 then Z 9 (2 * a + j.toNat) else Z 8 (2 * a + j.toNat)
theorem sdv_z (K : QS Z) {a : Nat} {u j : Int} (h1 : 1 ≤ a) (ha : (a : Int) ≤ Z 1 0) (hu : u = 0 ∨ u = 1) (hj : j = 0 ∨ j = 1) : sdv (zwd Z a) u j = zsd Z a u j := by
  have w0 := zwd_0 K h1 ha
  obtain ⟨b0, b1, b2, b3, b4, b5⟩ := zw_b K h1 ha
  have e1 : (zwd Z a).tdiv 8 = zwd Z a / 8 := tdv w0.1
  have e2 : (zwd Z a / 8).tdiv 16 = zwd Z a / 8 / 16 := tdv (by omega)
  have e3 : (zwd Z a / 8 / 16).tdiv 16 = zwd Z a / 8 / 16 / 16 := tdv (by omega)
  have e4 : (zwd Z a / 8 / 16 / 16).tdiv 16 = zwd Z a / 8 / 16 / 16 / 16 := tdv (by omega)
  unfold sdv zsd
  rcases hu with rfl | rfl
  · rcases hj with rfl | rfl
    · rw [if_pos rfl, if_pos rfl, if_pos rfl, e1, e2, e3, tmd (by omega)]
      show _ = Z 9 (2 * a)
      unfold zwd; omega
    · rw [if_pos rfl, if_neg (by decide), if_pos rfl, e1, e2, e3, e4, tmd (by omega)]
      show _ = Z 9 (2 * a + 1)
      unfold zwd; omega
  · rcases hj with rfl | rfl
    · rw [if_neg (by decide), if_pos rfl, if_neg (by decide), e1, tmd (by omega)]
      show _ = Z 8 (2 * a)
      unfold zwd; omega
    · rw [if_neg (by decide), if_neg (by decide), if_neg (by decide), e1, e2, tmd (by omega)]
      show _ = Z 8 (2 * a + 1)
      unfold zwd; omega
theorem kL_side {a : Nat} {u j : Int} (T : LT h) (S : LSc h Z) (K : QS Z) (h1 : 1 ≤ a) (ha : (a : Int) ≤ Z 1 0) (hu : u = 0 ∨ u = 1) (hj : j = 0 ∨ j = 1) (k : Q h (.inl (some (vi (zsd Z a u j))))) : AC mL_side fL_side loL_side 0 0 h [vr (la 2), vi (a : Int), vi u, vi j] Q := by
  have b1 := K.b1
  rw [← sdv_z K h1 ha hu hj] at k
  exact kL_sideR T (by omega) (S.w h1 ha) hu hj k
end A3
