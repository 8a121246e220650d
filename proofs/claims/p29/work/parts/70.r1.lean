/-! ===== the relation: schemas ===== -/
section R1
variable {h g : AH} {Z Y : ZT} {s : Nat}
/-- a schema's numbers, as class and model have them -/
def SHd (h : AH) (Z : ZT) (s : Nat) : Prop := hI h (4, s, 0) 0 = Z 1 s ∧ hI h (4, s, 0) 2 = Z 2 s
def SFd (h : AH) (Z : ZT) (s : Nat) : Prop := ∀ f : Nat, (f : Int) < Z 2 s → hI h (4, s, 1) f = Z 3 (48 * s + f) ∧ hI h (4, s, 2) f = Z 4 (48 * s + f)
def SNm (h : AH) (Z : ZT) (s : Nat) : Prop := ∀ v n : Nat, (v : Int) ≤ Z 1 s → n < 26 → (-1 ≤ hI h (4, s, 100 + v) n ∧ hI h (4, s, 100 + v) n < Z 2 s) ∧ ∀ f : Nat, (f : Int) < Z 2 s → (hI h (4, s, 100 + v) n = (f : Int) ↔ Z 5 (48 * (24 * s + v) + f) = (n : Int))
def SNd (h : AH) (Z : ZT) (s : Nat) : Prop := ∀ v f : Nat, (v : Int) ≤ Z 1 s → f < 64 → (bt (hL h (4, s, 4) v) f → (f : Int) < Z 2 s) ∧ (f < 48 → ¬ Z 5 (48 * (24 * s + v) + f) = -1 → (bt (hL h (4, s, 4) v) f ↔ ¬ Z 6 (48 * (24 * s + v) + f) = 0))
/-- the step p -/
def SPt (h : AH) (Z : ZT) (p : Nat) : Prop := StpW h p ∧ hI h (5, p, 0) 0 = Z 7 p ∧ (Z 7 p = 3 ∨ Z 7 p = 4 → hI h (5, p, 0) 3 = Z 10 p) ∧ hI h (6, p, 0) 0 = Z 8 (2 * p) ∧ hI h (6, p, 0) 1 = Z 8 (2 * p + 1) ∧ hI h (7, p, 0) 0 = Z 9 (2 * p) ∧ hI h (7, p, 0) 1 = Z 9 (2 * p + 1)
def SSt (h : AH) (Z : ZT) (s : Nat) : Prop := hR h (4, s, 5) 0 = none ∧ ∀ v : Nat, 1 ≤ v → (v : Int) ≤ Z 1 s → hR h (4, s, 5) v = some (5, 24 * s + v, 0) ∧ SPt h Z (24 * s + v)
def SV (h : AH) (Z : ZT) (s : Nat) : Prop := SchW h s ∧ SHd h Z s ∧ SFd h Z s ∧ SNm h Z s ∧ SNd h Z s ∧ SSt h Z s
/-- a step's fields, by its kind -/
def StK (w a b c d fc : Int) (kf : Nat → Int) : Prop :=
  (w = 0 ∧ a = -1 ∧ b = -1 ∧ 0 ≤ c ∧ d = -1) ∨ ((w = 1 ∨ w = 6) ∧ 0 ≤ a ∧ b = -1 ∧ c = a ∧ d = -1) ∨ (w = 2 ∧ 0 ≤ a ∧ b = -1 ∧ 0 ≤ c ∧ d = -1 ∧ ¬ kf a.toNat = kf c.toNat)
  ∨ (w = 3 ∧ 0 ≤ a ∧ b = -1 ∧ 0 ≤ c ∧ 0 ≤ d ∧ 0 < fc) ∨ (w = 4 ∧ 0 ≤ a ∧ 0 ≤ b ∧ 0 ≤ c ∧ d = -1 ∧ 0 < fc) ∨ (w = 5 ∧ 0 ≤ a ∧ b = -1 ∧ c = -1 ∧ d = -1)
/-- the step p of the schema s in the model -/
def ZP (Z : ZT) (s p : Nat) : Prop :=
  ((-1 ≤ Z 8 (2 * p) ∧ Z 8 (2 * p) < Z 2 s) ∧ (-1 ≤ Z 8 (2 * p + 1) ∧ Z 8 (2 * p + 1) < Z 2 s) ∧ (-1 ≤ Z 9 (2 * p) ∧ Z 9 (2 * p) < Z 2 s) ∧ (-1 ≤ Z 9 (2 * p + 1) ∧ Z 9 (2 * p + 1) < Z 2 s))
  ∧ StK (Z 7 p) (Z 8 (2 * p)) (Z 8 (2 * p + 1)) (Z 9 (2 * p)) (Z 9 (2 * p + 1)) (Z 10 p) (fun f => Z 3 (48 * s + f))
  ∧ (∀ f : Nat, f < 48 → (¬ Z 5 (48 * p + f) = -1 ↔ (¬ Z 5 (48 * (p - 1) + f) = -1 ∧ ¬ (f : Int) = Z 8 (2 * p) ∧ ¬ (f : Int) = Z 8 (2 * p + 1)) ∨ (f : Int) = Z 9 (2 * p) ∨ (f : Int) = Z 9 (2 * p + 1)))
  ∧ (¬ Z 8 (2 * p) = -1 → ¬ Z 5 (48 * (p - 1) + (Z 8 (2 * p)).toNat) = -1) ∧ (¬ Z 8 (2 * p + 1) = -1 → ¬ Z 5 (48 * (p - 1) + (Z 8 (2 * p + 1)).toNat) = -1)
  ∧ ∀ f : Nat, f < 48 → ((f : Int) = Z 9 (2 * p) ∨ (f : Int) = Z 9 (2 * p + 1)) → ¬ Z 5 (48 * (p - 1) + f) = -1 → ((f : Int) = Z 8 (2 * p) ∨ (f : Int) = Z 8 (2 * p + 1))
/-- the model's schema s is sound -/
def ZS (Z : ZT) (s : Nat) : Prop := ((0 ≤ Z 1 s ∧ Z 1 s ≤ 23) ∧ (0 ≤ Z 2 s ∧ Z 2 s ≤ 46))
  ∧ (∀ v f : Nat, v < 24 → f < 48 → (Z 2 s ≤ (f : Int) ∨ Z 1 s < (v : Int)) → Z 5 (48 * (24 * s + v) + f) = -1)
  ∧ (∀ v f : Nat, v < 24 → f < 48 → -1 ≤ Z 5 (48 * (24 * s + v) + f) ∧ Z 5 (48 * (24 * s + v) + f) ≤ 25)
  ∧ (∀ f : Nat, (f : Int) < Z 2 s → (0 ≤ Z 4 (48 * s + f) ∧ Z 4 (48 * s + f) ≤ zmost (Z 3 (48 * s + f))) ∧ 0 ≤ Z 3 (48 * s + f) ∧ Z 3 (48 * s + f) ≤ 2)
  ∧ (∀ v : Nat, 1 ≤ v → (v : Int) ≤ Z 1 s → ZP Z s (24 * s + v))
theorem SV.W (S : SV h Z s) : SchW h s := S.1
theorem SV.hd (S : SV h Z s) : hI h (4, s, 0) 0 = Z 1 s := S.2.1.1
theorem SV.fc (S : SV h Z s) : hI h (4, s, 0) 2 = Z 2 s := S.2.1.2
theorem SV.st (S : SV h Z s) {v : Nat} (h1 : 1 ≤ v) (h2 : (v : Int) ≤ Z 1 s) : hR h (4, s, 5) v = some (5, 24 * s + v, 0) ∧ SPt h Z (24 * s + v) := S.2.2.2.2.2.2 v h1 h2
theorem SV.s0 (S : SV h Z s) : hR h (4, s, 5) 0 = none := S.2.2.2.2.2.1
theorem ZS.zp (K : ZS Z s) {v : Nat} (h1 : 1 ≤ v) (h2 : (v : Int) ≤ Z 1 s) : ZP Z s (24 * s + v) := K.2.2.2.2 v h1 h2
theorem ZS.b1 (K : ZS Z s) : 0 ≤ Z 1 s ∧ Z 1 s ≤ 23 := K.1.1
theorem ZS.b2 (K : ZS Z s) : 0 ≤ Z 2 s ∧ Z 2 s ≤ 46 := K.1.2
theorem SV.sb (S : SV h Z s) (K : ZS Z s) (hw : 0 ≤ hI h (4, s, 0) 1 ∧ hI h (4, s, 0) 1 ≤ 46) : SB h s := by
  have b1 := K.b1
  have b2 := K.b2
  unfold SB
  rw [S.hd, S.fc]
  exact ⟨b1, hw, b2⟩
theorem SV.pb (S : SV h Z s) (K : ZS Z s) {v : Nat} (h1 : 1 ≤ v) (h2 : (v : Int) ≤ Z 1 s) : PB h (24 * s + v) := by
  obtain ⟨-, -, -, -, e1, e2, e3, e4⟩ := S.st h1 h2
  have b2 := K.b2
  obtain ⟨⟨p1, p2, p3, p4⟩, -⟩ := K.zp h1 h2
  unfold PB
  rw [e1, e2, e3, e4]
  omega
theorem SV.sts (S : SV h Z s) (K : ZS Z s) : StS h s := by
  intro n h1 h2
  rw [S.hd] at h2
  exact ⟨(S.st h1 h2).1, (S.st h1 h2).2.1, S.pb K h1 h2⟩
/-- a field is found alike -/
theorem SV.fnd (S : SV h Z s) (K : ZS Z s) {v n : Int} (hv : 0 ≤ v ∧ v ≤ Z 1 s) : zfind Z s v n = cfn h s v n := by
  have b1 := K.b1
  have b2 := K.b2
  unfold cfn
  rw [S.hd]
  by_cases hn : 0 ≤ n ∧ n ≤ 25
  · rw [if_pos ⟨hv, hn⟩]
    obtain ⟨r, q⟩ := S.2.2.2.1 v.toNat n.toNat (by omega) (by omega)
    generalize hI h (4, s, 100 + v.toNat) n.toNat = x at r q
    have lp : ∀ k : Nat, (k : Int) ≤ Z 2 s → zfA Z s v n k = if x < (k : Int) then x else -1 := by
      intro k
      induction k with
      | zero =>
        intro _
        show (-1 : Int) = _
        split <;> omega
      | succ k ih =>
        intro hk
        unfold zfA
        rw [ih (by omega)]
        have qk := q k (by omega)
        rw [show (48 * (24 * (s : Int) + v) + (k : Int)).toNat = 48 * (24 * s + v.toNat) + k by omega]
        by_cases c : x = (k : Int)
        · rw [if_pos ⟨hn, by rw [qk.mp c]; omega⟩, if_pos (by omega), c]
        · have c2 : ¬ Z 5 (48 * (24 * s + v.toNat) + k) = n := fun e => c (qk.mpr (by rw [e]; omega))
          rw [if_neg (fun e => c2 e.2)]
          (repeat' split) <;> omega
    unfold zfind
    rw [Int.toNat_natCast, lp _ (by omega), if_pos (by omega)]
  · rw [if_neg (fun e => hn e.2)]
    unfold zfind
    have lp : ∀ k : Nat, zfA Z s v n k = -1 := by
      intro k
      induction k with
      | zero => rfl
      | succ k ih =>
        unfold zfA
        rw [if_neg (fun e => hn e.1), ih]
    exact lp _
theorem SV.atH (S : SV h Z s) (K : ZS Z s) (hs : (s : Int) < Z 0 0) {n : Int} : zatH Z s n = cfn h s (Z 1 s) n := by
  have b1 := K.b1
  unfold zatH
  rw [if_pos ⟨by omega, hs⟩, Int.toNat_natCast]
  exact S.fnd K ⟨by omega, by omega⟩
/-- what is found -/
theorem SV.fr (S : SV h Z s) (K : ZS Z s) {v n : Int} : cfn h s v n = -1 ∨ ((0 ≤ v ∧ v ≤ Z 1 s) ∧ (0 ≤ n ∧ n ≤ 25) ∧ 0 ≤ cfn h s v n ∧ cfn h s v n < Z 2 s ∧ Z 5 (48 * (24 * s + v.toNat) + (cfn h s v n).toNat) = n) := by
  have b1 := K.b1
  have b2 := K.b2
  unfold cfn
  rw [S.hd]
  split
  · next c =>
    obtain ⟨r, q⟩ := S.2.2.2.1 v.toNat n.toNat (by omega) (by omega)
    generalize hI h (4, s, 100 + v.toNat) n.toNat = x at r q
    by_cases e : x = -1
    · exact Or.inl e
    · refine Or.inr ⟨c.1, c.2, by omega, r.2, ?_⟩
      have := (q x.toNat (by omega)).mp (by omega)
      rw [this]; omega
  · exact Or.inl rfl
theorem SV.eck (S : SV h Z s) {f : Int} (hf : -1 ≤ f ∧ f < Z 2 s) : ckd h s f = zkof Z s f := by
  unfold ckd zkof
  rw [S.fc]
  by_cases e : f = -1
  · rw [if_neg (by omega), if_pos e]
  · rw [if_pos (by omega), if_neg e, (S.2.2.1 f.toNat (by omega)).1]
    congr 1; omega
theorem SV.ecd (S : SV h Z s) {f : Int} (hf : 0 ≤ f ∧ f < Z 2 s) : cdf h s f = Z 4 (48 * s + f.toNat) := by
  unfold cdf
  rw [S.fc, if_pos hf, (S.2.2.1 f.toNat (by omega)).2]
/-- needed fields are told alike -/
theorem SV.ned (S : SV h Z s) (K : ZS Z s) {v : Nat} {f x : Int} (hv : (v : Int) ≤ Z 1 s) (hf : -1 ≤ f ∧ f < Z 2 s) (hp : ¬ f = -1 → ¬ Z 5 (48 * (24 * s + v) + f.toNat) = -1) : cne h s v f x = zned Z s v f x := by
  have b2 := K.b2
  unfold cne zned cnd
  rw [S.hd, S.fc]
  by_cases e : f = -1
  · rw [if_neg, if_neg (fun z => z.2.1 e)]
    rintro ⟨-, z⟩
    exact absurd (bz_n0.mp z).2.1.1 (by omega)
  · have hn := ((S.2.2.2.2.1 v f.toNat hv (by omega)).2 (by omega) (hp e))
    rw [show ((f.toNat : Nat) : Int) = f by omega] at hn
    rw [S.ecd (by omega), show (48 * (24 * (s : Int) + (v : Int)) + f).toNat = 48 * (24 * s + v) + f.toNat by omega, show (48 * (s : Int) + f).toNat = 48 * s + f.toNat by omega, Int.toNat_natCast]
    by_cases q : bt (hL h (4, s, 4) v) f
    · have q2 := hn.mp q
      rw [show (bz ((0 ≤ (v : Int) ∧ (v : Int) ≤ Z 1 s) ∧ (0 ≤ f ∧ f < Z 2 s) ∧ bt (hL h (4, s, 4) v) f)) = 1 from bz_1.mpr ⟨by omega, by omega, q⟩]
      by_cases q3 : x = -1
      · rw [if_pos ⟨q3, by decide⟩, if_pos ⟨q3, e, q2⟩]
      · rw [if_neg (fun z => q3 z.1), if_neg (fun z => q3 z.1)]
    · rw [show (bz ((0 ≤ (v : Int) ∧ (v : Int) ≤ Z 1 s) ∧ (0 ≤ f ∧ f < Z 2 s) ∧ bt (hL h (4, s, 4) v) f)) = 0 from bz_0.mpr (fun z => q z.2.2), if_neg (fun z => z.2 rfl), if_neg (fun z => q (hn.mpr z.2.2))]
end R1
