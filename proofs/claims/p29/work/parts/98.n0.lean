/-! ===== the relation: the face: take ===== -/
section N0
variable {Q : AH → AO → Prop} {h g G : AH} {Z Y X : ZT} {c q s k : Nat} {A : Nat → Nat}
theorem zca_ex {t : Nat → Int} : ∀ n, ¬ zca t n = 0 ↔ ∃ f, f < n ∧ ¬ t f = 0
  | 0 => ⟨fun z => absurd rfl z, fun ⟨f, hf, _⟩ => absurd hf (by omega)⟩
  | n + 1 => by
    unfold zca
    rw [bz_n0, zca_ex n]
    constructor
    · rintro (⟨f, hf, e⟩ | e)
      · exact ⟨f, by omega, e⟩
      · exact ⟨n, by omega, e⟩
    · rintro ⟨f, hf, e⟩
      by_cases z : f = n
      · exact Or.inr (z ▸ e)
      · exact Or.inl ⟨f, by omega, e⟩
theorem zcb_ex {s : Int} {t : Nat → Int} : ∀ n, ¬ zcb Z s t n = 0 ↔ ∃ f : Nat, f < n ∧ ¬ t f = 0 ∧ ¬ zwt Z s (f : Int) = 0
  | 0 => ⟨fun z => absurd rfl z, fun ⟨f, hf, _⟩ => absurd hf (by omega)⟩
  | n + 1 => by
    unfold zcb
    rw [bz_n0, zcb_ex n]
    constructor
    · rintro (⟨f, hf, e⟩ | e)
      · exact ⟨f, by omega, e⟩
      · exact ⟨n, by omega, e⟩
    · rintro ⟨f, hf, e⟩
      by_cases z : f = n
      · exact Or.inr (z ▸ e)
      · exact Or.inl ⟨f, by omega, e⟩
theorem bt_n0 {x : Int64} : ¬ x = 0 ↔ ∃ f : Nat, f < 64 ∧ bt x f := by
  constructor
  · intro z
    refine Classical.byContradiction (fun y => z (bt_ext (fun f hf => ⟨fun w => absurd ⟨f, hf, w⟩ y, fun w => absurd w bt_0⟩)))
  · rintro ⟨f, _, w⟩ e
    subst e
    exact absurd w bt_0
/-- whether a field may be taken, by the bits -/
theorem zct_bits (S : SIMq A 9 h Z c) (hk : (k : Int) < Z 13 0) (G : 0 ≤ Z 15 k ∧ Z 15 k ≤ Z 1 (Z 14 k).toNat) {F : Int} (hF : 0 ≤ F ∧ F < Z 2 (Z 14 k).toNat) :
    ¬ zct Z (k : Int) F = 0 ↔ ¬ ctr h (Z 14 k).toNat (Z 15 k).toNat (bitI F) = 0 ∧ ctr h (Z 14 k).toNat (Z 15 k).toNat (bitI F) &&& cal h (Z 14 k).toNat = 0 := by
  have F2 := (S.2.2.2.1 k hk).2.1
  obtain ⟨S1, K, SQ1⟩ := S.sc (s := (Z 14 k).toNat) (by omega)
  have SQ1 := SQ1 (by have := S.zz; omega)
  have b2 := K.b2
  have e14 : (((Z 14 k).toNat : Nat) : Int) = Z 14 k := by omega
  have e15 : (((Z 15 k).toNat : Nat) : Int) = Z 15 k := by omega
  have q0 : BQ (bitI F) (fun q => bz ((q : Int) = F)) := fun f hf => by
    rw [bit_bt (by omega) (by omega), bz_n0]
    exact ⟨fun z => ⟨by omega, z⟩, fun z => z.2⟩
  have q1 := q0.tr S1 K (v := (Z 15 k).toNat) (by omega)
  have sup := zfo_sup (v := (Z 15 k).toNat) K (t := fun q => bz ((q : Int) = F)) (fun f hf z => by have := bz_n0.mp z; omega) (Z 1 (Z 14 k).toNat - Z 15 k).toNat (by omega)
  have eT : zTr Z (Z 14 k) (Z 15 k) F = zfo Z ((Z 14 k).toNat : Nat) ((Z 15 k).toNat : Nat) (fun q => bz ((q : Int) = F)) (Z 1 (Z 14 k).toNat - Z 15 k).toNat := by
    unfold zTr; rw [e14, e15]
  rw [show (Z 1 (Z 14 k).toNat - ((Z 15 k).toNat : Int)).toNat = (Z 1 (Z 14 k).toNat - Z 15 k).toNat by rw [e15]] at q1
  unfold zct
  rw [Int.toNat_natCast, eT, bz_n0, zca_ex]
  have e2 : ¬ zcb Z (Z 14 k) (zfo Z ((Z 14 k).toNat : Nat) ((Z 15 k).toNat : Nat) (fun q => bz ((q : Int) = F)) (Z 1 (Z 14 k).toNat - Z 15 k).toNat) (Z 2 (Z 14 k).toNat).toNat = 0 ↔ ¬ ctr h (Z 14 k).toNat (Z 15 k).toNat (bitI F) &&& cal h (Z 14 k).toNat = 0 := by
    rw [zcb_ex, bt_n0]
    constructor
    · rintro ⟨f, hf, e, w⟩
      refine ⟨f, by omega, bt_and.mpr ⟨(q1 f (by omega)).mpr ⟨by omega, e⟩, (SQ1.wt ⟨by omega, by omega⟩).mpr (by rw [e14]; exact w)⟩⟩
    · rintro ⟨f, hf, w⟩
      obtain ⟨w1, w2⟩ := bt_and.mp w
      obtain ⟨h48, w3⟩ := (q1 f hf).mp w1
      have := sup f h48 w3
      exact ⟨f, by omega, w3, by have := (SQ1.wt ⟨by omega, by omega⟩).mp w2; rw [e14] at this; exact this⟩
  have e1 : (∃ f : Nat, f < (Z 2 (Z 14 k).toNat).toNat ∧ ¬ zfo Z ((Z 14 k).toNat : Nat) ((Z 15 k).toNat : Nat) (fun q => bz ((q : Int) = F)) (Z 1 (Z 14 k).toNat - Z 15 k).toNat f = 0) ↔ ¬ ctr h (Z 14 k).toNat (Z 15 k).toNat (bitI F) = 0 := by
    rw [bt_n0]
    constructor
    · rintro ⟨f, hf, e⟩
      exact ⟨f, by omega, (q1 f (by omega)).mpr ⟨by omega, e⟩⟩
    · rintro ⟨f, hf, w⟩
      obtain ⟨h48, w3⟩ := (q1 f hf).mp w
      have := sup f h48 w3
      exact ⟨f, by omega, w3⟩
  rw [e1]
  refine and_congr Iff.rfl ?_
  exact ⟨fun z => Classical.byContradiction (fun y => absurd z (e2.mpr y)), fun z => Classical.byContradiction (fun y => absurd z (e2.mp y))⟩
set_option maxHeartbeats 1000000 in
/-- a field taken -/
theorem X_tak {n F w : Int} {L4 : Int64} (S : SIMq A 9 h Z c) (hk : (k : Int) < Z 13 0) (eF : zinF Z (k : Int) n = F) (hF : 0 ≤ F ∧ F < Z 2 (Z 14 k).toNat) (ha : Z 16 k = 0) (hw : (w = 1 ∧ L4 = hL h (8, k, 0) 4 ||| bitI F) ∨ (w = 0 ∧ L4 = hL h (8, k, 0) 4 &&& (bitI F ^^^ (-1)))) :
    (SIMq A 9 (sL (sL h (8, k, 0) 3 (hL h (8, k, 0) 3 ||| bitI F)) (8, k, 0) 4 L4) (zTak Z k n w) c ∧ Fr nMo h (sL (sL h (8, k, 0) 3 (hL h (8, k, 0) 3 ||| bitI F)) (8, k, 0) 4 L4)) ∧ bcv (hL h (8, k, 0) 3 ||| bitI F) = zheA (zTak Z k n w) (k : Int) 48 := by
  have z13 := S.c13
  obtain ⟨FW, F2, ⟨F3, F4⟩, F5, F6, F7⟩ := S.2.2.2.1 k hk
  obtain ⟨S1, K, SQ1⟩ := S.sc (s := (Z 14 k).toNat) (by omega)
  have b2 := K.b2
  have Yo : ∀ j, ¬ j = 17 → ¬ j = 18 → ¬ j = 48 → zTak Z k n w j = Z j := fun j h17 h18 h48 => by unfold zTak; rw [zs_oj (beq_ne h18), zs_oj (beq_ne h17), zs_oj (beq_ne h48)]
  have Y17 : ∀ k' f : Nat, f < 48 → zTak Z k n w 17 (48 * k' + f) = if k' = k ∧ (f : Int) = F then 1 else Z 17 (48 * k' + f) := fun k' f hf => by
    unfold zTak
    rw [eF]
    refine zs_ne rfl ?_
    rw [zs_if]
    by_cases z : k' = k ∧ (f : Int) = F
    · rw [if_pos z, if_pos (by omega)]
    · rw [if_neg z, if_neg (by omega)]; exact zs_ne rfl rfl
  have Y18 : ∀ k' f : Nat, f < 48 → zTak Z k n w 18 (48 * k' + f) = if k' = k ∧ (f : Int) = F then w else Z 18 (48 * k' + f) := fun k' f hf => by
    unfold zTak
    rw [eF, zs_if]
    by_cases z : k' = k ∧ (f : Int) = F
    · rw [if_pos z, if_pos (by omega)]
    · rw [if_neg z, if_neg (by omega)]; exact zs_ne rfl (zs_ne rfl rfl)
  have c3 : hL (sL (sL h (8, k, 0) 3 (hL h (8, k, 0) 3 ||| bitI F)) (8, k, 0) 4 L4) (8, k, 0) 3 = hL h (8, k, 0) 3 ||| bitI F := by rw [hL_m (by decide) (hL_e rfl rfl)]
  have c4 : hL (sL (sL h (8, k, 0) 3 (hL h (8, k, 0) 3 ||| bitI F)) (8, k, 0) 4 L4) (8, k, 0) 4 = L4 := by rw [hL_e rfl rfl]
  have b3 : ∀ f : Nat, f < 64 → (bt (hL h (8, k, 0) 3 ||| bitI F) f ↔ f < 48 ∧ ¬ zTak Z k n w 17 (48 * k + f) = 0) := fun f hf => by
    rw [bt_set (by omega) hf, (F5 f hf).1]
    by_cases y : f < 48
    · rw [Y17 k f y]
      by_cases z : (f : Int) = F
      · rw [if_pos ⟨rfl, z⟩]; exact ⟨fun _ => ⟨y, by decide⟩, fun _ => Or.inr z⟩
      · rw [if_neg (fun t => z t.2)]; exact ⟨fun t => t.resolve_right z, fun t => Or.inl t⟩
    · exact ⟨fun t => t.elim (fun t => absurd t.1 y) (fun t => by omega), fun t => absurd t.1 y⟩
  have hS1 : SIMq A 9 (sL (sL h (8, k, 0) 3 (hL h (8, k, 0) 3 ||| bitI F)) (8, k, 0) 4 L4) (zTak Z k n w) c := by
    refine S.fo hk ((Fr.rf.wL (fun z => z rfl)).wL (fun z => z rfl)) rfl (foO (j := 0) (fun j h14 h15 h16 h17 h18 h48 => Yo j h17 h18 h48)) (fun k' h8 hne => ⟨by rw [Yo 14 (by decide) (by decide) (by decide)], by rw [Yo 15 (by decide) (by decide) (by decide)], by rw [Yo 16 (by decide) (by decide) (by decide)], fun f hf => ⟨by rw [Y17 k' f hf, if_neg (fun z => hne z.1)], by rw [Y18 k' f hf, if_neg (fun z => hne z.1)]⟩⟩) ?_
    unfold FF
    rw [Yo 14 (by decide) (by decide) (by decide), Yo 15 (by decide) (by decide) (by decide), Yo 16 (by decide) (by decide) (by decide), Yo 0 (by decide) (by decide) (by decide), Yo 2 (by decide) (by decide) (by decide), c3, c4]
    refine ⟨FW, F2, ⟨F3, F4⟩, fun f hf => ⟨b3 f hf, ?_⟩, fun f hf => ?_, fun z => absurd ha z⟩
    · have x4 := (F5 f hf).2
      by_cases y : f < 48
      · rw [Y17 k f y, Y18 k f y]
        rcases hw with ⟨w1, e⟩ | ⟨w1, e⟩ <;> subst e <;> subst w1
        · rw [bt_set (by omega) hf, x4]
          by_cases z : (f : Int) = F
          · rw [if_pos ⟨rfl, z⟩, if_pos ⟨rfl, z⟩]; exact ⟨fun _ => ⟨y, by decide, by decide⟩, fun _ => Or.inr z⟩
          · rw [if_neg (fun t => z t.2), if_neg (fun t => z t.2)]; exact ⟨fun t => t.resolve_right z, fun t => Or.inl t⟩
        · rw [bt_clr (by omega) hf, x4]
          by_cases z : (f : Int) = F
          · rw [if_pos ⟨rfl, z⟩, if_pos ⟨rfl, z⟩]; exact ⟨fun t => absurd z t.2, fun t => absurd rfl t.2.2⟩
          · rw [if_neg (fun t => z t.2), if_neg (fun t => z t.2)]; exact ⟨fun t => t.1, fun t => ⟨t, z⟩⟩
      · rcases hw with ⟨w1, e⟩ | ⟨w1, e⟩ <;> subst e
        · rw [bt_set (by omega) hf, x4]; exact ⟨fun t => t.elim (fun t => absurd t.1 y) (fun t => by omega), fun t => absurd t.1 y⟩
        · rw [bt_clr (by omega) hf, x4]; exact ⟨fun t => absurd t.1.1 y, fun t => absurd t.1 y⟩
    · rw [Y17 k f hf]
      split
      · next z => intro _; omega
      · exact F6 f hf
  refine ⟨⟨hS1, (Fr.rf.wL (fun z => by rcases z with z | z <;> simp at z)).wL (fun z => by rcases z with z | z <;> simp at z)⟩, cb_heA b3⟩
end N0
