/-! ===== the model: take, letGo, retire, renew ===== -/
section M11
variable {Q : AH → AO → Prop} {h : AH} {Z : ZT}
def zcTak (Z : ZT) (g n : Int) : Int := cd2 (zinF Z g n = -1) (¬ Z 16 g.toNat = 0 ∨ zct Z g (zinF Z g n) = 0)
def zTak (Z : ZT) (g n w : Int) : ZT := zs (zs (zs Z 48 0 0) 17 (48 * g + zinF Z g n).toNat 1) 18 (48 * g + zinF Z g n).toNat w
theorem zheA_c {Z' : ZT} {g : Int} (e : Z' 17 = Z 17) : ∀ k, zheA Z' g k = zheA Z g k
  | 0 => rfl
  | k + 1 => by unfold zheA; rw [e, zheA_c e k]
theorem zinF_c {Z' : ZT} {g n : Int} (e : Z' 5 = Z 5) (e2 : Z' 2 = Z 2) (e3 : Z' 13 = Z 13) (e4 : Z' 14 = Z 14) (e5 : Z' 15 = Z 15) : zinF Z' g n = zinF Z g n := by
  unfold zinF; rw [e3, e4, e5, zfind_c e e2]
theorem BI_zrow' {Z' : ZT} {t : Nat → Int} (e : Z' = zrow Z 46 t) (B : BI Z) (F : flg t) : BI Z' := e ▸ BI_zrow B F
def zcLet (Z : ZT) (g n : Int) : Int := bz (¬ (¬ zinF Z g n = -1 ∧ ¬ Z 17 (48 * g + zinF Z g n).toNat = 0))
def zLet0 (Z : ZT) (g n : Int) : ZT := zs (zs Z 48 0 0) 17 (48 * g + zinF Z g n).toNat 0
/-- the fields of a form cleared -/
def zclr (Z : ZT) (g : Int) (i : Nat) : ZT := fun j q => if j = 17 ∧ 48 * g ≤ (q : Int) ∧ (q : Int) < 48 * g + i then 0 else Z j q
theorem zclr_0 {g : Int} : zclr Z g 0 = Z := by
  funext j q; unfold zclr; rw [if_neg]; rintro ⟨-, e1, e2⟩; omega
theorem zclr_step {g : Int} (hg : 0 ≤ g) {i q : Nat} (hq : q = (48 * g + (i : Int)).toNat) : zs (zclr Z g i) 17 q 0 = zclr Z g (i + 1) := by
  subst hq
  funext a b
  unfold zs zclr
  by_cases e : a = 17 ∧ b = (48 * g + (i : Int)).toNat
  · rw [if_pos e, if_pos ⟨e.1, by omega, by omega⟩]
  · rw [if_neg e]
    by_cases e2 : a = 17 ∧ 48 * g ≤ (b : Int) ∧ (b : Int) < 48 * g + (i : Nat)
    · rw [if_pos e2, if_pos ⟨e2.1, by omega, by omega⟩]
    · rw [if_neg e2, if_neg]
      rintro ⟨z1, z2, z3⟩
      refine e2 ⟨z1, z2, ?_⟩
      have := fun z => e ⟨z1, z⟩
      omega
theorem BI_zclr {g : Int} {i : Nat} (B : BI Z) : BI (zclr Z g i) := by
  have e : ∀ j', (j' != 17) = true → zclr Z g i j' = Z j' := by
    intro j' hj'
    funext q
    unfold zclr
    rw [if_neg]
    rintro ⟨rfl, -⟩
    simp at hj'
  obtain ⟨b1, b2, b3, b4, b5, b6⟩ := B
  refine ⟨?_, ?_, ?_, ?_, ?_, ?_⟩
  · unfold BS; rw [e 0 rfl, e 1 rfl, e 2 rfl, e 11 rfl]; exact b1
  · intro j' hm q
    unfold zclr; split
    · exact Or.inl rfl
    · exact b2 j' hm q
  · unfold BB; rw [e 8 rfl, e 9 rfl]; exact b3
  · unfold BG; rw [e 13 rfl, e 14 rfl, e 15 rfl, e 1 rfl]; exact b4
  · unfold BW; rw [e 12 rfl]; exact b5
  · rw [e 1 rfl, e 2 rfl]; exact b6
def zcRet (Z : ZT) (g : Int) : Int := cd2 (¬ (0 ≤ g ∧ g ≤ Z 13 0 - 1)) (¬ Z 16 g.toNat = 0)
def zRet0 (Z : ZT) (g : Int) : ZT := zclr (zs (zs Z 48 0 0) 16 g.toNat 1) g 48
end M11
