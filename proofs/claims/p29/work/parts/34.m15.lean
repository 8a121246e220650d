/-! ===== the model: a row is seen in a version ===== -/
section M15
variable {Q : AH → AO → Prop} {h : AH} {Z : ZT}
theorem zs_oj {j i j' : Nat} {v : Int} (hj : Nat.beq j' j = false) : zs Z j i v j' = Z j' := by
  funext q; exact zs_ne hj rfl
theorem zv_o {r f x : Int} {j : Nat} (hj : Nat.beq j 22 = false) : zv Z r f x j = Z j := by
  unfold zv; split
  · rfl
  · exact zs_oj hj
theorem zmvE_o {r a u s r0 r1 : Int} {j : Nat} (hj : Nat.beq j 21 = false) (hj2 : Nat.beq j 22 = false) : zmvE Z r a u s r0 r1 j = Z j := by
  unfold zmvE; rw [zs_oj hj, zv_o hj2, zv_o hj2, zv_o hj2, zv_o hj2]
theorem zmvD_o {s a q u l0 l1 r0 r1 : Int} {j : Nat} (hj : Nat.beq j 24 = false) (hj2 : Nat.beq j 25 = false) : zmvD Z s a q u l0 l1 r0 r1 j = Z j := by
  unfold zmvD; split
  · rfl
  · rw [zs_oj hj2, zs_oj hj2, zs_oj hj]
theorem zmvC_o {r s a q u l0 l1 g0 g1 : Int} {j : Nat} (hj : Nat.beq j 24 = false) (hj2 : Nat.beq j 23 = false) : (zmvC Z r s a q u l0 l1 g0 g1).1 j = Z j := by
  unfold zmvC
  generalize (if u = 0 then (1 : Int) else 2) = sd
  split
  · split
    · exact zs_oj hj
    · show zs (zs Z 24 q.toNat 0) 23 r.toNat _ j = Z j
      rw [zs_oj hj2, zs_oj hj]
  · rfl
/-- rows of numbers that no move of a row changes -/
def offR (j : Nat) : Bool := j != 21 && j != 22 && j != 23 && j != 24 && j != 25
theorem zmv_o {r s a u : Int} {j : Nat} (hj : offR j = true) : zmv Z r s a u j = Z j := by
  unfold offR at hj
  simp only [Bool.and_eq_true, bne_iff_ne, ne_eq] at hj
  have e : ∀ k, ¬ j = k → Nat.beq j k = false := fun k e => by
    cases q : Nat.beq j k
    · rfl
    · exact absurd (Nat.eq_of_beq_eq_true q) e
  unfold zmv
  rw [zmvE_o (e 21 hj.1.1.1.1) (e 22 hj.1.1.1.2), zmvD_o (e 24 hj.1.2) (e 25 hj.2), zmvC_o (e 24 hj.1.2) (e 23 hj.1.1.2)]
theorem zmv_21 {r s a u : Int} : zmv Z r s a u 21 r.toNat = if u = 0 then a - 1 else a := by
  unfold zmv zmvE
  exact zs_eq rfl rfl
def zmtU (Z : ZT) (r s : Int) : Nat → ZT
  | 0 => Z
  | n + 1 => zmv (zmtU Z r s n) r s (Z 21 r.toNat + (n : Int) + 1) 1
def zmtD (Z : ZT) (r s : Int) : Nat → ZT
  | 0 => Z
  | n + 1 => zmv (zmtD Z r s n) r s (Z 21 r.toNat - (n : Int)) 0
def zmt (Z : ZT) (r s v : Int) : ZT := zmtD (zmtU Z r s (v - Z 21 r.toNat).toNat) r s (Z 21 r.toNat - v).toNat
theorem zmtD_s {r s : Int} {n : Nat} : zmtD Z r s (n + 1) = zmv (zmtD Z r s n) r s (Z 21 r.toNat - (n : Int)) 0 := rfl
theorem zmtU_21 {r s : Int} : ∀ n : Nat, zmtU Z r s n 21 r.toNat = Z 21 r.toNat + (n : Int)
  | 0 => by show Z 21 r.toNat = Z 21 r.toNat + 0; omega
  | n + 1 => by unfold zmtU; rw [zmv_21, if_neg (by omega)]; omega
theorem zmtD_21 {r s : Int} : ∀ n : Nat, zmtD Z r s n 21 r.toNat = Z 21 r.toNat - (n : Int)
  | 0 => by show Z 21 r.toNat = Z 21 r.toNat - 0; omega
  | n + 1 => by unfold zmtD; rw [zmv_21, if_pos rfl]; omega
theorem zmtU_o {r s : Int} {j : Nat} (hj : offR j = true) : ∀ n : Nat, zmtU Z r s n j = Z j
  | 0 => rfl
  | n + 1 => by unfold zmtU; rw [zmv_o hj, zmtU_o hj n]
theorem zmtD_o {r s : Int} {j : Nat} (hj : offR j = true) : ∀ n : Nat, zmtD Z r s n j = Z j
  | 0 => rfl
  | n + 1 => by unfold zmtD; rw [zmv_o hj, zmtD_o hj n]
theorem zmt_o {r s v : Int} {j : Nat} (hj : offR j = true) : zmt Z r s v j = Z j := by
  unfold zmt; rw [zmtD_o hj, zmtU_o hj]
theorem BB_c {Z' : ZT} (e8 : Z' 8 = Z 8) (e9 : Z' 9 = Z 9) (B : BB Z) : BB Z' := by unfold BB; rw [e8, e9]; exact B
theorem stp_c {Z' : ZT} {p : Int} (e7 : Z' 7 = Z 7) (e9 : Z' 9 = Z 9) (e10 : Z' 10 = Z 10) (B : stp Z p) : stp Z' p := by unfold stp; rw [e7, e9, e10]; exact B
/-- the steps of a schema can be gone -/
def stS (Z : ZT) (s : Int) : Prop := ∀ a : Int, 1 ≤ a → a ≤ Z 1 s.toNat → stp Z (24 * s + a)
end M15
