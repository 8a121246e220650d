/-! ===== the model: a row is seen in a version ===== -/
section M15
variable {Q : AH → AO → Prop} {h : AH} {Z : ZT}
theorem zs_oj {j i j' : Nat} {v : Int} (hj : Nat.beq j' j = false) : zs Z j i v j' = Z j' := by
  funext q; exact zs_ne hj rfl
theorem zv_o {r f x : Int} {j : Nat} (hj : Nat.beq j 22 = false) : zv Z r f x j = Z j := by
  unfold zv; split
  · rfl
  · exact zs_oj hj
theorem zmvE_o {r a u s r0 r1 : Int} {j : Nat} (hj : Nat.beq j 21 = false) (hj2 : Nat.beq j 22 = false) : zmvE Z r a u s r0 r1 j = Z j := by
  unfold zmvE; rw [zs_oj hj, zv_o hj2, zv_o hj2, zv_o hj2, zv_o hj2]
theorem zmvD_o {s a q u l0 l1 r0 r1 : Int} {j : Nat} (hj : Nat.beq j 24 = false) (hj2 : Nat.beq j 25 = false) : zmvD Z s a q u l0 l1 r0 r1 j = Z j := by
  unfold zmvD; split
  · rfl
  · rw [zs_oj hj2, zs_oj hj2, zs_oj hj]
theorem zmvC_o {r s a q u l0 l1 g0 g1 : Int} {j : Nat} (hj : Nat.beq j 24 = false) (hj2 : Nat.beq j 23 = false) : (zmvC Z r s a q u l0 l1 g0 g1).1 j = Z j := by
  unfold zmvC
  generalize (if u = 0 then (1 : Int) else 2) = sd
  split
  · split
    · exact zs_oj hj
    · show zs (zs Z 24 q.toNat 0) 23 r.toNat _ j = Z j
      rw [zs_oj hj2, zs_oj hj]
  · rfl
/-- rows of numbers that no move of a row changes -/
def offR (j : Nat) : Bool := j != 21 && j != 22 && j != 23 && j != 24 && j != 25
theorem zmv_o {r s a u : Int} {j : Nat} (hj : offR j = true) : zmv Z r s a u j = Z j := by
  unfold offR at hj
  simp only [Bool.and_eq_true, bne_iff_ne, ne_eq] at hj
  have e : ∀ k, ¬ j = k → Nat.beq j k = false := fun k e => by
    cases q : Nat.beq j k
    · rfl
    · exact absurd (Nat.eq_of_beq_eq_true q) e
  unfold zmv
  rw [zmvE_o (e 21 hj.1.1.1.1) (e 22 hj.1.1.1.2), zmvD_o (e 24 hj.1.2) (e 25 hj.2), zmvC_o (e 24 hj.1.2) (e 23 hj.1.1.2)]
theorem zmv_21 {r s a u : Int} : zmv Z r s a u 21 r.toNat = if u = 0 then a - 1 else a := by
  unfold zmv zmvE
  exact zs_eq rfl rfl
def zmtU (Z : ZT) (r s : Int) : Nat → ZT
  | 0 => Z
  | n + 1 => zmv (zmtU Z r s n) r s (Z 21 r.toNat + (n : Int) + 1) 1
def zmtD (Z : ZT) (r s : Int) : Nat → ZT
  | 0 => Z
  | n + 1 => zmv (zmtD Z r s n) r s (Z 21 r.toNat - (n : Int)) 0
def zmt (Z : ZT) (r s v : Int) : ZT := zmtD (zmtU Z r s (v - Z 21 r.toNat).toNat) r s (Z 21 r.toNat - v).toNat
theorem zmtD_s {r s : Int} {n : Nat} : zmtD Z r s (n + 1) = zmv (zmtD Z r s n) r s (Z 21 r.toNat - (n : Int)) 0 := rfl
theorem zmtU_21 {r s : Int} : ∀ n : Nat, zmtU Z r s n 21 r.toNat = Z 21 r.toNat + (n : Int)
  | 0 => by show Z 21 r.toNat = Z 21 r.toNat + 0; omega
  | n + 1 => by unfold zmtU; rw [zmv_21, if_neg (by omega)]; omega
theorem zmtD_21 {r s : Int} : ∀ n : Nat, zmtD Z r s n 21 r.toNat = Z 21 r.toNat - (n : Int)
  | 0 => by show Z 21 r.toNat = Z 21 r.toNat - 0; omega
  | n + 1 => by unfold zmtD; rw [zmv_21, if_pos rfl]; omega
theorem zmtU_o {r s : Int} {j : Nat} (hj : offR j = true) : ∀ n : Nat, zmtU Z r s n j = Z j
  | 0 => rfl
  | n + 1 => by unfold zmtU; rw [zmv_o hj, zmtU_o hj n]
theorem zmtD_o {r s : Int} {j : Nat} (hj : offR j = true) : ∀ n : Nat, zmtD Z r s n j = Z j
  | 0 => rfl
  | n + 1 => by unfold zmtD; rw [zmv_o hj, zmtD_o hj n]
theorem zmt_o {r s v : Int} {j : Nat} (hj : offR j = true) : zmt Z r s v j = Z j := by
  unfold zmt; rw [zmtD_o hj, zmtU_o hj]
theorem BB_c {Z' : ZT} (e8 : Z' 8 = Z 8) (e9 : Z' 9 = Z 9) (B : BB Z) : BB Z' := by unfold BB; rw [e8, e9]; exact B
theorem stp_c {Z' : ZT} {p : Int} (e7 : Z' 7 = Z 7) (e9 : Z' 9 = Z 9) (e10 : Z' 10 = Z 10) (B : stp Z p) : stp Z' p := by unfold stp; rw [e7, e9, e10]; exact B
/-- the steps of a schema can be gone -/
def stS (Z : ZT) (s : Int) : Prop := ∀ a : Int, 1 ≤ a → a ≤ Z 1 s.toNat → stp Z (24 * s + a)
theorem kX8_movesTo {r s v : Int} {t l w : Nat → Int} (W : WfM h) (B : BB Z) (es : Z 20 r.toNat = s) (st : stS Z s) (hr : 0 ≤ r ∧ r < 22) (hs : 0 ≤ s ∧ s < 4) (hv : 0 ≤ v ∧ v ≤ Z 1 s.toNat) (h1 : Z 1 s.toNat ≤ 23) (hv2 : 0 ≤ Z 21 r.toNat ∧ Z 21 r.toNat ≤ Z 1 s.toNat) (k : ∀ t l w, Q (mput h (z3 (zmt Z r s v) t l w)) (.inl none)) :
    AC mX8_movesTo fX8_movesTo loX8_movesTo 0 0 (mput h (z3 Z t l w)) [vr mO, vi r, vi v] Q := by
  refine AC.mk (by decide) (Nat.le_of_ble_eq_true rfl) ?_
  have dn : ∀ (m i : Nat) t l w, (i : Int) ≤ Z 21 r.toNat - v ∨ i = 0 → Z 21 r.toNat - v ≤ i + m → AW mX8_movesTo fX8_movesTo loX8_movesTo 0 0 Q 0 0 27 (mput h (z3 (zmtD (zmtU Z r s (v - Z 21 r.toNat).toNat) r s i) t l w)) [(0, vr mO), (1, vi r), (2, vi v)] [] := by
    intro m
    induction m with
    | zero =>
      intro i t l w h2 h3
      have e21 := zmtD_21 (Z := zmtU Z r s (v - Z 21 r.toNat).toNat) (r := r) (s := s) i
      rw [zmtU_21] at e21
      refine AW.aload_n dX8_movesTo_27 rfl ?_
      refine AW.mA 21 W dX8_movesTo_28 lkX8_65 rfl rfl ?_
      refine AW.iload_n dX8_movesTo_31 rfl ?_
      refine AW.mldE (j := 21) W dX8_movesTo_32 rfl rfl (by simp only [mlen]; omega) (by apply zrow_ne rfl; apply zrow_ne rfl; apply zrow_ne rfl; exact e21) ?_
      refine AW.iload_n dX8_movesTo_33 rfl ?_
      refine AW.icmp_le (tgt := 52) dX8_movesTo_34 rfl (fun c_34 => ?_) (fun c_34 => ?_)
      · refine AW.vret dX8_movesTo_52 rfl ?_
        have k := k t l w
        unfold zmt at k
        rw [show (Z 21 r.toNat - v).toNat = i by omega] at k
        exact k
      · exact absurd c_34 (by omega)
    | succ m ih =>
      intro i t l w h2 h3
      have e21 := zmtD_21 (Z := zmtU Z r s (v - Z 21 r.toNat).toNat) (r := r) (s := s) i
      rw [zmtU_21] at e21
      have o : ∀ j, offR j = true → zmtD (zmtU Z r s (v - Z 21 r.toNat).toNat) r s i j = Z j := fun j hj => by rw [zmtD_o hj, zmtU_o hj]
      refine AW.aload_n dX8_movesTo_27 rfl ?_
      refine AW.mA 21 W dX8_movesTo_28 lkX8_65 rfl rfl ?_
      refine AW.iload_n dX8_movesTo_31 rfl ?_
      refine AW.mldE (j := 21) W dX8_movesTo_32 rfl rfl (by simp only [mlen]; omega) (by apply zrow_ne rfl; apply zrow_ne rfl; apply zrow_ne rfl; exact e21) ?_
      refine AW.iload_n dX8_movesTo_33 rfl ?_
      refine AW.icmp_le (tgt := 52) dX8_movesTo_34 rfl (fun c_34 => ?_) (fun c_34 => ?_)
      · refine AW.vret dX8_movesTo_52 rfl ?_
        have k := k t l w
        unfold zmt at k
        rw [show (Z 21 r.toNat - v).toNat = i by omega] at k
        exact k
      · refine AW.aload_n dX8_movesTo_37 rfl ?_
        refine AW.iload_n dX8_movesTo_38 rfl ?_
        refine AW.aload_n dX8_movesTo_39 rfl ?_
        refine AW.mA 21 W dX8_movesTo_40 lkX8_65 rfl rfl ?_
        refine AW.iload_n dX8_movesTo_43 rfl ?_
        refine AW.mldE (j := 21) W dX8_movesTo_44 rfl rfl (by simp only [mlen]; omega) (by apply zrow_ne rfl; apply zrow_ne rfl; apply zrow_ne rfl; exact e21) ?_
        refine AW.iconst dX8_movesTo_45 (by decide) ?_
        refine AW.callV (as := [vi _, vi _, vi _]) dX8_movesTo_46 rfl rfl rfl okX8_moves lkX8_280 W.1 rfl rfl rfl rfl rfl rfl rfl (kX8_moves W (BB_c (o 8 rfl) (o 9 rfl) B) (by rw [o 20 rfl]; exact es) (stp_c (o 7 rfl) (o 9 rfl) (o 10 rfl) (st (Z 21 r.toNat + ((v - Z 21 r.toNat).toNat : Int) - (i : Int)) (by omega) (by omega))) hr hs (by omega) (fun t l w => (AW.k0 ?_)))
        refine AW.goto (tgt := 27) dX8_movesTo_49 rfl ?_
        refine AW.mZ ?_ (ih (i + 1) t l w (by omega) (by omega))
        rw [zmtD_s, zmtU_21]
  have up : ∀ (m i : Nat) t l w, (i : Int) ≤ v - Z 21 r.toNat ∨ i = 0 → v - Z 21 r.toNat ≤ i + m → AW mX8_movesTo fX8_movesTo loX8_movesTo 0 0 Q 0 0 0 (mput h (z3 (zmtU Z r s i) t l w)) [(0, vr mO), (1, vi r), (2, vi v)] [] := by
    intro m
    induction m with
    | zero =>
      intro i t l w h2 h3
      have e21 := zmtU_21 (Z := Z) (r := r) (s := s) i
      refine AW.aload_n dX8_movesTo_0 rfl ?_
      refine AW.mA 21 W dX8_movesTo_1 lkX8_65 rfl rfl ?_
      refine AW.iload_n dX8_movesTo_4 rfl ?_
      refine AW.mldE (j := 21) W dX8_movesTo_5 rfl rfl (by simp only [mlen]; omega) (by apply zrow_ne rfl; apply zrow_ne rfl; apply zrow_ne rfl; exact e21) ?_
      refine AW.iload_n dX8_movesTo_6 rfl ?_
      refine AW.icmp_ge (tgt := 27) dX8_movesTo_7 rfl (fun c_7 => ?_) (fun c_7 => ?_)
      · refine AW.mZ ?_ (dn (Z 21 r.toNat - v).toNat 0 t l w (by omega) (by omega))
        rw [show (v - Z 21 r.toNat).toNat = i by omega]
        rfl
      · exact absurd c_7 (by omega)
    | succ m ih =>
      intro i t l w h2 h3
      have e21 := zmtU_21 (Z := Z) (r := r) (s := s) i
      have o : ∀ j, offR j = true → zmtU Z r s i j = Z j := fun j hj => zmtU_o hj i
      refine AW.aload_n dX8_movesTo_0 rfl ?_
      refine AW.mA 21 W dX8_movesTo_1 lkX8_65 rfl rfl ?_
      refine AW.iload_n dX8_movesTo_4 rfl ?_
      refine AW.mldE (j := 21) W dX8_movesTo_5 rfl rfl (by simp only [mlen]; omega) (by apply zrow_ne rfl; apply zrow_ne rfl; apply zrow_ne rfl; exact e21) ?_
      refine AW.iload_n dX8_movesTo_6 rfl ?_
      refine AW.icmp_ge (tgt := 27) dX8_movesTo_7 rfl (fun c_7 => ?_) (fun c_7 => ?_)
      · refine AW.mZ ?_ (dn (Z 21 r.toNat - v).toNat 0 t l w (by omega) (by omega))
        rw [show (v - Z 21 r.toNat).toNat = i by omega]
        rfl
      · refine AW.aload_n dX8_movesTo_10 rfl ?_
        refine AW.iload_n dX8_movesTo_11 rfl ?_
        refine AW.aload_n dX8_movesTo_12 rfl ?_
        refine AW.mA 21 W dX8_movesTo_13 lkX8_65 rfl rfl ?_
        refine AW.iload_n dX8_movesTo_16 rfl ?_
        refine AW.mldE (j := 21) W dX8_movesTo_17 rfl rfl (by simp only [mlen]; omega) (by apply zrow_ne rfl; apply zrow_ne rfl; apply zrow_ne rfl; exact e21) ?_
        refine AW.iconst dX8_movesTo_18 (by decide) ?_
        refine AW.iaddB dX8_movesTo_19 (by omega) ?_
        refine AW.iconst dX8_movesTo_20 (by decide) ?_
        refine AW.callV (as := [vi _, vi _, vi _]) dX8_movesTo_21 rfl rfl rfl okX8_moves lkX8_280 W.1 rfl rfl rfl rfl rfl rfl rfl (kX8_moves W (BB_c (o 8 rfl) (o 9 rfl) B) (by rw [o 20 rfl]; exact es) (stp_c (o 7 rfl) (o 9 rfl) (o 10 rfl) (st (Z 21 r.toNat + (i : Int) + 1) (by omega) (by omega))) hr hs (by omega) (fun t l w => (AW.k0 ?_)))
        refine AW.goto (tgt := 0) dX8_movesTo_24 rfl ?_
        exact ih (i + 1) t l w (by omega) (by omega)
  refine AW.locs [(0, vr mO), (1, vi r), (2, vi v)] ⟨rfl, rfl, rfl, trivial⟩ (up (v - Z 21 r.toNat).toNat 0 t l w (by omega) (by omega))
end M15
