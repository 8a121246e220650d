/-! ===== the model's state: rows of numbers by the number of the field ===== -/
abbrev ZT : Type := Nat → Nat → Int
def zs (Z : ZT) (j i : Nat) (v : Int) : ZT := fun j' i' => if j' = j ∧ i' = i then v else Z j' i'
def isSc (j : Nat) : Bool := j == 0 || j == 13 || j == 19 || j == 27 || j == 28 || j == 32 || j == 48
abbrev mO : Nm := (1, 0, 0)
def mput (h : AH) (Z : ZT) : AH := (h.1, (fun n i => if n = (1, 0, 0) ∧ isSc i = true then Z i 0 else if n.1 = 2 ∧ n.2.2 = 0 ∧ isSc n.2.1 = false then Z n.2.1 i else h.2.1 n i), h.2.2.1, h.2.2.2)
def mget (h : AH) : ZT := fun j i => if isSc j = true ∧ i = 0 then hI h (1, 0, 0) j else hI h (2, j, 0) i
def mkd (j : Nat) : Nat := match j with
  | 6 => 21
  | 16 => 21
  | 17 => 21
  | 18 => 21
  | 46 => 21
  | 47 => 21
  | _ => 20
def mlen (j : Nat) : Nat := match j with
  | 1 => 4
  | 2 => 4
  | 3 => 192
  | 4 => 192
  | 5 => 4608
  | 6 => 4608
  | 7 => 96
  | 8 => 192
  | 9 => 192
  | 10 => 96
  | 11 => 4
  | 12 => 192
  | 14 => 8
  | 15 => 8
  | 16 => 8
  | 17 => 384
  | 18 => 384
  | 20 => 22
  | 21 => 22
  | 22 => 1056
  | 23 => 22
  | 24 => 528
  | 25 => 1056
  | 26 => 22
  | 29 => 8
  | 30 => 8
  | 31 => 8
  | 33 => 4096
  | 34 => 4096
  | 35 => 4096
  | 36 => 4096
  | 37 => 4096
  | 38 => 4096
  | 39 => 4096
  | 40 => 8192
  | 41 => 8192
  | 42 => 8192
  | 43 => 2
  | 44 => 2
  | 45 => 2
  | 46 => 48
  | 47 => 48
  | _ => 0
/-- the model's cells stand -/
def WfM (h : AH) : Prop := hT h (1, 0, 0) = some (9, 0) ∧ ∀ j, j < 49 → isSc j = false → hR h (1, 0, 0) j = some (2, j, 0) ∧ hT h (2, j, 0) = some (mkd j, mlen j)
theorem hT_mput (h : AH) (Z : ZT) : hT (mput h Z) = hT h := rfl
theorem hL_mput (h : AH) (Z : ZT) : hL (mput h Z) = hL h := rfl
theorem hR_mput (h : AH) (Z : ZT) : hR (mput h Z) = hR h := rfl
theorem hI_mput (h : AH) (Z : ZT) (n : Nm) (i : Nat) : hI (mput h Z) n i = if n = (1, 0, 0) ∧ isSc i = true then Z i 0 else if n.1 = 2 ∧ n.2.2 = 0 ∧ isSc n.2.1 = false then Z n.2.1 i else hI h n i := rfl
theorem hI_mA (h : AH) (Z : ZT) {j : Nat} (i : Nat) (hj : isSc j = false) : hI (mput h Z) (2, j, 0) i = Z j i := by
  rw [hI_mput, if_neg (fun z => by simp at z), if_pos ⟨rfl, rfl, hj⟩]
theorem hI_mS (h : AH) (Z : ZT) {j : Nat} (hj : isSc j = true) : hI (mput h Z) (1, 0, 0) j = Z j 0 := by
  rw [hI_mput, if_pos ⟨rfl, hj⟩]
theorem sI_mA (h : AH) (Z : ZT) (j i : Nat) (v : Int) (hj : isSc j = false) : sI (mput h Z) (2, j, 0) i v = mput h (zs Z j i v) := by
  unfold sI mput zs
  refine Prod.ext rfl (Prod.ext (funext fun n => funext fun k => ?_) rfl)
  dsimp only
  by_cases e1 : n = (2, j, 0)
  · subst e1
    by_cases e2 : k = i
    · subst e2; simp [hj]
    · simp [e2]
  · rw [if_neg (fun z => e1 z.1)]
    by_cases e3 : n = (1, 0, 0) ∧ isSc k = true
    · rw [if_pos e3, if_pos e3, if_neg]
      rintro ⟨z, -⟩
      rw [z, hj] at e3
      exact absurd e3.2 (by decide)
    · rw [if_neg e3, if_neg e3]
      by_cases e4 : n.1 = 2 ∧ n.2.2 = 0 ∧ isSc n.2.1 = false
      · rw [if_pos e4, if_pos e4, if_neg]
        rintro ⟨z, -⟩
        exact e1 (Prod.ext e4.1 (Prod.ext z e4.2.1))
      · rw [if_neg e4, if_neg e4]
theorem sI_mS (h : AH) (Z : ZT) (j : Nat) (v : Int) (hj : isSc j = true) : sI (mput h Z) (1, 0, 0) j v = mput h (zs Z j 0 v) := by
  unfold sI mput zs
  refine Prod.ext rfl (Prod.ext (funext fun n => funext fun k => ?_) rfl)
  dsimp only
  by_cases e1 : n = (1, 0, 0)
  · subst e1
    by_cases e2 : k = j
    · subst e2; simp [hj]
    · by_cases e5 : isSc k = true
      · simp [e2, e5]
      · simp [e2, e5]
  · rw [if_neg (fun z : n = (1, 0, 0) ∧ k = j => e1 z.1), if_neg (fun z : n = (1, 0, 0) ∧ isSc k = true => e1 z.1), if_neg (fun z : n = (1, 0, 0) ∧ isSc k = true => e1 z.1)]
    by_cases e4 : n.1 = 2 ∧ n.2.2 = 0 ∧ isSc n.2.1 = false
    · rw [if_pos e4, if_pos e4, if_neg]
      rintro ⟨z, -⟩
      rw [z, hj] at e4
      exact absurd e4.2.2 (by decide)
    · rw [if_neg e4, if_neg e4]
theorem mput_mput (h : AH) (Z Z' : ZT) : mput (mput h Z) Z' = mput h Z' := by
  unfold mput
  refine Prod.ext rfl (Prod.ext (funext fun n => funext fun k => ?_) rfl)
  dsimp only
  split
  · rfl
  · split <;> rfl
theorem mput_mget (h : AH) : mput h (mget h) = h := by
  unfold mput mget
  refine Prod.ext rfl (Prod.ext (funext fun n => funext fun k => ?_) rfl)
  dsimp only
  by_cases e1 : n = (1, 0, 0) ∧ isSc k = true
  · rw [if_pos e1, if_pos ⟨e1.2, rfl⟩, e1.1]; rfl
  · rw [if_neg e1]
    by_cases e4 : n.1 = 2 ∧ n.2.2 = 0 ∧ isSc n.2.1 = false
    · rw [if_pos e4, if_neg (fun z => by rw [e4.2.2] at z; exact absurd z.1 (by decide))]
      have : n = (2, n.2.1, 0) := Prod.ext e4.1 (Prod.ext rfl e4.2.1)
      rw [← this]; rfl
    · rw [if_neg e4]
section MODEL
variable {M : MI} {fr lo mc ms bc bs pc : Nat} {Q : AH → AO → Prop} {h : AH} {loc : AL} {st : List AV} {Z : ZT}
theorem WfM.a (W : WfM h) {j : Nat} (hj : (Nat.blt j 49 && !isSc j) = true) : hR h (1, 0, 0) j = some (2, j, 0) ∧ hT h (2, j, 0) = some (mkd j, mlen j) := by
  rw [Bool.and_eq_true] at hj
  exact W.2 j (blt_lt hj.1) (by simpa using hj.2)
theorem sc_f {j : Nat} (hj : (Nat.blt j 49 && !isSc j) = true) : isSc j = false := by
  rw [Bool.and_eq_true] at hj
  simpa using hj.2
theorem AW.mld {i : Int} {j : Nat} (W : WfM h) (hd : decode M.2.1 pc = .ok (.iaload, 1)) (hj : (Nat.blt j 49 && !isSc j) = true) (hm : mkd j = 20) (hb : 0 ≤ i ∧ i < (mlen j : Int))
    (k : AW M fr lo mc ms Q bc bs (pc + 1) (mput h Z) loc (vi (Z j i.toNat) :: st)) : AW M fr lo mc ms Q bc bs pc (mput h Z) loc (vi i :: vr (2, j, 0) :: st) := by
  refine AW.aldI hd (n := (2, j, 0)) (len := mlen j) (by rw [hT_mput, (W.a hj).2, hm]) hb.1 hb.2 ?_
  rw [hI_mA h Z _ (sc_f hj)]
  exact k
theorem AW.mldZ {i : Int} {j : Nat} (W : WfM h) (hd : decode M.2.1 pc = .ok (.baload, 1)) (hj : (Nat.blt j 49 && !isSc j) = true) (hm : mkd j = 21) (hb : 0 ≤ i ∧ i < (mlen j : Int))
    (k : AW M fr lo mc ms Q bc bs (pc + 1) (mput h Z) loc (vi (Z j i.toNat) :: st)) : AW M fr lo mc ms Q bc bs pc (mput h Z) loc (vi i :: vr (2, j, 0) :: st) := by
  refine AW.aldZ hd (n := (2, j, 0)) (len := mlen j) (by rw [hT_mput, (W.a hj).2, hm]) hb.1 hb.2 ?_
  rw [hI_mA h Z _ (sc_f hj)]
  exact k
theorem AW.mst {i x : Int} {j : Nat} (W : WfM h) (hd : decode M.2.1 pc = .ok (.iastore, 1)) (hj : (Nat.blt j 49 && !isSc j) = true) (hm : mkd j = 20) (hb : 0 ≤ i ∧ i < (mlen j : Int))
    (k : AW M fr lo mc ms Q bc bs (pc + 1) (mput h (zs Z j i.toNat x)) loc st) : AW M fr lo mc ms Q bc bs pc (mput h Z) loc (vi x :: vi i :: vr (2, j, 0) :: st) := by
  refine AW.astI hd (n := (2, j, 0)) (len := mlen j) (by rw [hT_mput, (W.a hj).2, hm]) hb.1 hb.2 ?_
  rw [sI_mA h Z j _ x (sc_f hj)]
  exact k
theorem AW.mstZ {i x : Int} {j : Nat} (W : WfM h) (hd : decode M.2.1 pc = .ok (.bastore, 1)) (hj : (Nat.blt j 49 && !isSc j) = true) (hm : mkd j = 21) (hb : 0 ≤ i ∧ i < (mlen j : Int)) (hx : x = 0 ∨ x = 1)
    (k : AW M fr lo mc ms Q bc bs (pc + 1) (mput h (zs Z j i.toNat x)) loc st) : AW M fr lo mc ms Q bc bs pc (mput h Z) loc (vi x :: vi i :: vr (2, j, 0) :: st) := by
  refine AW.astZ hd (n := (2, j, 0)) (len := mlen j) (by rw [hT_mput, (W.a hj).2, hm]) hb.1 hb.2 hx ?_
  rw [sI_mA h Z j _ x (sc_f hj)]
  exact k
/-! numbers that stay in their range -/
theorem AW.iaddB {x y : Int} (hd : decode M.2.1 pc = .ok (.iadd, 1)) (hb : -2147483648 ≤ x + y ∧ x + y < 2147483648) (k : AW M fr lo mc ms Q bc bs (pc + 1) h loc (vi (x + y) :: st)) : AW M fr lo mc ms Q bc bs pc h loc (vi y :: vi x :: st) := by
  refine AW.iadd hd ?_
  rw [wr_id hb]
  exact k
theorem AW.isubB {x y : Int} (hd : decode M.2.1 pc = .ok (.isub, 1)) (hb : -2147483648 ≤ x - y ∧ x - y < 2147483648) (k : AW M fr lo mc ms Q bc bs (pc + 1) h loc (vi (x - y) :: st)) : AW M fr lo mc ms Q bc bs pc h loc (vi y :: vi x :: st) := by
  refine AW.isub hd ?_
  rw [wr_id hb]
  exact k
theorem AW.imulB {x y : Int} (hd : decode M.2.1 pc = .ok (.imul, 1)) (hb : -2147483648 ≤ x * y ∧ x * y < 2147483648) (k : AW M fr lo mc ms Q bc bs (pc + 1) h loc (vi (x * y) :: st)) : AW M fr lo mc ms Q bc bs pc h loc (vi y :: vi x :: st) := by
  refine AW.imul hd ?_
  rw [wr_id hb]
  exact k
theorem AW.inegB {x : Int} (hd : decode M.2.1 pc = .ok (.ineg, 1)) (hb : -2147483648 ≤ -x ∧ -x < 2147483648) (k : AW M fr lo mc ms Q bc bs (pc + 1) h loc (vi (-x) :: st)) : AW M fr lo mc ms Q bc bs pc h loc (vi x :: st) := by
  refine AW.ineg hd ?_
  rw [wr_id hb]
  exact k
theorem AW.iincB {j : Nat} {n x : Int} (hd : decode M.2.1 pc = .ok (.iinc j n, 3)) (hn : Nat.blt j M.2.2.1 = true) (hg : lget loc j = some (vi x)) (hb : -2147483648 ≤ x + n ∧ x + n < 2147483648) (k : AW M fr lo mc ms Q bc bs (pc + 3) h (lput j (vi (x + n)) loc) st) : AW M fr lo mc ms Q bc bs pc h loc st := by
  refine AW.iinc hd hn hg ?_
  rw [wr_id hb]
  exact k
/-! behind calls -/
theorem AW.k1 {h' : AH} {v : AV} (k : AW M fr lo mc ms Q bc bs pc h' loc (v :: st)) : QK (fun h' v => AW M fr lo mc ms Q bc bs pc h' loc (v.toList ++ st)) Q h' (.inl (some v)) := k
theorem AW.k0 {h' : AH} (k : AW M fr lo mc ms Q bc bs pc h' loc st) : QK (fun h' v => AW M fr lo mc ms Q bc bs pc h' loc (v.toList ++ st)) Q h' (.inl none) := k
theorem fin1 {h' : AH} {x y : Int} (k : Q h (.inl (some (vi x)))) (hh : h' = h) (hx : y = x) : Q h' (.inl (some (vi y))) := by subst hh; subst hx; exact k
theorem fin0 {h' : AH} (k : Q h (.inl none)) (hh : h' = h) : Q h' (.inl none) := by subst hh; exact k
/-! values of branches that meet again -/
theorem ite_k {P : Prop} [Decidable P] {J : Nat} {a b : Int} (k : AW M fr lo mc ms Q bc bs J h loc (vi (if P then a else b) :: st)) : (P → AW M fr lo mc ms Q bc bs J h loc (vi a :: st)) ∧ (¬ P → AW M fr lo mc ms Q bc bs J h loc (vi b :: st)) :=
  ⟨fun q => by rw [if_pos q] at k; exact k, fun q => by rw [if_neg q] at k; exact k⟩
end MODEL
section JOIN
variable {M : MI} {fr lo mc ms bc bs pc : Nat} {Q : AH → AO → Prop} {h : AH} {loc : AL} {st : List AV}
theorem AW.if_eqJ (J : Nat) {x o : Int} {tgt : Nat} {v1 v2 : Int} (hd : decode M.2.1 pc = .ok (.ifCond .eq o, 3)) (ht : Nat.beq (pc + o.toNat) (tgt + (-o).toNat) = true) (kt : x = 0 → AW M fr lo mc ms Q bc bs J h loc (vi v1 :: st) → AW M fr lo mc ms Q bc bs tgt h loc st) (kf : ¬ x = 0 → AW M fr lo mc ms Q bc bs J h loc (vi v2 :: st) → AW M fr lo mc ms Q bc bs (pc + 3) h loc st)
    (k : AW M fr lo mc ms Q bc bs J h loc (vi (if x = 0 then v1 else v2) :: st)) : AW M fr lo mc ms Q bc bs pc h loc (vi x :: st) :=
  AW.if_eq hd ht (fun q => kt q ((ite_k k).1 q)) (fun q => kf q ((ite_k k).2 q))
theorem AW.icmp_eqJ (J : Nat) {x y o : Int} {tgt : Nat} {v1 v2 : Int} (hd : decode M.2.1 pc = .ok (.if_icmp .eq o, 3)) (ht : Nat.beq (pc + o.toNat) (tgt + (-o).toNat) = true) (kt : x = y → AW M fr lo mc ms Q bc bs J h loc (vi v1 :: st) → AW M fr lo mc ms Q bc bs tgt h loc st) (kf : ¬ x = y → AW M fr lo mc ms Q bc bs J h loc (vi v2 :: st) → AW M fr lo mc ms Q bc bs (pc + 3) h loc st)
    (k : AW M fr lo mc ms Q bc bs J h loc (vi (if x = y then v1 else v2) :: st)) : AW M fr lo mc ms Q bc bs pc h loc (vi y :: vi x :: st) :=
  AW.icmp_eq hd ht (fun q => kt q ((ite_k k).1 q)) (fun q => kf q ((ite_k k).2 q))
theorem AW.if_neJ (J : Nat) {x o : Int} {tgt : Nat} {v1 v2 : Int} (hd : decode M.2.1 pc = .ok (.ifCond .ne o, 3)) (ht : Nat.beq (pc + o.toNat) (tgt + (-o).toNat) = true) (kt : ¬ x = 0 → AW M fr lo mc ms Q bc bs J h loc (vi v1 :: st) → AW M fr lo mc ms Q bc bs tgt h loc st) (kf : x = 0 → AW M fr lo mc ms Q bc bs J h loc (vi v2 :: st) → AW M fr lo mc ms Q bc bs (pc + 3) h loc st)
    (k : AW M fr lo mc ms Q bc bs J h loc (vi (if ¬ x = 0 then v1 else v2) :: st)) : AW M fr lo mc ms Q bc bs pc h loc (vi x :: st) :=
  AW.if_ne hd ht (fun q => kt q ((ite_k k).1 q)) (fun q => kf q ((ite_k k).2 (fun w => w q)))
theorem AW.icmp_neJ (J : Nat) {x y o : Int} {tgt : Nat} {v1 v2 : Int} (hd : decode M.2.1 pc = .ok (.if_icmp .ne o, 3)) (ht : Nat.beq (pc + o.toNat) (tgt + (-o).toNat) = true) (kt : ¬ x = y → AW M fr lo mc ms Q bc bs J h loc (vi v1 :: st) → AW M fr lo mc ms Q bc bs tgt h loc st) (kf : x = y → AW M fr lo mc ms Q bc bs J h loc (vi v2 :: st) → AW M fr lo mc ms Q bc bs (pc + 3) h loc st)
    (k : AW M fr lo mc ms Q bc bs J h loc (vi (if ¬ x = y then v1 else v2) :: st)) : AW M fr lo mc ms Q bc bs pc h loc (vi y :: vi x :: st) :=
  AW.icmp_ne hd ht (fun q => kt q ((ite_k k).1 q)) (fun q => kf q ((ite_k k).2 (fun w => w q)))
theorem AW.if_ltJ (J : Nat) {x o : Int} {tgt : Nat} {v1 v2 : Int} (hd : decode M.2.1 pc = .ok (.ifCond .lt o, 3)) (ht : Nat.beq (pc + o.toNat) (tgt + (-o).toNat) = true) (kt : x < 0 → AW M fr lo mc ms Q bc bs J h loc (vi v1 :: st) → AW M fr lo mc ms Q bc bs tgt h loc st) (kf : 0 ≤ x → AW M fr lo mc ms Q bc bs J h loc (vi v2 :: st) → AW M fr lo mc ms Q bc bs (pc + 3) h loc st)
    (k : AW M fr lo mc ms Q bc bs J h loc (vi (if x < 0 then v1 else v2) :: st)) : AW M fr lo mc ms Q bc bs pc h loc (vi x :: st) :=
  AW.if_lt hd ht (fun q => kt q ((ite_k k).1 q)) (fun q => kf q ((ite_k k).2 (Int.not_lt.mpr q)))
theorem AW.icmp_ltJ (J : Nat) {x y o : Int} {tgt : Nat} {v1 v2 : Int} (hd : decode M.2.1 pc = .ok (.if_icmp .lt o, 3)) (ht : Nat.beq (pc + o.toNat) (tgt + (-o).toNat) = true) (kt : x < y → AW M fr lo mc ms Q bc bs J h loc (vi v1 :: st) → AW M fr lo mc ms Q bc bs tgt h loc st) (kf : y ≤ x → AW M fr lo mc ms Q bc bs J h loc (vi v2 :: st) → AW M fr lo mc ms Q bc bs (pc + 3) h loc st)
    (k : AW M fr lo mc ms Q bc bs J h loc (vi (if x < y then v1 else v2) :: st)) : AW M fr lo mc ms Q bc bs pc h loc (vi y :: vi x :: st) :=
  AW.icmp_lt hd ht (fun q => kt q ((ite_k k).1 q)) (fun q => kf q ((ite_k k).2 (Int.not_lt.mpr q)))
theorem AW.if_geJ (J : Nat) {x o : Int} {tgt : Nat} {v1 v2 : Int} (hd : decode M.2.1 pc = .ok (.ifCond .ge o, 3)) (ht : Nat.beq (pc + o.toNat) (tgt + (-o).toNat) = true) (kt : 0 ≤ x → AW M fr lo mc ms Q bc bs J h loc (vi v1 :: st) → AW M fr lo mc ms Q bc bs tgt h loc st) (kf : x < 0 → AW M fr lo mc ms Q bc bs J h loc (vi v2 :: st) → AW M fr lo mc ms Q bc bs (pc + 3) h loc st)
    (k : AW M fr lo mc ms Q bc bs J h loc (vi (if 0 ≤ x then v1 else v2) :: st)) : AW M fr lo mc ms Q bc bs pc h loc (vi x :: st) :=
  AW.if_ge hd ht (fun q => kt q ((ite_k k).1 q)) (fun q => kf q ((ite_k k).2 (Int.not_le.mpr q)))
theorem AW.icmp_geJ (J : Nat) {x y o : Int} {tgt : Nat} {v1 v2 : Int} (hd : decode M.2.1 pc = .ok (.if_icmp .ge o, 3)) (ht : Nat.beq (pc + o.toNat) (tgt + (-o).toNat) = true) (kt : y ≤ x → AW M fr lo mc ms Q bc bs J h loc (vi v1 :: st) → AW M fr lo mc ms Q bc bs tgt h loc st) (kf : x < y → AW M fr lo mc ms Q bc bs J h loc (vi v2 :: st) → AW M fr lo mc ms Q bc bs (pc + 3) h loc st)
    (k : AW M fr lo mc ms Q bc bs J h loc (vi (if y ≤ x then v1 else v2) :: st)) : AW M fr lo mc ms Q bc bs pc h loc (vi y :: vi x :: st) :=
  AW.icmp_ge hd ht (fun q => kt q ((ite_k k).1 q)) (fun q => kf q ((ite_k k).2 (Int.not_le.mpr q)))
theorem AW.if_gtJ (J : Nat) {x o : Int} {tgt : Nat} {v1 v2 : Int} (hd : decode M.2.1 pc = .ok (.ifCond .gt o, 3)) (ht : Nat.beq (pc + o.toNat) (tgt + (-o).toNat) = true) (kt : 0 < x → AW M fr lo mc ms Q bc bs J h loc (vi v1 :: st) → AW M fr lo mc ms Q bc bs tgt h loc st) (kf : x ≤ 0 → AW M fr lo mc ms Q bc bs J h loc (vi v2 :: st) → AW M fr lo mc ms Q bc bs (pc + 3) h loc st)
    (k : AW M fr lo mc ms Q bc bs J h loc (vi (if 0 < x then v1 else v2) :: st)) : AW M fr lo mc ms Q bc bs pc h loc (vi x :: st) :=
  AW.if_gt hd ht (fun q => kt q ((ite_k k).1 q)) (fun q => kf q ((ite_k k).2 (Int.not_lt.mpr q)))
theorem AW.icmp_gtJ (J : Nat) {x y o : Int} {tgt : Nat} {v1 v2 : Int} (hd : decode M.2.1 pc = .ok (.if_icmp .gt o, 3)) (ht : Nat.beq (pc + o.toNat) (tgt + (-o).toNat) = true) (kt : y < x → AW M fr lo mc ms Q bc bs J h loc (vi v1 :: st) → AW M fr lo mc ms Q bc bs tgt h loc st) (kf : x ≤ y → AW M fr lo mc ms Q bc bs J h loc (vi v2 :: st) → AW M fr lo mc ms Q bc bs (pc + 3) h loc st)
    (k : AW M fr lo mc ms Q bc bs J h loc (vi (if y < x then v1 else v2) :: st)) : AW M fr lo mc ms Q bc bs pc h loc (vi y :: vi x :: st) :=
  AW.icmp_gt hd ht (fun q => kt q ((ite_k k).1 q)) (fun q => kf q ((ite_k k).2 (Int.not_lt.mpr q)))
theorem AW.if_leJ (J : Nat) {x o : Int} {tgt : Nat} {v1 v2 : Int} (hd : decode M.2.1 pc = .ok (.ifCond .le o, 3)) (ht : Nat.beq (pc + o.toNat) (tgt + (-o).toNat) = true) (kt : x ≤ 0 → AW M fr lo mc ms Q bc bs J h loc (vi v1 :: st) → AW M fr lo mc ms Q bc bs tgt h loc st) (kf : 0 < x → AW M fr lo mc ms Q bc bs J h loc (vi v2 :: st) → AW M fr lo mc ms Q bc bs (pc + 3) h loc st)
    (k : AW M fr lo mc ms Q bc bs J h loc (vi (if x ≤ 0 then v1 else v2) :: st)) : AW M fr lo mc ms Q bc bs pc h loc (vi x :: st) :=
  AW.if_le hd ht (fun q => kt q ((ite_k k).1 q)) (fun q => kf q ((ite_k k).2 (Int.not_le.mpr q)))
theorem AW.icmp_leJ (J : Nat) {x y o : Int} {tgt : Nat} {v1 v2 : Int} (hd : decode M.2.1 pc = .ok (.if_icmp .le o, 3)) (ht : Nat.beq (pc + o.toNat) (tgt + (-o).toNat) = true) (kt : x ≤ y → AW M fr lo mc ms Q bc bs J h loc (vi v1 :: st) → AW M fr lo mc ms Q bc bs tgt h loc st) (kf : y < x → AW M fr lo mc ms Q bc bs J h loc (vi v2 :: st) → AW M fr lo mc ms Q bc bs (pc + 3) h loc st)
    (k : AW M fr lo mc ms Q bc bs J h loc (vi (if x ≤ y then v1 else v2) :: st)) : AW M fr lo mc ms Q bc bs pc h loc (vi y :: vi x :: st) :=
  AW.icmp_le hd ht (fun q => kt q ((ite_k k).1 q)) (fun q => kf q ((ite_k k).2 (Int.not_le.mpr q)))
end JOIN
