/-! ===== the class: cells ===== -/
section C0
variable {M : MI} {fr lo mc ms bc bs pc : Nat} {Q : AH → AO → Prop} {h : AH} {loc : AL} {st : List AV}
theorem AW.getIE {idx kc len j : Nat} {n : Nm} {x : Int} (hn : hT h n = some (kc, len)) (hd : decode M.2.1 pc = .ok (.getfield idx, 3)) (hl : Cond.fieldLink M.1.cls idx (clT kc j).1 (clT kc j).2.1 (clT kc j).2.2.1 ∈ gtbl) (hk : Nat.blt kc 10 = true) (hj : Nat.blt j (clN kc) = true) (hin : ∀ w ∈ u_ws (clR kc) (clT kc) (clN kc), w ∈ gtbl)
    (hc0 : fco (fty kc j) = 0) (hx : hI h n j = x) (k : AW M fr lo mc ms Q bc bs (pc + 3) h loc (vi x :: st)) : AW M fr lo mc ms Q bc bs pc h loc (vr n :: st) := AW.getI hd hn hk hj hin hl hc0 (by rw [hx]; exact k)
theorem AW.getLE {idx kc len j : Nat} {n : Nm} {x : Int64} (hn : hT h n = some (kc, len)) (hd : decode M.2.1 pc = .ok (.getfield idx, 3)) (hl : Cond.fieldLink M.1.cls idx (clT kc j).1 (clT kc j).2.1 (clT kc j).2.2.1 ∈ gtbl) (hk : Nat.blt kc 10 = true) (hj : Nat.blt j (clN kc) = true) (hin : ∀ w ∈ u_ws (clR kc) (clT kc) (clN kc), w ∈ gtbl)
    (hc0 : fco (fty kc j) = 1) (hx : hL h n j = x) (k : AW M fr lo mc ms Q bc bs (pc + 3) h loc (vl x :: st)) : AW M fr lo mc ms Q bc bs pc h loc (vr n :: st) := AW.getL hd hn hk hj hin hl hc0 (by rw [hx]; exact k)
theorem AW.getRE {idx kc len j : Nat} {n : Nm} {o : Option Nm} (hn : hT h n = some (kc, len)) (hd : decode M.2.1 pc = .ok (.getfield idx, 3)) (hl : Cond.fieldLink M.1.cls idx (clT kc j).1 (clT kc j).2.1 (clT kc j).2.2.1 ∈ gtbl) (hk : Nat.blt kc 10 = true) (hj : Nat.blt j (clN kc) = true) (hin : ∀ w ∈ u_ws (clR kc) (clT kc) (clN kc), w ∈ gtbl)
    (hc0 : fco (fty kc j) = 2) (hx : hR h n j = o) (k : AW M fr lo mc ms Q bc bs (pc + 3) h loc (vq o :: st)) : AW M fr lo mc ms Q bc bs pc h loc (vr n :: st) := AW.getR hd hn hk hj hin hl hc0 hx k
theorem AW.aldIE {i x : Int} {n : Nm} {len : Nat} (hd : decode M.2.1 pc = .ok (.iaload, 1)) (hn : hT h n = some (20, len)) (h0 : 0 ≤ i) (h1 : i < (len : Int)) (hx : hI h n i.toNat = x) (k : AW M fr lo mc ms Q bc bs (pc + 1) h loc (vi x :: st)) : AW M fr lo mc ms Q bc bs pc h loc (vi i :: vr n :: st) := AW.aldI hd hn h0 h1 (by rw [hx]; exact k)
theorem AW.aldZE {i x : Int} {n : Nm} {len : Nat} (hd : decode M.2.1 pc = .ok (.baload, 1)) (hn : hT h n = some (21, len)) (h0 : 0 ≤ i) (h1 : i < (len : Int)) (hx : hI h n i.toNat = x) (k : AW M fr lo mc ms Q bc bs (pc + 1) h loc (vi x :: st)) : AW M fr lo mc ms Q bc bs pc h loc (vi i :: vr n :: st) := AW.aldZ hd hn h0 h1 (by rw [hx]; exact k)
theorem AW.aldLE {i : Int} {x : Int64} {n : Nm} {len : Nat} (hd : decode M.2.1 pc = .ok (.laload, 1)) (hn : hT h n = some (22, len)) (h0 : 0 ≤ i) (h1 : i < (len : Int)) (hx : hL h n i.toNat = x) (k : AW M fr lo mc ms Q bc bs (pc + 1) h loc (vl x :: st)) : AW M fr lo mc ms Q bc bs pc h loc (vi i :: vr n :: st) := AW.aldL hd hn h0 h1 (by rw [hx]; exact k)
end C0
section C0R
variable {h : AH}
/-! reads behind writes -/
theorem hI_n1 {n m : Nm} {i j : Nat} {v x : Int} (hn : Nat.beq n.1 m.1 = false) (k : hI h n i = x) : hI (sI h m j v) n i = x := by
  rw [hI_sI, if_neg, k]
  rintro ⟨e, -⟩
  subst e
  simp at hn
theorem hI_n3 {n m : Nm} {i j : Nat} {v x : Int} (hn : Nat.beq n.2.2 m.2.2 = false) (k : hI h n i = x) : hI (sI h m j v) n i = x := by
  rw [hI_sI, if_neg, k]
  rintro ⟨e, -⟩
  subst e
  simp at hn
theorem hI_e {n : Nm} {i j : Nat} {v x : Int} (hi : i = j) (k : v = x) : hI (sI h n j v) n i = x := by
  rw [hI_sI, if_pos ⟨rfl, hi⟩, k]
theorem hI_m {n : Nm} {i j : Nat} {v x : Int} (hi : i ≠ j) (k : hI h n i = x) : hI (sI h n j v) n i = x := by
  rw [hI_sI, if_neg (fun e => hi e.2), k]
theorem hL_e {n : Nm} {i j : Nat} {v x : Int64} (hi : i = j) (k : v = x) : hL (sL h n j v) n i = x := by
  show (if n = n ∧ i = j then v else _) = x
  rw [if_pos ⟨rfl, hi⟩, k]
theorem hL_m {n : Nm} {i j : Nat} {v x : Int64} (hi : i ≠ j) (k : hL h n i = x) : hL (sL h n j v) n i = x := by
  show (if n = n ∧ i = j then v else _) = x
  rw [if_neg (fun e => hi e.2)]; exact k
/-! the cells of a schema -/
def SchW (h : AH) (s : Nat) : Prop := hT h (4, s, 0) = some (5, 0) ∧ (hR h (4, s, 0) 3 = some (4, s, 1) ∧ hT h (4, s, 1) = some (20, 46) ∧ hR h (4, s, 0) 4 = some (4, s, 2) ∧ hT h (4, s, 2) = some (20, 46) ∧ hR h (4, s, 0) 5 = some (4, s, 3) ∧ hT h (4, s, 3) = some (29, 24) ∧ hR h (4, s, 0) 6 = some (4, s, 4) ∧ hT h (4, s, 4) = some (22, 24) ∧ hR h (4, s, 0) 7 = some (4, s, 5) ∧ hT h (4, s, 5) = some (28, 24) ∧ hR h (4, s, 0) 8 = some (4, s, 6) ∧ hT h (4, s, 6) = some (20, 46) ∧ hR h (4, s, 0) 9 = some (4, s, 7) ∧ hT h (4, s, 7) = some (20, 2) ∧ hR h (4, s, 0) 10 = some (4, s, 8) ∧ hT h (4, s, 8) = some (20, 2) ∧ hR h (4, s, 0) 11 = some (4, s, 9) ∧ hT h (4, s, 9) = some (20, 2) ∧ hR h (4, s, 0) 12 = some (4, s, 10) ∧ hT h (4, s, 10) = some (20, 2)) ∧ ∀ v : Nat, v < 24 → hR h (4, s, 3) v = some (4, s, 100 + v) ∧ hT h (4, s, 100 + v) = some (20, 26)
theorem SchW.o {s : Nat} (W : SchW h s) : hT h (4, s, 0) = some (5, 0) := W.1
theorem SchW.r3 {s : Nat} (W : SchW h s) : hR h (4, s, 0) 3 = some (4, s, 1) := W.2.1.1
theorem SchW.t3 {s : Nat} (W : SchW h s) : hT h (4, s, 1) = some (20, 46) := W.2.1.2.1
theorem SchW.r4 {s : Nat} (W : SchW h s) : hR h (4, s, 0) 4 = some (4, s, 2) := W.2.1.2.2.1
theorem SchW.t4 {s : Nat} (W : SchW h s) : hT h (4, s, 2) = some (20, 46) := W.2.1.2.2.2.1
theorem SchW.r5 {s : Nat} (W : SchW h s) : hR h (4, s, 0) 5 = some (4, s, 3) := W.2.1.2.2.2.2.1
theorem SchW.t5 {s : Nat} (W : SchW h s) : hT h (4, s, 3) = some (29, 24) := W.2.1.2.2.2.2.2.1
theorem SchW.r6 {s : Nat} (W : SchW h s) : hR h (4, s, 0) 6 = some (4, s, 4) := W.2.1.2.2.2.2.2.2.1
theorem SchW.t6 {s : Nat} (W : SchW h s) : hT h (4, s, 4) = some (22, 24) := W.2.1.2.2.2.2.2.2.2.1
theorem SchW.r7 {s : Nat} (W : SchW h s) : hR h (4, s, 0) 7 = some (4, s, 5) := W.2.1.2.2.2.2.2.2.2.2.1
theorem SchW.t7 {s : Nat} (W : SchW h s) : hT h (4, s, 5) = some (28, 24) := W.2.1.2.2.2.2.2.2.2.2.2.1
theorem SchW.r8 {s : Nat} (W : SchW h s) : hR h (4, s, 0) 8 = some (4, s, 6) := W.2.1.2.2.2.2.2.2.2.2.2.2.1
theorem SchW.t8 {s : Nat} (W : SchW h s) : hT h (4, s, 6) = some (20, 46) := W.2.1.2.2.2.2.2.2.2.2.2.2.2.1
theorem SchW.r9 {s : Nat} (W : SchW h s) : hR h (4, s, 0) 9 = some (4, s, 7) := W.2.1.2.2.2.2.2.2.2.2.2.2.2.2.1
theorem SchW.t9 {s : Nat} (W : SchW h s) : hT h (4, s, 7) = some (20, 2) := W.2.1.2.2.2.2.2.2.2.2.2.2.2.2.2.1
theorem SchW.r10 {s : Nat} (W : SchW h s) : hR h (4, s, 0) 10 = some (4, s, 8) := W.2.1.2.2.2.2.2.2.2.2.2.2.2.2.2.2.1
theorem SchW.t10 {s : Nat} (W : SchW h s) : hT h (4, s, 8) = some (20, 2) := W.2.1.2.2.2.2.2.2.2.2.2.2.2.2.2.2.2.1
theorem SchW.r11 {s : Nat} (W : SchW h s) : hR h (4, s, 0) 11 = some (4, s, 9) := W.2.1.2.2.2.2.2.2.2.2.2.2.2.2.2.2.2.2.1
theorem SchW.t11 {s : Nat} (W : SchW h s) : hT h (4, s, 9) = some (20, 2) := W.2.1.2.2.2.2.2.2.2.2.2.2.2.2.2.2.2.2.2.1
theorem SchW.r12 {s : Nat} (W : SchW h s) : hR h (4, s, 0) 12 = some (4, s, 10) := W.2.1.2.2.2.2.2.2.2.2.2.2.2.2.2.2.2.2.2.2.1
theorem SchW.t12 {s : Nat} (W : SchW h s) : hT h (4, s, 10) = some (20, 2) := W.2.1.2.2.2.2.2.2.2.2.2.2.2.2.2.2.2.2.2.2.2
theorem SchW.v {s v : Nat} (W : SchW h s) (hv : v < 24) : hR h (4, s, 3) v = some (4, s, 100 + v) := (W.2.2 v hv).1
theorem SchW.tv {s v : Nat} (W : SchW h s) (hv : v < 24) : hT h (4, s, 100 + v) = some (20, 26) := (W.2.2 v hv).2
/-- a step -/
def StpW (h : AH) (k : Nat) : Prop := hT h (5, k, 0) = some (7, 0) ∧ hR h (5, k, 0) 1 = some (6, k, 0) ∧ hR h (5, k, 0) 2 = some (7, k, 0) ∧ hT h (6, k, 0) = some (20, 2) ∧ hT h (7, k, 0) = some (20, 2)
theorem StpW.o {k : Nat} (W : StpW h k) : hT h (5, k, 0) = some (7, 0) := W.1
theorem StpW.r1 {k : Nat} (W : StpW h k) : hR h (5, k, 0) 1 = some (6, k, 0) := W.2.1
theorem StpW.r2 {k : Nat} (W : StpW h k) : hR h (5, k, 0) 2 = some (7, k, 0) := W.2.2.1
theorem StpW.t1 {k : Nat} (W : StpW h k) : hT h (6, k, 0) = some (20, 2) := W.2.2.2.1
theorem StpW.t2 {k : Nat} (W : StpW h k) : hT h (7, k, 0) = some (20, 2) := W.2.2.2.2
/-- a state of a row -/
def StaW (h : AH) (a b : Nat) : Prop := hT h (a, b, 0) = some (6, 0) ∧ hR h (a, b, 0) 2 = some (a, b, 1) ∧ hR h (a, b, 0) 3 = some (a, b, 2) ∧ hR h (a, b, 0) 4 = some (a, b, 3) ∧ hT h (a, b, 1) = some (20, 46) ∧ hT h (a, b, 2) = some (21, 48) ∧ hT h (a, b, 3) = some (20, 96)
theorem StaW.o {a b : Nat} (W : StaW h a b) : hT h (a, b, 0) = some (6, 0) := W.1
theorem StaW.r2 {a b : Nat} (W : StaW h a b) : hR h (a, b, 0) 2 = some (a, b, 1) := W.2.1
theorem StaW.r3 {a b : Nat} (W : StaW h a b) : hR h (a, b, 0) 3 = some (a, b, 2) := W.2.2.1
theorem StaW.r4 {a b : Nat} (W : StaW h a b) : hR h (a, b, 0) 4 = some (a, b, 3) := W.2.2.2.1
theorem StaW.t2 {a b : Nat} (W : StaW h a b) : hT h (a, b, 1) = some (20, 46) := W.2.2.2.2.1
theorem StaW.t3 {a b : Nat} (W : StaW h a b) : hT h (a, b, 2) = some (21, 48) := W.2.2.2.2.2.1
theorem StaW.t4 {a b : Nat} (W : StaW h a b) : hT h (a, b, 3) = some (20, 96) := W.2.2.2.2.2.2
end C0R
/-! sets of fields as bits -/
abbrev bt (x : Int64) (f : Int) : Prop := x.toBitVec.getLsbD f.toNat = true
def bitI (f : Int) : Int64 := (1 : Int64) <<< Int64.ofInt f
theorem bit_bv : ∀ f : Fin 64, (bitI (f : Nat)).toBitVec = BitVec.twoPow 64 f := by decide +kernel
theorem bit_bt {f g : Int} (hf : 0 ≤ f ∧ f < 64) (hg : 0 ≤ g ∧ g < 64) : bt (bitI f) g ↔ g = f := by
  have := bit_bv ⟨f.toNat, by omega⟩
  unfold bt
  rw [show bitI f = bitI ((f.toNat : Nat) : Int) from congrArg bitI (by omega), this, BitVec.getLsbD_twoPow]
  simp only [Bool.and_eq_true, decide_eq_true_eq]
  omega
theorem bt_or {x y : Int64} {f : Int} : bt (x ||| y) f ↔ bt x f ∨ bt y f := by
  unfold bt; rw [Int64.toBitVec_or, BitVec.getLsbD_or, Bool.or_eq_true]
theorem bt_and {x y : Int64} {f : Int} : bt (x &&& y) f ↔ bt x f ∧ bt y f := by
  unfold bt; rw [Int64.toBitVec_and, BitVec.getLsbD_and, Bool.and_eq_true]
theorem bt_not {x : Int64} {f : Int} (hf : 0 ≤ f ∧ f < 64) : bt (x ^^^ (-1)) f ↔ ¬ bt x f := by
  unfold bt
  rw [Int64.toBitVec_xor, BitVec.getLsbD_xor, show (-1 : Int64).toBitVec = BitVec.allOnes 64 from by decide +kernel, BitVec.getLsbD_allOnes, show decide (f.toNat < 64) = true from decide_eq_true (by omega)]
  cases x.toBitVec.getLsbD f.toNat <;> simp
theorem bt_0 {f : Int} : ¬ bt 0 f := by
  unfold bt
  rw [show (0 : Int64).toBitVec = 0#64 from rfl]
  simp
theorem bt_ext {x y : Int64} (k : ∀ f : Nat, f < 64 → (bt x f ↔ bt y f)) : x = y := by
  apply Int64.toBitVec_inj.mp
  apply BitVec.eq_of_getLsbD_eq
  intro i hi
  have := k i hi
  unfold bt at this
  rw [Int.toNat_natCast] at this
  cases p : x.toBitVec.getLsbD i <;> cases q : y.toBitVec.getLsbD i <;> simp_all
theorem and_bit {x : Int64} {f : Int} (hf : 0 ≤ f ∧ f < 64) : x &&& bitI f = 0 ↔ ¬ bt x f := by
  constructor
  · intro e b
    have : bt (x &&& bitI f) f := bt_and.mpr ⟨b, (bit_bt hf hf).mpr rfl⟩
    rw [e] at this
    exact bt_0 this
  · intro b
    refine bt_ext (fun g hg => ?_)
    rw [bt_and, bit_bt hf (by omega)]
    refine ⟨fun z => absurd (z.2 ▸ z.1) b, fun z => absurd z bt_0⟩
