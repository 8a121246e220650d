/-! ===== the law: rows for longs by their numbers, decided branches ===== -/
section A0
variable {M N : MI} {fr lo mc ms bc bs pc : Nat} {Q : AH → AO → Prop} {h : AH} {loc : AL} {st : List AV}
theorem lkL_7 : Cond.constant RL 7 (Int32.ofInt 2147483647) ∈ gtbl := gt_at _ 230 (by decide +kernel) (by decide +kernel)
theorem lkL_85 : Cond.constant RL 85 (Int32.ofInt 524288) ∈ gtbl := gt_at _ 926 (by decide +kernel) (by decide +kernel)
theorem AW.ldcI {i : Nat} {n : Int} (hd : decode M.2.1 pc = .ok (.ldc i, 2)) (hk : Cond.constant M.1.cls i (Int32.ofInt n) ∈ gtbl) (hn : (decide (-2147483648 ≤ n) && decide (n < 2147483648)) = true) (k : AW M fr lo mc ms Q bc bs (pc + 2) h loc (vi n :: st)) : AW M fr lo mc ms Q bc bs pc h loc st := by
  intro p l e s m args below meth c D dA B0 H0 C dom0 al0 al H locs cells slots ls hR hA hS hc hs ho hv hl
  exact lv_ldc C.1 C.2.1 C.2.2.2.2.1 (C.2.2.2.2.2.2.1 _ hk) hd (k p l e s m args below meth c D dA B0 H0 C dom0 al0 al H locs cells slots ls hR hA hS hc hs ho (.cons (inR_lit hn) hv) hl)
def inL (x : Int) : Prop := -9223372036854775808 ≤ x ∧ x < 9223372036854775808
theorem i64_back {x : Int} (h : inL x) : (Int64.ofInt x).toInt = x := Int64.toInt_ofInt_of_le h.1 h.2
theorem i64_div {x y : Int} (hx : inL x) (h : 0 < y ∧ y < 9223372036854775808) : Int64.ofInt x / Int64.ofInt y = Int64.ofInt (x.tdiv y) := by
  have hy : inL y := ⟨by omega, h.2⟩
  apply Int64.toInt_inj.mp
  rw [Int64.toInt_div_of_ne_right, i64_back hx, i64_back hy, i64_back]
  · refine ⟨?_, ?_⟩
    · have := hx.1
      by_cases h0 : 0 ≤ x
      · have := Int.tdiv_nonneg h0 (Int.le_of_lt h.1); omega
      · have h1 : (-x).tdiv y ≤ -x := Int.tdiv_le_self _ (by omega)
        rw [Int.neg_tdiv] at h1; omega
    · have := hx.2
      by_cases h0 : 0 ≤ x
      · have := Int.tdiv_le_self y h0; omega
      · have h1 : 0 ≤ (-x).tdiv y := Int.tdiv_nonneg (by omega) (Int.le_of_lt h.1)
        rw [Int.neg_tdiv] at h1; omega
  · intro e
    have := congrArg Int64.toInt e
    rw [i64_back hy] at this
    have h2 : (-1 : Int64).toInt = -1 := by decide
    omega
theorem i64_rem {x y : Int} (hx : inL x) (h : 0 < y ∧ y < 9223372036854775808) : Int64.ofInt x - Int64.ofInt x / Int64.ofInt y * Int64.ofInt y = Int64.ofInt (x.tmod y) := by
  rw [i64_div hx h, ← Int64.ofInt_mul, ← Int64.ofInt_sub, Int.tmod_def, Int.mul_comm]
theorem i64_ne0 {y : Int} (h : 0 < y ∧ y < 9223372036854775808) : ¬ Int64.ofInt y = 0 := fun e => by
  have := congrArg Int64.toInt e
  rw [i64_back ⟨by omega, h.2⟩] at this
  have h2 : (0 : Int64).toInt = 0 := by decide
  omega
theorem AW.lmul {x y : Int64} (hd : decode M.2.1 pc = .ok (.lmul, 1)) (k : AW M fr lo mc ms Q bc bs (pc + 1) h loc (vl (x * y) :: st)) : AW M fr lo mc ms Q bc bs pc h loc (vl y :: vl x :: st) := by
  intro p l e s m args below meth c D dA B0 H0 C dom0 al0 al H locs cells slots ls hR hA hS hc hs ho hv hl
  exact lv_lmul C.1 C.2.1 hd (k p l e s m args below meth c D dA B0 H0 C dom0 al0 al H locs cells slots ls hR hA hS hc hs ho (.cons trivial hv.tl.tl) hl)
theorem AW.lmulI {x y : Int} (hd : decode M.2.1 pc = .ok (.lmul, 1)) (k : AW M fr lo mc ms Q bc bs (pc + 1) h loc (vl (Int64.ofInt (x * y)) :: st)) : AW M fr lo mc ms Q bc bs pc h loc (vl (Int64.ofInt y) :: vl (Int64.ofInt x) :: st) := by
  refine AW.lmul hd ?_
  rw [← Int64.ofInt_mul]
  exact k
theorem AW.laddI {x y : Int} (hd : decode M.2.1 pc = .ok (.ladd, 1)) (k : AW M fr lo mc ms Q bc bs (pc + 1) h loc (vl (Int64.ofInt (x + y)) :: st)) : AW M fr lo mc ms Q bc bs pc h loc (vl (Int64.ofInt y) :: vl (Int64.ofInt x) :: st) := by
  refine AW.ladd hd ?_
  rw [← Int64.ofInt_add]
  exact k
theorem AW.ldivI {x y : Int} (hd : decode M.2.1 pc = .ok (.ldiv, 1)) (hx : inL x) (hy : 0 < y ∧ y < 9223372036854775808) (k : AW M fr lo mc ms Q bc bs (pc + 1) h loc (vl (Int64.ofInt (x.tdiv y)) :: st)) : AW M fr lo mc ms Q bc bs pc h loc (vl (Int64.ofInt y) :: vl (Int64.ofInt x) :: st) := by
  intro p l e s m args below meth c D dA B0 H0 C dom0 al0 al H locs cells slots ls hR hA hS hc hs ho hv hl
  refine lv_ldiv C.1 C.2.1 hd (i64_ne0 hy) ?_
  rw [i64_div hx hy]
  exact k p l e s m args below meth c D dA B0 H0 C dom0 al0 al H locs cells slots ls hR hA hS hc hs ho (.cons trivial hv.tl.tl) hl
theorem AW.lremI {x y : Int} (hd : decode M.2.1 pc = .ok (.lrem, 1)) (hx : inL x) (hy : 0 < y ∧ y < 9223372036854775808) (k : AW M fr lo mc ms Q bc bs (pc + 1) h loc (vl (Int64.ofInt (x.tmod y)) :: st)) : AW M fr lo mc ms Q bc bs pc h loc (vl (Int64.ofInt y) :: vl (Int64.ofInt x) :: st) := by
  intro p l e s m args below meth c D dA B0 H0 C dom0 al0 al H locs cells slots ls hR hA hS hc hs ho hv hl
  refine lv_lrem C.1 C.2.1 hd (i64_ne0 hy) ?_
  rw [i64_rem hx hy]
  exact k p l e s m args below meth c D dA B0 H0 C dom0 al0 al H locs cells slots ls hR hA hS hc hs ho (.cons trivial hv.tl.tl) hl
theorem lcmI {x y : Int} (hx : inL x) (hy : inL y) : lcm (Int64.ofInt x) (Int64.ofInt y) = if y < x then 1 else if x = y then 0 else -1 := by
  unfold lcm
  have e1 : Int64.ofInt y < Int64.ofInt x ↔ y < x := by rw [Int64.lt_iff_toInt_lt, i64_back hx, i64_back hy]
  have e2 : Int64.ofInt x = Int64.ofInt y ↔ x = y := ⟨fun e => by
    have := congrArg Int64.toInt e
    rwa [i64_back hx, i64_back hy] at this, fun e => by rw [e]⟩
  simp only [e1, e2]
theorem AW.lcmpI {x y : Int} (hd : decode M.2.1 pc = .ok (.lcmp, 1)) (hx : inL x) (hy : inL y) (k : AW M fr lo mc ms Q bc bs (pc + 1) h loc (vi (if y < x then 1 else if x = y then 0 else -1) :: st)) : AW M fr lo mc ms Q bc bs pc h loc (vl (Int64.ofInt y) :: vl (Int64.ofInt x) :: st) := by
  refine AW.lcmp hd ?_
  rw [lcmI hx hy]
  exact k
theorem l2i_x {x : Int} (hx : inR x) : (Int64.ofInt x).toInt32.toInt = x := by
  rw [Int64.toInt_toInt32, i64_back ⟨by have := hx.1; omega, by have := hx.2; omega⟩]
  exact wr_id hx
theorem AW.l2iI {x : Int} (hd : decode M.2.1 pc = .ok (.l2i, 1)) (hx : inR x) (k : AW M fr lo mc ms Q bc bs (pc + 1) h loc (vi x :: st)) : AW M fr lo mc ms Q bc bs pc h loc (vl (Int64.ofInt x) :: st) := by
  refine AW.l2i hd ?_
  rw [l2i_x hx]
  exact k
theorem AW.lconstI (x : Int) {n : Fin 2} (hd : decode M.2.1 pc = .ok (.lconst n, 1)) (e : Int64.ofNat n = Int64.ofInt x) (k : AW M fr lo mc ms Q bc bs (pc + 1) h loc (vl (Int64.ofInt x) :: st)) : AW M fr lo mc ms Q bc bs pc h loc st := by
  refine AW.lconst hd ?_
  rw [e]
  exact k
theorem AW.ldc2I (x : Int) {i : Nat} {v : Int64} (hd : decode M.2.1 pc = .ok (.ldc2_w i, 3)) (hk : Cond.constantLong M.1.cls i v ∈ gtbl) (e : v = Int64.ofInt x) (k : AW M fr lo mc ms Q bc bs (pc + 3) h loc (vl (Int64.ofInt x) :: st)) : AW M fr lo mc ms Q bc bs pc h loc st := by
  refine AW.ldc2 hd hk ?_
  rw [e]
  exact k
/-- a number by its place -/
theorem AW.lshr {x : Int64} {y : Int} (hd : decode M.2.1 pc = .ok (.lshr, 1)) (hy : 0 ≤ y ∧ y < 64) (k : AW M fr lo mc ms Q bc bs (pc + 1) h loc (vl (x >>> Int64.ofInt y) :: st)) : AW M fr lo mc ms Q bc bs pc h loc (vi y :: vl x :: st) := by
  intro p l e s m args below meth c D dA B0 H0 C dom0 al0 al H locs cells slots ls hR hA hS hc hs ho hv hl
  refine lv_lshr (v := x >>> Int64.ofInt y) C.1 C.2.1 hd ?_ (k p l e s m args below meth c D dA B0 H0 C dom0 al0 al H locs cells slots ls hR hA hS hc hs ho (.cons trivial hv.tl.tl) hl)
  obtain ⟨n, rfl⟩ := Int.eq_ofNat_of_zero_le hy.1
  have hn : n < 64 := by omega
  have : ∀ n : Fin 64, ((Int32.ofInt ((n.val : Nat) : Int)).toInt64 &&& 63) = Int64.ofInt ((n.val : Nat) : Int) := by decide +kernel
  rw [this ⟨n, hn⟩]
theorem AW.if_eqT {x o : Int} {tgt : Nat} (hd : decode M.2.1 pc = .ok (.ifCond .eq o, 3)) (ht : Nat.beq (pc + o.toNat) (tgt + (-o).toNat) = true) (e : x = 0) (k : AW M fr lo mc ms Q bc bs tgt h loc st) : AW M fr lo mc ms Q bc bs pc h loc (vi x :: st) := AW.if_eq hd ht (fun _ => k) (fun c => absurd e (by omega))
theorem AW.if_eqF {x o : Int} {tgt : Nat} (hd : decode M.2.1 pc = .ok (.ifCond .eq o, 3)) (ht : Nat.beq (pc + o.toNat) (tgt + (-o).toNat) = true) (e : ¬ x = 0) (k : AW M fr lo mc ms Q bc bs (pc + 3) h loc st) : AW M fr lo mc ms Q bc bs pc h loc (vi x :: st) := AW.if_eq hd ht (fun c => absurd e (by omega)) (fun _ => k)
theorem AW.if_neT {x o : Int} {tgt : Nat} (hd : decode M.2.1 pc = .ok (.ifCond .ne o, 3)) (ht : Nat.beq (pc + o.toNat) (tgt + (-o).toNat) = true) (e : ¬ x = 0) (k : AW M fr lo mc ms Q bc bs tgt h loc st) : AW M fr lo mc ms Q bc bs pc h loc (vi x :: st) := AW.if_ne hd ht (fun _ => k) (fun c => absurd e (by omega))
theorem AW.if_neF {x o : Int} {tgt : Nat} (hd : decode M.2.1 pc = .ok (.ifCond .ne o, 3)) (ht : Nat.beq (pc + o.toNat) (tgt + (-o).toNat) = true) (e : x = 0) (k : AW M fr lo mc ms Q bc bs (pc + 3) h loc st) : AW M fr lo mc ms Q bc bs pc h loc (vi x :: st) := AW.if_ne hd ht (fun c => absurd e (by omega)) (fun _ => k)
theorem AW.if_ltT {x o : Int} {tgt : Nat} (hd : decode M.2.1 pc = .ok (.ifCond .lt o, 3)) (ht : Nat.beq (pc + o.toNat) (tgt + (-o).toNat) = true) (e : x < 0) (k : AW M fr lo mc ms Q bc bs tgt h loc st) : AW M fr lo mc ms Q bc bs pc h loc (vi x :: st) := AW.if_lt hd ht (fun _ => k) (fun c => absurd e (by omega))
theorem AW.if_ltF {x o : Int} {tgt : Nat} (hd : decode M.2.1 pc = .ok (.ifCond .lt o, 3)) (ht : Nat.beq (pc + o.toNat) (tgt + (-o).toNat) = true) (e : 0 ≤ x) (k : AW M fr lo mc ms Q bc bs (pc + 3) h loc st) : AW M fr lo mc ms Q bc bs pc h loc (vi x :: st) := AW.if_lt hd ht (fun c => absurd e (by omega)) (fun _ => k)
theorem AW.if_geT {x o : Int} {tgt : Nat} (hd : decode M.2.1 pc = .ok (.ifCond .ge o, 3)) (ht : Nat.beq (pc + o.toNat) (tgt + (-o).toNat) = true) (e : 0 ≤ x) (k : AW M fr lo mc ms Q bc bs tgt h loc st) : AW M fr lo mc ms Q bc bs pc h loc (vi x :: st) := AW.if_ge hd ht (fun _ => k) (fun c => absurd e (by omega))
theorem AW.if_geF {x o : Int} {tgt : Nat} (hd : decode M.2.1 pc = .ok (.ifCond .ge o, 3)) (ht : Nat.beq (pc + o.toNat) (tgt + (-o).toNat) = true) (e : x < 0) (k : AW M fr lo mc ms Q bc bs (pc + 3) h loc st) : AW M fr lo mc ms Q bc bs pc h loc (vi x :: st) := AW.if_ge hd ht (fun c => absurd e (by omega)) (fun _ => k)
theorem AW.if_gtT {x o : Int} {tgt : Nat} (hd : decode M.2.1 pc = .ok (.ifCond .gt o, 3)) (ht : Nat.beq (pc + o.toNat) (tgt + (-o).toNat) = true) (e : 0 < x) (k : AW M fr lo mc ms Q bc bs tgt h loc st) : AW M fr lo mc ms Q bc bs pc h loc (vi x :: st) := AW.if_gt hd ht (fun _ => k) (fun c => absurd e (by omega))
theorem AW.if_gtF {x o : Int} {tgt : Nat} (hd : decode M.2.1 pc = .ok (.ifCond .gt o, 3)) (ht : Nat.beq (pc + o.toNat) (tgt + (-o).toNat) = true) (e : x ≤ 0) (k : AW M fr lo mc ms Q bc bs (pc + 3) h loc st) : AW M fr lo mc ms Q bc bs pc h loc (vi x :: st) := AW.if_gt hd ht (fun c => absurd e (by omega)) (fun _ => k)
theorem AW.if_leT {x o : Int} {tgt : Nat} (hd : decode M.2.1 pc = .ok (.ifCond .le o, 3)) (ht : Nat.beq (pc + o.toNat) (tgt + (-o).toNat) = true) (e : x ≤ 0) (k : AW M fr lo mc ms Q bc bs tgt h loc st) : AW M fr lo mc ms Q bc bs pc h loc (vi x :: st) := AW.if_le hd ht (fun _ => k) (fun c => absurd e (by omega))
theorem AW.if_leF {x o : Int} {tgt : Nat} (hd : decode M.2.1 pc = .ok (.ifCond .le o, 3)) (ht : Nat.beq (pc + o.toNat) (tgt + (-o).toNat) = true) (e : 0 < x) (k : AW M fr lo mc ms Q bc bs (pc + 3) h loc st) : AW M fr lo mc ms Q bc bs pc h loc (vi x :: st) := AW.if_le hd ht (fun c => absurd e (by omega)) (fun _ => k)
theorem AW.icmp_eqT {x y o : Int} {tgt : Nat} (hd : decode M.2.1 pc = .ok (.if_icmp .eq o, 3)) (ht : Nat.beq (pc + o.toNat) (tgt + (-o).toNat) = true) (e : x = y) (k : AW M fr lo mc ms Q bc bs tgt h loc st) : AW M fr lo mc ms Q bc bs pc h loc (vi y :: vi x :: st) := AW.icmp_eq hd ht (fun _ => k) (fun c => absurd e (by omega))
theorem AW.icmp_eqF {x y o : Int} {tgt : Nat} (hd : decode M.2.1 pc = .ok (.if_icmp .eq o, 3)) (ht : Nat.beq (pc + o.toNat) (tgt + (-o).toNat) = true) (e : ¬ x = y) (k : AW M fr lo mc ms Q bc bs (pc + 3) h loc st) : AW M fr lo mc ms Q bc bs pc h loc (vi y :: vi x :: st) := AW.icmp_eq hd ht (fun c => absurd e (by omega)) (fun _ => k)
theorem AW.icmp_neT {x y o : Int} {tgt : Nat} (hd : decode M.2.1 pc = .ok (.if_icmp .ne o, 3)) (ht : Nat.beq (pc + o.toNat) (tgt + (-o).toNat) = true) (e : ¬ x = y) (k : AW M fr lo mc ms Q bc bs tgt h loc st) : AW M fr lo mc ms Q bc bs pc h loc (vi y :: vi x :: st) := AW.icmp_ne hd ht (fun _ => k) (fun c => absurd e (by omega))
theorem AW.icmp_neF {x y o : Int} {tgt : Nat} (hd : decode M.2.1 pc = .ok (.if_icmp .ne o, 3)) (ht : Nat.beq (pc + o.toNat) (tgt + (-o).toNat) = true) (e : x = y) (k : AW M fr lo mc ms Q bc bs (pc + 3) h loc st) : AW M fr lo mc ms Q bc bs pc h loc (vi y :: vi x :: st) := AW.icmp_ne hd ht (fun c => absurd e (by omega)) (fun _ => k)
theorem AW.icmp_ltT {x y o : Int} {tgt : Nat} (hd : decode M.2.1 pc = .ok (.if_icmp .lt o, 3)) (ht : Nat.beq (pc + o.toNat) (tgt + (-o).toNat) = true) (e : x < y) (k : AW M fr lo mc ms Q bc bs tgt h loc st) : AW M fr lo mc ms Q bc bs pc h loc (vi y :: vi x :: st) := AW.icmp_lt hd ht (fun _ => k) (fun c => absurd e (by omega))
theorem AW.icmp_ltF {x y o : Int} {tgt : Nat} (hd : decode M.2.1 pc = .ok (.if_icmp .lt o, 3)) (ht : Nat.beq (pc + o.toNat) (tgt + (-o).toNat) = true) (e : y ≤ x) (k : AW M fr lo mc ms Q bc bs (pc + 3) h loc st) : AW M fr lo mc ms Q bc bs pc h loc (vi y :: vi x :: st) := AW.icmp_lt hd ht (fun c => absurd e (by omega)) (fun _ => k)
theorem AW.icmp_geT {x y o : Int} {tgt : Nat} (hd : decode M.2.1 pc = .ok (.if_icmp .ge o, 3)) (ht : Nat.beq (pc + o.toNat) (tgt + (-o).toNat) = true) (e : y ≤ x) (k : AW M fr lo mc ms Q bc bs tgt h loc st) : AW M fr lo mc ms Q bc bs pc h loc (vi y :: vi x :: st) := AW.icmp_ge hd ht (fun _ => k) (fun c => absurd e (by omega))
theorem AW.icmp_geF {x y o : Int} {tgt : Nat} (hd : decode M.2.1 pc = .ok (.if_icmp .ge o, 3)) (ht : Nat.beq (pc + o.toNat) (tgt + (-o).toNat) = true) (e : x < y) (k : AW M fr lo mc ms Q bc bs (pc + 3) h loc st) : AW M fr lo mc ms Q bc bs pc h loc (vi y :: vi x :: st) := AW.icmp_ge hd ht (fun c => absurd e (by omega)) (fun _ => k)
theorem AW.icmp_gtT {x y o : Int} {tgt : Nat} (hd : decode M.2.1 pc = .ok (.if_icmp .gt o, 3)) (ht : Nat.beq (pc + o.toNat) (tgt + (-o).toNat) = true) (e : y < x) (k : AW M fr lo mc ms Q bc bs tgt h loc st) : AW M fr lo mc ms Q bc bs pc h loc (vi y :: vi x :: st) := AW.icmp_gt hd ht (fun _ => k) (fun c => absurd e (by omega))
theorem AW.icmp_gtF {x y o : Int} {tgt : Nat} (hd : decode M.2.1 pc = .ok (.if_icmp .gt o, 3)) (ht : Nat.beq (pc + o.toNat) (tgt + (-o).toNat) = true) (e : x ≤ y) (k : AW M fr lo mc ms Q bc bs (pc + 3) h loc st) : AW M fr lo mc ms Q bc bs pc h loc (vi y :: vi x :: st) := AW.icmp_gt hd ht (fun c => absurd e (by omega)) (fun _ => k)
theorem AW.icmp_leT {x y o : Int} {tgt : Nat} (hd : decode M.2.1 pc = .ok (.if_icmp .le o, 3)) (ht : Nat.beq (pc + o.toNat) (tgt + (-o).toNat) = true) (e : x ≤ y) (k : AW M fr lo mc ms Q bc bs tgt h loc st) : AW M fr lo mc ms Q bc bs pc h loc (vi y :: vi x :: st) := AW.icmp_le hd ht (fun _ => k) (fun c => absurd e (by omega))
theorem AW.icmp_leF {x y o : Int} {tgt : Nat} (hd : decode M.2.1 pc = .ok (.if_icmp .le o, 3)) (ht : Nat.beq (pc + o.toNat) (tgt + (-o).toNat) = true) (e : y < x) (k : AW M fr lo mc ms Q bc bs (pc + 3) h loc st) : AW M fr lo mc ms Q bc bs pc h loc (vi y :: vi x :: st) := AW.icmp_le hd ht (fun c => absurd e (by omega)) (fun _ => k)
end A0
