/-! ===== a row an instruction ===== -/
section RULES
variable {M : MI} {fr lo mc ms bc bs pc : Nat} {Q : AH → AO → Prop} {h : AH} {loc : AL} {st : List AV}
theorem inR_lit {x : Int} (h : (decide (-2147483648 ≤ x) && decide (x < 2147483648)) = true) : inR x := by
  simpa [inR] using h
theorem AW.iconst {n : Int} (hd : decode M.2.1 pc = .ok (.iconst n, 1)) (hn : (decide (-2147483648 ≤ n) && decide (n < 2147483648)) = true) (k : AW M fr lo mc ms Q bc bs (pc + 1) h loc (vi n :: st)) : AW M fr lo mc ms Q bc bs pc h loc st := by
  intro p l e s m args below meth c D dA B0 H0 C dom0 al0 al H locs cells slots ls hR hA hS hc hs ho hv hl
  exact lv_iconst C.1 C.2.1 hd rfl (k p l e s m args below meth c D dA B0 H0 C dom0 al0 al H locs cells slots ls hR hA hS hc hs ho (.cons (inR_lit hn) hv) hl)
theorem AW.bipush {n : Int} (hd : decode M.2.1 pc = .ok (.bipush n, 2)) (he : ((Int8.ofInt n).toInt32 == Int32.ofInt n) = true) (hn : (decide (-2147483648 ≤ n) && decide (n < 2147483648)) = true) (k : AW M fr lo mc ms Q bc bs (pc + 2) h loc (vi n :: st)) : AW M fr lo mc ms Q bc bs pc h loc st := by
  intro p l e s m args below meth c D dA B0 H0 C dom0 al0 al H locs cells slots ls hR hA hS hc hs ho hv hl
  exact lv_bipush C.1 C.2.1 hd (eq_of_beq he) (k p l e s m args below meth c D dA B0 H0 C dom0 al0 al H locs cells slots ls hR hA hS hc hs ho (.cons (inR_lit hn) hv) hl)
theorem AW.sipush {n : Int} (hd : decode M.2.1 pc = .ok (.sipush n, 3)) (he : ((Int16.ofInt n).toInt32 == Int32.ofInt n) = true) (hn : (decide (-2147483648 ≤ n) && decide (n < 2147483648)) = true) (k : AW M fr lo mc ms Q bc bs (pc + 3) h loc (vi n :: st)) : AW M fr lo mc ms Q bc bs pc h loc st := by
  intro p l e s m args below meth c D dA B0 H0 C dom0 al0 al H locs cells slots ls hR hA hS hc hs ho hv hl
  exact lv_sipush C.1 C.2.1 hd (eq_of_beq he) (k p l e s m args below meth c D dA B0 H0 C dom0 al0 al H locs cells slots ls hR hA hS hc hs ho (.cons (inR_lit hn) hv) hl)
theorem AW.lconst {n : Fin 2} (hd : decode M.2.1 pc = .ok (.lconst n, 1)) (k : AW M fr lo mc ms Q bc bs (pc + 1) h loc (vl (Int64.ofNat n) :: st)) : AW M fr lo mc ms Q bc bs pc h loc st := by
  intro p l e s m args below meth c D dA B0 H0 C dom0 al0 al H locs cells slots ls hR hA hS hc hs ho hv hl
  exact lv_lconst C.1 C.2.1 hd rfl (k p l e s m args below meth c D dA B0 H0 C dom0 al0 al H locs cells slots ls hR hA hS hc hs ho (.cons trivial hv) hl)
theorem AW.ldc2 {i : Nat} {v : Int64} (hd : decode M.2.1 pc = .ok (.ldc2_w i, 3)) (hk : Cond.constantLong M.1.cls i v ∈ gtbl) (k : AW M fr lo mc ms Q bc bs (pc + 3) h loc (vl v :: st)) : AW M fr lo mc ms Q bc bs pc h loc st := by
  intro p l e s m args below meth c D dA B0 H0 C dom0 al0 al H locs cells slots ls hR hA hS hc hs ho hv hl
  exact lv_ldc2 C.1 C.2.1 C.2.2.2.2.1 (C.2.2.2.2.2.2.1 _ hk) hd (k p l e s m args below meth c D dA B0 H0 C dom0 al0 al H locs cells slots ls hR hA hS hc hs ho (.cons trivial hv) hl)
theorem AW.anull (hd : decode M.2.1 pc = .ok (.aconst_null, 1)) (k : AW M fr lo mc ms Q bc bs (pc + 1) h loc (vq none :: st)) : AW M fr lo mc ms Q bc bs pc h loc st := by
  intro p l e s m args below meth c D dA B0 H0 C dom0 al0 al H locs cells slots ls hR hA hS hc hs ho hv hl
  exact lv_null C.1 C.2.1 hd (k p l e s m args below meth c D dA B0 H0 C dom0 al0 al H locs cells slots ls hR hA hS hc hs ho (.cons (fun n z => by cases z) hv) hl)
/-! locals -/
theorem rl_get {al : Nm → Nat} {ls : Array Slot} {nL i : Nat} {v : AV} (hl : lv_has ls nL (rl al loc)) (hg : (i, v) ∈ loc) : ls[i]? = some (.val (rv al v)) :=
  hl.2.2 (i, rv al v) (List.mem_map.mpr ⟨(i, v), hg, rfl⟩)
/-- the value of a local -/
def lget (l : AL) (i : Nat) : Option AV := match l with
  | [] => none
  | q :: r => if q.1 = i then some q.2 else lget r i
theorem lget_mem : ∀ {l : AL} {i : Nat} {v : AV}, lget l i = some v → (i, v) ∈ l
  | [], _, _, h => by cases h
  | q :: r, i, v, h => by
    unfold lget at h
    split at h
    · next e => cases h; rw [← e]; exact List.mem_cons_self
    · exact List.mem_cons_of_mem _ (lget_mem h)
theorem AW.iload_n {j : Fin 4} {x : Int} (hd : decode M.2.1 pc = .ok (.iload_n j, 1)) (hg : lget loc j.val = some (vi x)) (k : AW M fr lo mc ms Q bc bs (pc + 1) h loc (vi x :: st)) : AW M fr lo mc ms Q bc bs pc h loc st := by
  intro p l e s m args below meth c D dA B0 H0 C dom0 al0 al H locs cells slots ls hR hA hS hc hs ho hv hl
  exact lv_iload_n C.1 C.2.1 hd rfl (rl_get hl (lget_mem hg)) (k p l e s m args below meth c D dA B0 H0 C dom0 al0 al H locs cells slots ls hR hA hS hc hs ho (.cons (ho _ (lget_mem hg)) hv) hl)
theorem AW.iload {j : Nat} {x : Int} (hd : decode M.2.1 pc = .ok (.iload j, 2)) (hg : lget loc j = some (vi x)) (k : AW M fr lo mc ms Q bc bs (pc + 2) h loc (vi x :: st)) : AW M fr lo mc ms Q bc bs pc h loc st := by
  intro p l e s m args below meth c D dA B0 H0 C dom0 al0 al H locs cells slots ls hR hA hS hc hs ho hv hl
  exact lv_iload C.1 C.2.1 hd (rl_get hl (lget_mem hg)) (k p l e s m args below meth c D dA B0 H0 C dom0 al0 al H locs cells slots ls hR hA hS hc hs ho (.cons (ho _ (lget_mem hg)) hv) hl)
theorem AW.lload_n {j : Fin 4} {x : Int64} (hd : decode M.2.1 pc = .ok (.lload_n j, 1)) (hg : lget loc j.val = some (vl x)) (k : AW M fr lo mc ms Q bc bs (pc + 1) h loc (vl x :: st)) : AW M fr lo mc ms Q bc bs pc h loc st := by
  intro p l e s m args below meth c D dA B0 H0 C dom0 al0 al H locs cells slots ls hR hA hS hc hs ho hv hl
  exact lv_lload_n C.1 C.2.1 hd rfl (rl_get hl (lget_mem hg)) (k p l e s m args below meth c D dA B0 H0 C dom0 al0 al H locs cells slots ls hR hA hS hc hs ho (.cons (ho _ (lget_mem hg)) hv) hl)
theorem AW.lload {j : Nat} {x : Int64} (hd : decode M.2.1 pc = .ok (.lload j, 2)) (hg : lget loc j = some (vl x)) (k : AW M fr lo mc ms Q bc bs (pc + 2) h loc (vl x :: st)) : AW M fr lo mc ms Q bc bs pc h loc st := by
  intro p l e s m args below meth c D dA B0 H0 C dom0 al0 al H locs cells slots ls hR hA hS hc hs ho hv hl
  exact lv_lload C.1 C.2.1 hd (rl_get hl (lget_mem hg)) (k p l e s m args below meth c D dA B0 H0 C dom0 al0 al H locs cells slots ls hR hA hS hc hs ho (.cons (ho _ (lget_mem hg)) hv) hl)
theorem AW.aload_n {j : Fin 4} {x : Option Nm} (hd : decode M.2.1 pc = .ok (.aload_n j, 1)) (hg : lget loc j.val = some (vq x)) (k : AW M fr lo mc ms Q bc bs (pc + 1) h loc (vq x :: st)) : AW M fr lo mc ms Q bc bs pc h loc st := by
  intro p l e s m args below meth c D dA B0 H0 C dom0 al0 al H locs cells slots ls hR hA hS hc hs ho hv hl
  have k' := k p l e s m args below meth c D dA B0 H0 C dom0 al0 al H locs cells slots ls hR hA hS hc hs ho (.cons (ho _ (lget_mem hg)) hv) hl
  have g := rl_get hl (lget_mem hg)
  cases x with
  | none => exact lv_aload_nN C.1 C.2.1 hd rfl g k'
  | some a => exact lv_aload_n C.1 C.2.1 hd rfl g k'
theorem AW.aload {j : Nat} {x : Option Nm} (hd : decode M.2.1 pc = .ok (.aload j, 2)) (hg : lget loc j = some (vq x)) (k : AW M fr lo mc ms Q bc bs (pc + 2) h loc (vq x :: st)) : AW M fr lo mc ms Q bc bs pc h loc st := by
  intro p l e s m args below meth c D dA B0 H0 C dom0 al0 al H locs cells slots ls hR hA hS hc hs ho hv hl
  have k' := k p l e s m args below meth c D dA B0 H0 C dom0 al0 al H locs cells slots ls hR hA hS hc hs ho (.cons (ho _ (lget_mem hg)) hv) hl
  have g := rl_get hl (lget_mem hg)
  cases x with
  | none => exact lv_aloadN C.1 C.2.1 hd g k'
  | some a => exact lv_aload C.1 C.2.1 hd g k'
theorem rl_lput {al : Nm → Nat} (i : Nat) (v : AV) : (i, rv al v) :: (rl al loc).filter (fun q => !(q.1 == i) && !(q.1 + 1 == i && q.2.category == 2)) = rl al (lput i v loc) := by
  show _ = (i, rv al v) :: rl al _
  rw [← rl_filter al loc (fun a b => !(a == i) && !(a + 1 == i && b))]
theorem rl_lput2 {al : Nm → Nat} (i : Nat) (v : AV) : (i, rv al v) :: (rl al loc).filter (fun q => !(q.1 == i) && (!(q.1 == i + 1) && !(q.1 + 1 == i && q.2.category == 2))) = rl al (lput2 i v loc) := by
  show _ = (i, rv al v) :: rl al _
  rw [← rl_filter al loc (fun a b => !(a == i) && (!(a == i + 1) && !(a + 1 == i && b)))]
theorem okl_lput {i : Nat} {v : AV} (ho : okl h loc) (hv : okv h v) : okl h (lput i v loc) := fun q hq => by
  rcases List.mem_cons.mp hq with rfl | z
  · exact hv
  · exact ho q (List.mem_filter.mp z).1
theorem okl_lput2 {i : Nat} {v : AV} (ho : okl h loc) (hv : okv h v) : okl h (lput2 i v loc) := fun q hq => by
  rcases List.mem_cons.mp hq with rfl | z
  · exact hv
  · exact ho q (List.mem_filter.mp z).1
theorem AW.istore_n {j : Fin 4} {x : Int} (hd : decode M.2.1 pc = .ok (.istore_n j, 1)) (hn : Nat.blt j.val M.2.2.1 = true) (k : AW M fr lo mc ms Q bc bs (pc + 1) h (lput j.val (vi x) loc) st) : AW M fr lo mc ms Q bc bs pc h loc (vi x :: st) := by
  intro p l e s m args below meth c D dA B0 H0 C dom0 al0 al H locs cells slots ls hR hA hS hc hs ho hv hl
  exact lv_istore_n C.1 C.2.1 hd rfl hl (Nat.le_of_ble_eq_true hn) (rl_lput j.val (vi x)) (fun ls hl => k p l e s m args below meth c D dA B0 H0 C dom0 al0 al H locs cells slots ls hR hA hS hc hs (okl_lput ho hv.hd) hv.tl hl)
theorem AW.istore {j : Nat} {x : Int} (hd : decode M.2.1 pc = .ok (.istore j, 2)) (hn : Nat.blt j M.2.2.1 = true) (k : AW M fr lo mc ms Q bc bs (pc + 2) h (lput j (vi x) loc) st) : AW M fr lo mc ms Q bc bs pc h loc (vi x :: st) := by
  intro p l e s m args below meth c D dA B0 H0 C dom0 al0 al H locs cells slots ls hR hA hS hc hs ho hv hl
  exact lv_istore C.1 C.2.1 hd hl (Nat.le_of_ble_eq_true hn) (rl_lput j (vi x)) (fun ls hl => k p l e s m args below meth c D dA B0 H0 C dom0 al0 al H locs cells slots ls hR hA hS hc hs (okl_lput ho hv.hd) hv.tl hl)
theorem AW.lstore_n {j : Fin 4} {x : Int64} (hd : decode M.2.1 pc = .ok (.lstore_n j, 1)) (hn : Nat.blt (j.val + 1) M.2.2.1 = true) (k : AW M fr lo mc ms Q bc bs (pc + 1) h (lput2 j.val (vl x) loc) st) : AW M fr lo mc ms Q bc bs pc h loc (vl x :: st) := by
  intro p l e s m args below meth c D dA B0 H0 C dom0 al0 al H locs cells slots ls hR hA hS hc hs ho hv hl
  exact lv_lstore_n C.1 C.2.1 hd rfl hl (Nat.le_of_ble_eq_true hn) (rl_lput2 j.val (vl x)) (fun ls hl => k p l e s m args below meth c D dA B0 H0 C dom0 al0 al H locs cells slots ls hR hA hS hc hs (okl_lput2 ho hv.hd) hv.tl hl)
theorem AW.lstore {j : Nat} {x : Int64} (hd : decode M.2.1 pc = .ok (.lstore j, 2)) (hn : Nat.blt (j + 1) M.2.2.1 = true) (k : AW M fr lo mc ms Q bc bs (pc + 2) h (lput2 j (vl x) loc) st) : AW M fr lo mc ms Q bc bs pc h loc (vl x :: st) := by
  intro p l e s m args below meth c D dA B0 H0 C dom0 al0 al H locs cells slots ls hR hA hS hc hs ho hv hl
  exact lv_lstore C.1 C.2.1 hd hl (Nat.le_of_ble_eq_true hn) (rl_lput2 j (vl x)) (fun ls hl => k p l e s m args below meth c D dA B0 H0 C dom0 al0 al H locs cells slots ls hR hA hS hc hs (okl_lput2 ho hv.hd) hv.tl hl)
theorem AW.astore_n {j : Fin 4} {x : Option Nm} (hd : decode M.2.1 pc = .ok (.astore_n j, 1)) (hn : Nat.blt j.val M.2.2.1 = true) (k : AW M fr lo mc ms Q bc bs (pc + 1) h (lput j.val (vq x) loc) st) : AW M fr lo mc ms Q bc bs pc h loc (vq x :: st) := by
  intro p l e s m args below meth c D dA B0 H0 C dom0 al0 al H locs cells slots ls hR hA hS hc hs ho hv hl
  have k' := fun ls hl => k p l e s m args below meth c D dA B0 H0 C dom0 al0 al H locs cells slots ls hR hA hS hc hs (okl_lput ho hv.hd) hv.tl hl
  cases x with
  | none => exact lv_astore_nN C.1 C.2.1 hd rfl hl (Nat.le_of_ble_eq_true hn) (rl_lput j.val (vq none)) k'
  | some a => exact lv_astore_n C.1 C.2.1 hd rfl hl (Nat.le_of_ble_eq_true hn) (rl_lput j.val (vq (some a))) k'
theorem AW.astore {j : Nat} {x : Option Nm} (hd : decode M.2.1 pc = .ok (.astore j, 2)) (hn : Nat.blt j M.2.2.1 = true) (k : AW M fr lo mc ms Q bc bs (pc + 2) h (lput j (vq x) loc) st) : AW M fr lo mc ms Q bc bs pc h loc (vq x :: st) := by
  intro p l e s m args below meth c D dA B0 H0 C dom0 al0 al H locs cells slots ls hR hA hS hc hs ho hv hl
  have k' := fun ls hl => k p l e s m args below meth c D dA B0 H0 C dom0 al0 al H locs cells slots ls hR hA hS hc hs (okl_lput ho hv.hd) hv.tl hl
  cases x with
  | none => exact lv_astoreN C.1 C.2.1 hd hl (Nat.le_of_ble_eq_true hn) (rl_lput j (vq none)) k'
  | some a => exact lv_astore C.1 C.2.1 hd hl (Nat.le_of_ble_eq_true hn) (rl_lput j (vq (some a))) k'
theorem AW.iinc {j : Nat} {n : Int} {x : Int} (hd : decode M.2.1 pc = .ok (.iinc j n, 3)) (hn : Nat.blt j M.2.2.1 = true) (hg : lget loc j = some (vi x)) (k : AW M fr lo mc ms Q bc bs (pc + 3) h (lput j (vi (wr (x + n))) loc) st) : AW M fr lo mc ms Q bc bs pc h loc st := by
  intro p l e s m args below meth c D dA B0 H0 C dom0 al0 al H locs cells slots ls hR hA hS hc hs ho hv hl
  obtain ⟨q, hq⟩ := List.getElem?_of_mem (lget_mem hg)
  have hq' : (rl al loc)[q]? = some (j, .int (Int32.ofInt x)) := by
    show (loc.map _)[q]? = _
    rw [List.getElem?_map, hq]; rfl
  exact lv_iinc (v := Int32.ofInt (wr (x + n))) C.1 C.2.1 hd hl hq' (by rw [i32_wr, Int32.ofInt_add]) (Nat.le_of_ble_eq_true hn) (rl_lput j (vi (wr (x + n)))) (fun ls hl => k p l e s m args below meth c D dA B0 H0 C dom0 al0 al H locs cells slots ls hR hA hS hc hs (okl_lput ho (inR_wr _)) hv hl)
/-! arithmetic -/
theorem AW.iadd {x y : Int} (hd : decode M.2.1 pc = .ok (.iadd, 1)) (k : AW M fr lo mc ms Q bc bs (pc + 1) h loc (vi (wr (x + y)) :: st)) : AW M fr lo mc ms Q bc bs pc h loc (vi y :: vi x :: st) := by
  intro p l e s m args below meth c D dA B0 H0 C dom0 al0 al H locs cells slots ls hR hA hS hc hs ho hv hl
  refine lv_iadd C.1 C.2.1 hd ?_
  rw [← Int32.ofInt_add, ← i32_wr (x + y)]
  exact k p l e s m args below meth c D dA B0 H0 C dom0 al0 al H locs cells slots ls hR hA hS hc hs ho (.cons (inR_wr _) hv.tl.tl) hl
theorem AW.isub {x y : Int} (hd : decode M.2.1 pc = .ok (.isub, 1)) (k : AW M fr lo mc ms Q bc bs (pc + 1) h loc (vi (wr (x - y)) :: st)) : AW M fr lo mc ms Q bc bs pc h loc (vi y :: vi x :: st) := by
  intro p l e s m args below meth c D dA B0 H0 C dom0 al0 al H locs cells slots ls hR hA hS hc hs ho hv hl
  refine lv_isub C.1 C.2.1 hd ?_
  rw [← Int32.ofInt_sub, ← i32_wr (x - y)]
  exact k p l e s m args below meth c D dA B0 H0 C dom0 al0 al H locs cells slots ls hR hA hS hc hs ho (.cons (inR_wr _) hv.tl.tl) hl
theorem AW.imul {x y : Int} (hd : decode M.2.1 pc = .ok (.imul, 1)) (k : AW M fr lo mc ms Q bc bs (pc + 1) h loc (vi (wr (x * y)) :: st)) : AW M fr lo mc ms Q bc bs pc h loc (vi y :: vi x :: st) := by
  intro p l e s m args below meth c D dA B0 H0 C dom0 al0 al H locs cells slots ls hR hA hS hc hs ho hv hl
  refine lv_imul C.1 C.2.1 hd ?_
  rw [← Int32.ofInt_mul, ← i32_wr (x * y)]
  exact k p l e s m args below meth c D dA B0 H0 C dom0 al0 al H locs cells slots ls hR hA hS hc hs ho (.cons (inR_wr _) hv.tl.tl) hl
theorem AW.ineg {x : Int} (hd : decode M.2.1 pc = .ok (.ineg, 1)) (k : AW M fr lo mc ms Q bc bs (pc + 1) h loc (vi (wr (-x)) :: st)) : AW M fr lo mc ms Q bc bs pc h loc (vi x :: st) := by
  intro p l e s m args below meth c D dA B0 H0 C dom0 al0 al H locs cells slots ls hR hA hS hc hs ho hv hl
  refine lv_ineg C.1 C.2.1 hd ?_
  rw [show -Int32.ofInt x = Int32.ofInt (wr (-x)) from by rw [i32_wr, Int32.ofInt_neg]]
  exact k p l e s m args below meth c D dA B0 H0 C dom0 al0 al H locs cells slots ls hR hA hS hc hs ho (.cons (inR_wr _) hv.tl) hl
theorem i32_ne0 {y : Int} (hy : inR y) (h : ¬ y = 0) : ¬ Int32.ofInt y = 0 := by
  intro e
  exact h ((i32_eq hy ⟨by omega, by omega⟩).mp (e.trans (by decide : (0 : Int32) = Int32.ofInt 0)))
theorem AW.idiv {x y : Int} (hd : decode M.2.1 pc = .ok (.idiv, 1)) (hy : 0 < y) (k : AW M fr lo mc ms Q bc bs (pc + 1) h loc (vi (x.tdiv y) :: st)) : AW M fr lo mc ms Q bc bs pc h loc (vi y :: vi x :: st) := by
  intro p l e s m args below meth c D dA B0 H0 C dom0 al0 al H locs cells slots ls hR hA hS hc hs ho hv hl
  have hy1 : inR y := hv.hd
  have hx1 : inR x := hv.tl.hd
  refine lv_idiv C.1 C.2.1 hd (i32_ne0 hy1 (by omega)) ?_
  rw [i32_div hx1 hy1 hy]
  exact k p l e s m args below meth c D dA B0 H0 C dom0 al0 al H locs cells slots ls hR hA hS hc hs ho (.cons (inR_tdiv hx1 hy) hv.tl.tl) hl
theorem AW.irem {x y : Int} (hd : decode M.2.1 pc = .ok (.irem, 1)) (hy : 0 < y) (k : AW M fr lo mc ms Q bc bs (pc + 1) h loc (vi (x.tmod y) :: st)) : AW M fr lo mc ms Q bc bs pc h loc (vi y :: vi x :: st) := by
  intro p l e s m args below meth c D dA B0 H0 C dom0 al0 al H locs cells slots ls hR hA hS hc hs ho hv hl
  have hy1 : inR y := hv.hd
  have hx1 : inR x := hv.tl.hd
  refine lv_irem C.1 C.2.1 hd (i32_ne0 hy1 (by omega)) ?_
  rw [i32_rem hx1 hy1 hy]
  exact k p l e s m args below meth c D dA B0 H0 C dom0 al0 al H locs cells slots ls hR hA hS hc hs ho (.cons (inR_tmod hx1 hy1 hy) hv.tl.tl) hl
/-- a bit of a number, below 32 -/
theorem AW.iand {x y : Int} (hd : decode M.2.1 pc = .ok (.iand, 1)) (k : AW M fr lo mc ms Q bc bs (pc + 1) h loc (vi (Int32.ofInt x &&& Int32.ofInt y).toInt :: st)) : AW M fr lo mc ms Q bc bs pc h loc (vi y :: vi x :: st) := by
  intro p l e s m args below meth c D dA B0 H0 C dom0 al0 al H locs cells slots ls hR hA hS hc hs ho hv hl
  refine lv_iand C.1 C.2.1 hd ?_
  rw [← Int32.ofInt_toInt (Int32.ofInt x &&& Int32.ofInt y)]
  exact k p l e s m args below meth c D dA B0 H0 C dom0 al0 al H locs cells slots ls hR hA hS hc hs ho (.cons (inR_i32 _) hv.tl.tl) hl
theorem AW.i2l {x : Int} (hd : decode M.2.1 pc = .ok (.i2l, 1)) (k : AW M fr lo mc ms Q bc bs (pc + 1) h loc (vl (Int64.ofInt x) :: st)) : AW M fr lo mc ms Q bc bs pc h loc (vi x :: st) := by
  intro p l e s m args below meth c D dA B0 H0 C dom0 al0 al H locs cells slots ls hR hA hS hc hs ho hv hl
  have hx1 : inR x := hv.hd
  refine lv_i2l (v := Int64.ofInt x) C.1 C.2.1 hd ?_ (k p l e s m args below meth c D dA B0 H0 C dom0 al0 al H locs cells slots ls hR hA hS hc hs ho (.cons trivial hv.tl) hl)
  apply Int64.toInt_inj.mp
  rw [Int32.toInt_toInt64, i32_back hx1, Int64.toInt_ofInt_of_le (by have := hx1.1; omega) (by have := hx1.2; omega)]
theorem AW.i2c {x : Int} (hd : decode M.2.1 pc = .ok (.i2c, 1)) (hx : 0 ≤ x ∧ x < 65536) (k : AW M fr lo mc ms Q bc bs (pc + 1) h loc (vi x :: st)) : AW M fr lo mc ms Q bc bs pc h loc (vi x :: st) := by
  intro p l e s m args below meth c D dA B0 H0 C dom0 al0 al H locs cells slots ls hR hA hS hc hs ho hv hl
  refine lv_i2c (v := Int32.ofInt x) C.1 C.2.1 hd ?_ (k p l e s m args below meth c D dA B0 H0 C dom0 al0 al H locs cells slots ls hR hA hS hc hs ho hv hl)
  obtain ⟨n, rfl⟩ := Int.eq_ofNat_of_zero_le hx.1
  have hn : n < 65536 := by omega
  rw [pk_char]
  have e : (Int32.ofInt (n : Int)).toBitVec.toNat = n := by
    show (BitVec.ofInt 32 (n : Int)).toNat = n
    rw [BitVec.toNat_ofInt]
    omega
  rw [e, Nat.mod_eq_of_lt hn]
  rfl
/-! longs -/
theorem AW.land {x y : Int64} (hd : decode M.2.1 pc = .ok (.land, 1)) (k : AW M fr lo mc ms Q bc bs (pc + 1) h loc (vl (x &&& y) :: st)) : AW M fr lo mc ms Q bc bs pc h loc (vl y :: vl x :: st) := by
  intro p l e s m args below meth c D dA B0 H0 C dom0 al0 al H locs cells slots ls hR hA hS hc hs ho hv hl
  exact lv_land C.1 C.2.1 hd (k p l e s m args below meth c D dA B0 H0 C dom0 al0 al H locs cells slots ls hR hA hS hc hs ho (.cons trivial hv.tl.tl) hl)
theorem AW.lor {x y : Int64} (hd : decode M.2.1 pc = .ok (.lor, 1)) (k : AW M fr lo mc ms Q bc bs (pc + 1) h loc (vl (x ||| y) :: st)) : AW M fr lo mc ms Q bc bs pc h loc (vl y :: vl x :: st) := by
  intro p l e s m args below meth c D dA B0 H0 C dom0 al0 al H locs cells slots ls hR hA hS hc hs ho hv hl
  exact lv_lor C.1 C.2.1 hd (k p l e s m args below meth c D dA B0 H0 C dom0 al0 al H locs cells slots ls hR hA hS hc hs ho (.cons trivial hv.tl.tl) hl)
theorem AW.lxor {x y : Int64} (hd : decode M.2.1 pc = .ok (.lxor, 1)) (k : AW M fr lo mc ms Q bc bs (pc + 1) h loc (vl (x ^^^ y) :: st)) : AW M fr lo mc ms Q bc bs pc h loc (vl y :: vl x :: st) := by
  intro p l e s m args below meth c D dA B0 H0 C dom0 al0 al H locs cells slots ls hR hA hS hc hs ho hv hl
  exact lv_lxor C.1 C.2.1 hd (k p l e s m args below meth c D dA B0 H0 C dom0 al0 al H locs cells slots ls hR hA hS hc hs ho (.cons trivial hv.tl.tl) hl)
/-- a bit by its number -/
theorem AW.lshl {x : Int64} {y : Int} (hd : decode M.2.1 pc = .ok (.lshl, 1)) (hy : 0 ≤ y ∧ y < 64) (k : AW M fr lo mc ms Q bc bs (pc + 1) h loc (vl (x <<< Int64.ofInt y) :: st)) : AW M fr lo mc ms Q bc bs pc h loc (vi y :: vl x :: st) := by
  intro p l e s m args below meth c D dA B0 H0 C dom0 al0 al H locs cells slots ls hR hA hS hc hs ho hv hl
  refine lv_lshl (v := x <<< Int64.ofInt y) C.1 C.2.1 hd ?_ (k p l e s m args below meth c D dA B0 H0 C dom0 al0 al H locs cells slots ls hR hA hS hc hs ho (.cons trivial hv.tl.tl) hl)
  obtain ⟨n, rfl⟩ := Int.eq_ofNat_of_zero_le hy.1
  have hn : n < 64 := by omega
  have : ∀ n : Fin 64, ((Int32.ofInt ((n.val : Nat) : Int)).toInt64 &&& 63) = Int64.ofInt ((n.val : Nat) : Int) := by decide +kernel
  rw [this ⟨n, hn⟩]
def lcm (x y : Int64) : Int := if y < x then 1 else if x = y then 0 else -1
theorem lcm_z {x y : Int64} : lcm x y = 0 ↔ x = y := by
  unfold lcm
  constructor
  · intro e
    split at e
    · cases e
    · split at e
      · assumption
      · cases e
  · rintro rfl
    rw [if_neg (fun w => Int64.lt_irrefl w), if_pos rfl]
theorem AW.lcmp {x y : Int64} (hd : decode M.2.1 pc = .ok (.lcmp, 1)) (k : AW M fr lo mc ms Q bc bs (pc + 1) h loc (vi (lcm x y) :: st)) : AW M fr lo mc ms Q bc bs pc h loc (vl y :: vl x :: st) := by
  intro p l e s m args below meth c D dA B0 H0 C dom0 al0 al H locs cells slots ls hR hA hS hc hs ho hv hl
  refine W.lcmp C.1 C.2.1 hd ?_
  have e9 : lg_cmp x y = Int32.ofInt (lcm x y) := by
    unfold lg_cmp lcm
    split
    · rfl
    · split <;> rfl
  rw [e9]
  refine k p l e s m args below meth c D dA B0 H0 C dom0 al0 al H locs cells slots ls hR hA hS hc hs ho (.cons ?_ hv.tl.tl) hl
  show inR (lcm x y)
  unfold lcm
  split
  · exact ⟨by omega, by omega⟩
  · split <;> exact ⟨by omega, by omega⟩
/-! the stack -/
theorem rv_cat1 {al : Nm → Nat} {v : AV} (h : cat2 v = false) : (rv al v).category = 1 := by
  rcases v with x | x | o
  · rfl
  · cases h
  · cases o <;> rfl
theorem AW.dup {v : AV} (hd : decode M.2.1 pc = .ok (.dup, 1)) (hc2 : cat2 v = false) (k : AW M fr lo mc ms Q bc bs (pc + 1) h loc (v :: v :: st)) : AW M fr lo mc ms Q bc bs pc h loc (v :: st) := by
  intro p l e s m args below meth c D dA B0 H0 C dom0 al0 al H locs cells slots ls hR hA hS hc hs ho hv hl
  exact lv_dup C.1 C.2.1 hd (rv_cat1 hc2) (k p l e s m args below meth c D dA B0 H0 C dom0 al0 al H locs cells slots ls hR hA hS hc hs ho (.cons hv.hd hv) hl)
theorem AW.pop {v : AV} (hd : decode M.2.1 pc = .ok (.pop, 1)) (hc2 : cat2 v = false) (k : AW M fr lo mc ms Q bc bs (pc + 1) h loc st) : AW M fr lo mc ms Q bc bs pc h loc (v :: st) := by
  intro p l e s m args below meth c D dA B0 H0 C dom0 al0 al H locs cells slots ls hR hA hS hc hs ho hv hl
  exact lv_pop C.1 C.2.1 hd (rv_cat1 hc2) (k p l e s m args below meth c D dA B0 H0 C dom0 al0 al H locs cells slots ls hR hA hS hc hs ho hv.tl hl)
theorem AW.dup2 {v w : AV} (hd : decode M.2.1 pc = .ok (.dup2, 1)) (h1 : cat2 v = false) (h2 : cat2 w = false) (k : AW M fr lo mc ms Q bc bs (pc + 1) h loc (v :: w :: v :: w :: st)) : AW M fr lo mc ms Q bc bs pc h loc (v :: w :: st) := by
  intro p l e s m args below meth c D dA B0 H0 C dom0 al0 al H locs cells slots ls hR hA hS hc hs ho hv hl
  exact lv_dup2_11 C.1 C.2.1 hd (rv_cat1 h1) (rv_cat1 h2) (k p l e s m args below meth c D dA B0 H0 C dom0 al0 al H locs cells slots ls hR hA hS hc hs ho (.cons hv.hd (.cons hv.tl.hd hv)) hl)
/-! branches -/
theorem tgt_eq {pc tgt : Nat} {o : Int} (h : Nat.beq (pc + o.toNat) (tgt + (-o).toNat) = true) : (pc : Int) + o = (tgt : Int) := by
  have := Nat.eq_of_beq_eq_true h
  omega
theorem AW.goto {o : Int} {tgt : Nat} (hd : decode M.2.1 pc = .ok (.goto o, 3)) (ht : Nat.beq (pc + o.toNat) (tgt + (-o).toNat) = true) (k : AW M fr lo mc ms Q bc bs tgt h loc st) : AW M fr lo mc ms Q bc bs pc h loc st := by
  intro p l e s m args below meth c D dA B0 H0 C dom0 al0 al H locs cells slots ls hR hA hS hc hs ho hv hl
  exact lv_goto C.1 C.2.1 hd (tgt_eq ht) (k p l e s m args below meth c D dA B0 H0 C dom0 al0 al H locs cells slots ls hR hA hS hc hs ho hv hl)
theorem i32_z {x : Int} (hx : inR x) : Int32.ofInt x = 0 ↔ x = 0 := by
  rw [show (0 : Int32) = Int32.ofInt 0 from by decide]; exact i32_eq hx ⟨by omega, by omega⟩
theorem i32_ltz {x : Int} (hx : inR x) : Int32.ofInt x < 0 ↔ x < 0 := by
  rw [show (0 : Int32) = Int32.ofInt 0 from by decide]; exact i32_lt hx ⟨by omega, by omega⟩
theorem i32_lez {x : Int} (hx : inR x) : Int32.ofInt x ≤ 0 ↔ x ≤ 0 := by
  rw [show (0 : Int32) = Int32.ofInt 0 from by decide]; exact i32_le hx ⟨by omega, by omega⟩
theorem i32_gtz {x : Int} (hx : inR x) : (0 : Int32) < Int32.ofInt x ↔ 0 < x := by
  rw [show (0 : Int32) = Int32.ofInt 0 from by decide]; exact i32_lt ⟨by omega, by omega⟩ hx
theorem i32_gez {x : Int} (hx : inR x) : (0 : Int32) ≤ Int32.ofInt x ↔ 0 ≤ x := by
  rw [show (0 : Int32) = Int32.ofInt 0 from by decide]; exact i32_le ⟨by omega, by omega⟩ hx
theorem AW.if_eq {x o : Int} {tgt : Nat} (hd : decode M.2.1 pc = .ok (.ifCond .eq o, 3)) (ht : Nat.beq (pc + o.toNat) (tgt + (-o).toNat) = true) (kt : x = 0 → AW M fr lo mc ms Q bc bs tgt h loc st) (kf : ¬ x = 0 → AW M fr lo mc ms Q bc bs (pc + 3) h loc st) : AW M fr lo mc ms Q bc bs pc h loc (vi x :: st) := by
  intro p l e s m args below meth c D dA B0 H0 C dom0 al0 al H locs cells slots ls hR hA hS hc hs ho hv hl
  have hx : inR x := hv.hd
  exact lv_if_eq C.1 C.2.1 hd (tgt_eq ht) (fun q => kt ((i32_z hx).mp q) p l e s m args below meth c D dA B0 H0 C dom0 al0 al H locs cells slots ls hR hA hS hc hs ho hv.tl hl) (fun q => kf (fun w => q ((i32_z hx).mpr w)) p l e s m args below meth c D dA B0 H0 C dom0 al0 al H locs cells slots ls hR hA hS hc hs ho hv.tl hl)
theorem AW.icmp_eq {x y o : Int} {tgt : Nat} (hd : decode M.2.1 pc = .ok (.if_icmp .eq o, 3)) (ht : Nat.beq (pc + o.toNat) (tgt + (-o).toNat) = true) (kt : x = y → AW M fr lo mc ms Q bc bs tgt h loc st) (kf : ¬ x = y → AW M fr lo mc ms Q bc bs (pc + 3) h loc st) : AW M fr lo mc ms Q bc bs pc h loc (vi y :: vi x :: st) := by
  intro p l e s m args below meth c D dA B0 H0 C dom0 al0 al H locs cells slots ls hR hA hS hc hs ho hv hl
  have hy : inR y := hv.hd
  have hx : inR x := hv.tl.hd
  exact lv_icmp_eq C.1 C.2.1 hd (tgt_eq ht) (fun q => kt ((i32_eq hx hy).mp q) p l e s m args below meth c D dA B0 H0 C dom0 al0 al H locs cells slots ls hR hA hS hc hs ho hv.tl.tl hl) (fun q => kf (fun w => q ((i32_eq hx hy).mpr w)) p l e s m args below meth c D dA B0 H0 C dom0 al0 al H locs cells slots ls hR hA hS hc hs ho hv.tl.tl hl)
theorem AW.if_ne {x o : Int} {tgt : Nat} (hd : decode M.2.1 pc = .ok (.ifCond .ne o, 3)) (ht : Nat.beq (pc + o.toNat) (tgt + (-o).toNat) = true) (kt : ¬ x = 0 → AW M fr lo mc ms Q bc bs tgt h loc st) (kf : x = 0 → AW M fr lo mc ms Q bc bs (pc + 3) h loc st) : AW M fr lo mc ms Q bc bs pc h loc (vi x :: st) := by
  intro p l e s m args below meth c D dA B0 H0 C dom0 al0 al H locs cells slots ls hR hA hS hc hs ho hv hl
  have hx : inR x := hv.hd
  exact lv_if_ne C.1 C.2.1 hd (tgt_eq ht) (fun q => kt (fun w => q ((i32_z hx).mpr w)) p l e s m args below meth c D dA B0 H0 C dom0 al0 al H locs cells slots ls hR hA hS hc hs ho hv.tl hl) (fun q => kf ((i32_z hx).mp q) p l e s m args below meth c D dA B0 H0 C dom0 al0 al H locs cells slots ls hR hA hS hc hs ho hv.tl hl)
theorem AW.icmp_ne {x y o : Int} {tgt : Nat} (hd : decode M.2.1 pc = .ok (.if_icmp .ne o, 3)) (ht : Nat.beq (pc + o.toNat) (tgt + (-o).toNat) = true) (kt : ¬ x = y → AW M fr lo mc ms Q bc bs tgt h loc st) (kf : x = y → AW M fr lo mc ms Q bc bs (pc + 3) h loc st) : AW M fr lo mc ms Q bc bs pc h loc (vi y :: vi x :: st) := by
  intro p l e s m args below meth c D dA B0 H0 C dom0 al0 al H locs cells slots ls hR hA hS hc hs ho hv hl
  have hy : inR y := hv.hd
  have hx : inR x := hv.tl.hd
  exact lv_icmp_ne C.1 C.2.1 hd (tgt_eq ht) (fun q => kt (fun w => q ((i32_eq hx hy).mpr w)) p l e s m args below meth c D dA B0 H0 C dom0 al0 al H locs cells slots ls hR hA hS hc hs ho hv.tl.tl hl) (fun q => kf ((i32_eq hx hy).mp q) p l e s m args below meth c D dA B0 H0 C dom0 al0 al H locs cells slots ls hR hA hS hc hs ho hv.tl.tl hl)
theorem AW.if_lt {x o : Int} {tgt : Nat} (hd : decode M.2.1 pc = .ok (.ifCond .lt o, 3)) (ht : Nat.beq (pc + o.toNat) (tgt + (-o).toNat) = true) (kt : x < 0 → AW M fr lo mc ms Q bc bs tgt h loc st) (kf : 0 ≤ x → AW M fr lo mc ms Q bc bs (pc + 3) h loc st) : AW M fr lo mc ms Q bc bs pc h loc (vi x :: st) := by
  intro p l e s m args below meth c D dA B0 H0 C dom0 al0 al H locs cells slots ls hR hA hS hc hs ho hv hl
  have hx : inR x := hv.hd
  exact lv_if_lt C.1 C.2.1 hd (tgt_eq ht) (fun q => kt ((i32_ltz hx).mp q) p l e s m args below meth c D dA B0 H0 C dom0 al0 al H locs cells slots ls hR hA hS hc hs ho hv.tl hl) (fun q => kf (Int.not_lt.mp (fun w => q ((i32_ltz hx).mpr w))) p l e s m args below meth c D dA B0 H0 C dom0 al0 al H locs cells slots ls hR hA hS hc hs ho hv.tl hl)
theorem AW.icmp_lt {x y o : Int} {tgt : Nat} (hd : decode M.2.1 pc = .ok (.if_icmp .lt o, 3)) (ht : Nat.beq (pc + o.toNat) (tgt + (-o).toNat) = true) (kt : x < y → AW M fr lo mc ms Q bc bs tgt h loc st) (kf : y ≤ x → AW M fr lo mc ms Q bc bs (pc + 3) h loc st) : AW M fr lo mc ms Q bc bs pc h loc (vi y :: vi x :: st) := by
  intro p l e s m args below meth c D dA B0 H0 C dom0 al0 al H locs cells slots ls hR hA hS hc hs ho hv hl
  have hy : inR y := hv.hd
  have hx : inR x := hv.tl.hd
  exact lv_icmp_lt C.1 C.2.1 hd (tgt_eq ht) (fun q => kt ((i32_lt hx hy).mp q) p l e s m args below meth c D dA B0 H0 C dom0 al0 al H locs cells slots ls hR hA hS hc hs ho hv.tl.tl hl) (fun q => kf (Int.not_lt.mp (fun w => q ((i32_lt hx hy).mpr w))) p l e s m args below meth c D dA B0 H0 C dom0 al0 al H locs cells slots ls hR hA hS hc hs ho hv.tl.tl hl)
theorem AW.if_ge {x o : Int} {tgt : Nat} (hd : decode M.2.1 pc = .ok (.ifCond .ge o, 3)) (ht : Nat.beq (pc + o.toNat) (tgt + (-o).toNat) = true) (kt : 0 ≤ x → AW M fr lo mc ms Q bc bs tgt h loc st) (kf : x < 0 → AW M fr lo mc ms Q bc bs (pc + 3) h loc st) : AW M fr lo mc ms Q bc bs pc h loc (vi x :: st) := by
  intro p l e s m args below meth c D dA B0 H0 C dom0 al0 al H locs cells slots ls hR hA hS hc hs ho hv hl
  have hx : inR x := hv.hd
  exact lv_if_ge C.1 C.2.1 hd (tgt_eq ht) (fun q => kt ((i32_gez hx).mp q) p l e s m args below meth c D dA B0 H0 C dom0 al0 al H locs cells slots ls hR hA hS hc hs ho hv.tl hl) (fun q => kf (Int.not_le.mp (fun w => q ((i32_gez hx).mpr w))) p l e s m args below meth c D dA B0 H0 C dom0 al0 al H locs cells slots ls hR hA hS hc hs ho hv.tl hl)
theorem AW.icmp_ge {x y o : Int} {tgt : Nat} (hd : decode M.2.1 pc = .ok (.if_icmp .ge o, 3)) (ht : Nat.beq (pc + o.toNat) (tgt + (-o).toNat) = true) (kt : y ≤ x → AW M fr lo mc ms Q bc bs tgt h loc st) (kf : x < y → AW M fr lo mc ms Q bc bs (pc + 3) h loc st) : AW M fr lo mc ms Q bc bs pc h loc (vi y :: vi x :: st) := by
  intro p l e s m args below meth c D dA B0 H0 C dom0 al0 al H locs cells slots ls hR hA hS hc hs ho hv hl
  have hy : inR y := hv.hd
  have hx : inR x := hv.tl.hd
  exact lv_icmp_ge C.1 C.2.1 hd (tgt_eq ht) (fun q => kt ((i32_le hy hx).mp q) p l e s m args below meth c D dA B0 H0 C dom0 al0 al H locs cells slots ls hR hA hS hc hs ho hv.tl.tl hl) (fun q => kf (Int.not_le.mp (fun w => q ((i32_le hy hx).mpr w))) p l e s m args below meth c D dA B0 H0 C dom0 al0 al H locs cells slots ls hR hA hS hc hs ho hv.tl.tl hl)
theorem AW.if_gt {x o : Int} {tgt : Nat} (hd : decode M.2.1 pc = .ok (.ifCond .gt o, 3)) (ht : Nat.beq (pc + o.toNat) (tgt + (-o).toNat) = true) (kt : 0 < x → AW M fr lo mc ms Q bc bs tgt h loc st) (kf : x ≤ 0 → AW M fr lo mc ms Q bc bs (pc + 3) h loc st) : AW M fr lo mc ms Q bc bs pc h loc (vi x :: st) := by
  intro p l e s m args below meth c D dA B0 H0 C dom0 al0 al H locs cells slots ls hR hA hS hc hs ho hv hl
  have hx : inR x := hv.hd
  exact lv_if_gt C.1 C.2.1 hd (tgt_eq ht) (fun q => kt ((i32_gtz hx).mp q) p l e s m args below meth c D dA B0 H0 C dom0 al0 al H locs cells slots ls hR hA hS hc hs ho hv.tl hl) (fun q => kf (Int.not_lt.mp (fun w => q ((i32_gtz hx).mpr w))) p l e s m args below meth c D dA B0 H0 C dom0 al0 al H locs cells slots ls hR hA hS hc hs ho hv.tl hl)
theorem AW.icmp_gt {x y o : Int} {tgt : Nat} (hd : decode M.2.1 pc = .ok (.if_icmp .gt o, 3)) (ht : Nat.beq (pc + o.toNat) (tgt + (-o).toNat) = true) (kt : y < x → AW M fr lo mc ms Q bc bs tgt h loc st) (kf : x ≤ y → AW M fr lo mc ms Q bc bs (pc + 3) h loc st) : AW M fr lo mc ms Q bc bs pc h loc (vi y :: vi x :: st) := by
  intro p l e s m args below meth c D dA B0 H0 C dom0 al0 al H locs cells slots ls hR hA hS hc hs ho hv hl
  have hy : inR y := hv.hd
  have hx : inR x := hv.tl.hd
  exact lv_icmp_gt C.1 C.2.1 hd (tgt_eq ht) (fun q => kt ((i32_lt hy hx).mp q) p l e s m args below meth c D dA B0 H0 C dom0 al0 al H locs cells slots ls hR hA hS hc hs ho hv.tl.tl hl) (fun q => kf (Int.not_lt.mp (fun w => q ((i32_lt hy hx).mpr w))) p l e s m args below meth c D dA B0 H0 C dom0 al0 al H locs cells slots ls hR hA hS hc hs ho hv.tl.tl hl)
theorem AW.if_le {x o : Int} {tgt : Nat} (hd : decode M.2.1 pc = .ok (.ifCond .le o, 3)) (ht : Nat.beq (pc + o.toNat) (tgt + (-o).toNat) = true) (kt : x ≤ 0 → AW M fr lo mc ms Q bc bs tgt h loc st) (kf : 0 < x → AW M fr lo mc ms Q bc bs (pc + 3) h loc st) : AW M fr lo mc ms Q bc bs pc h loc (vi x :: st) := by
  intro p l e s m args below meth c D dA B0 H0 C dom0 al0 al H locs cells slots ls hR hA hS hc hs ho hv hl
  have hx : inR x := hv.hd
  exact lv_if_le C.1 C.2.1 hd (tgt_eq ht) (fun q => kt ((i32_lez hx).mp q) p l e s m args below meth c D dA B0 H0 C dom0 al0 al H locs cells slots ls hR hA hS hc hs ho hv.tl hl) (fun q => kf (Int.not_le.mp (fun w => q ((i32_lez hx).mpr w))) p l e s m args below meth c D dA B0 H0 C dom0 al0 al H locs cells slots ls hR hA hS hc hs ho hv.tl hl)
theorem AW.icmp_le {x y o : Int} {tgt : Nat} (hd : decode M.2.1 pc = .ok (.if_icmp .le o, 3)) (ht : Nat.beq (pc + o.toNat) (tgt + (-o).toNat) = true) (kt : x ≤ y → AW M fr lo mc ms Q bc bs tgt h loc st) (kf : y < x → AW M fr lo mc ms Q bc bs (pc + 3) h loc st) : AW M fr lo mc ms Q bc bs pc h loc (vi y :: vi x :: st) := by
  intro p l e s m args below meth c D dA B0 H0 C dom0 al0 al H locs cells slots ls hR hA hS hc hs ho hv hl
  have hy : inR y := hv.hd
  have hx : inR x := hv.tl.hd
  exact lv_icmp_le C.1 C.2.1 hd (tgt_eq ht) (fun q => kt ((i32_le hx hy).mp q) p l e s m args below meth c D dA B0 H0 C dom0 al0 al H locs cells slots ls hR hA hS hc hs ho hv.tl.tl hl) (fun q => kf (Int.not_le.mp (fun w => q ((i32_le hx hy).mpr w))) p l e s m args below meth c D dA B0 H0 C dom0 al0 al H locs cells slots ls hR hA hS hc hs ho hv.tl.tl hl)
theorem AW.ifnull {x : Option Nm} {o : Int} {tgt : Nat} (hd : decode M.2.1 pc = .ok (.ifnull o, 3)) (ht : Nat.beq (pc + o.toNat) (tgt + (-o).toNat) = true) (kt : x = none → AW M fr lo mc ms Q bc bs tgt h loc st) (kf : ∀ n, x = some n → AW M fr lo mc ms Q bc bs (pc + 3) h loc st) : AW M fr lo mc ms Q bc bs pc h loc (vq x :: st) := by
  intro p l e s m args below meth c D dA B0 H0 C dom0 al0 al H locs cells slots ls hR hA hS hc hs ho hv hl
  cases x with
  | none => exact lv_ifnullN C.1 C.2.1 hd (tgt_eq ht) (kt rfl p l e s m args below meth c D dA B0 H0 C dom0 al0 al H locs cells slots ls hR hA hS hc hs ho hv.tl hl)
  | some n => exact lv_ifnull C.1 C.2.1 hd (kf n rfl p l e s m args below meth c D dA B0 H0 C dom0 al0 al H locs cells slots ls hR hA hS hc hs ho hv.tl hl)
theorem AW.ifnonnull {x : Option Nm} {o : Int} {tgt : Nat} (hd : decode M.2.1 pc = .ok (.ifnonnull o, 3)) (ht : Nat.beq (pc + o.toNat) (tgt + (-o).toNat) = true) (kt : ∀ n, x = some n → AW M fr lo mc ms Q bc bs tgt h loc st) (kf : x = none → AW M fr lo mc ms Q bc bs (pc + 3) h loc st) : AW M fr lo mc ms Q bc bs pc h loc (vq x :: st) := by
  intro p l e s m args below meth c D dA B0 H0 C dom0 al0 al H locs cells slots ls hR hA hS hc hs ho hv hl
  cases x with
  | none => exact lv_ifnonnullN C.1 C.2.1 hd (kf rfl p l e s m args below meth c D dA B0 H0 C dom0 al0 al H locs cells slots ls hR hA hS hc hs ho hv.tl hl)
  | some n => exact lv_ifnonnull C.1 C.2.1 hd (tgt_eq ht) (kt n rfl p l e s m args below meth c D dA B0 H0 C dom0 al0 al H locs cells slots ls hR hA hS hc hs ho hv.tl hl)
theorem map_inj {s : State} {D : va_G} {dA : Nat → ClassId} {B0 : Nat} {al : Nm → Nat} {H : Heap} (R : RelH s D dA B0 al h H) {x y : Option Nm} (hx : okv h (vq x)) (hy : okv h (vq y)) : x.map al = y.map al ↔ x = y := by
  constructor
  · intro e
    cases x with
    | none => cases y with
      | none => rfl
      | some b => cases e
    | some a => cases y with
      | none => cases e
      | some b => exact congrArg some (R.2.1 a b (hx a rfl) (hy b rfl) (Option.some.inj e))
  · rintro rfl; rfl
theorem AW.acmp_eq {x y : Option Nm} {o : Int} {tgt : Nat} (hd : decode M.2.1 pc = .ok (.if_acmp .eq o, 3)) (ht : Nat.beq (pc + o.toNat) (tgt + (-o).toNat) = true) (kt : x = y → AW M fr lo mc ms Q bc bs tgt h loc st) (kf : ¬ x = y → AW M fr lo mc ms Q bc bs (pc + 3) h loc st) : AW M fr lo mc ms Q bc bs pc h loc (vq y :: vq x :: st) := by
  intro p l e s m args below meth c D dA B0 H0 C dom0 al0 al H locs cells slots ls hR hA hS hc hs ho hv hl
  have z := map_inj hR hv.tl.hd hv.hd
  exact lv_acmp_eq C.1 C.2.1 hd (tgt_eq ht) (fun q => kt (z.mp q) p l e s m args below meth c D dA B0 H0 C dom0 al0 al H locs cells slots ls hR hA hS hc hs ho hv.tl.tl hl) (fun q => kf (fun w => q (z.mpr w)) p l e s m args below meth c D dA B0 H0 C dom0 al0 al H locs cells slots ls hR hA hS hc hs ho hv.tl.tl hl)
theorem AW.acmp_ne {x y : Option Nm} {o : Int} {tgt : Nat} (hd : decode M.2.1 pc = .ok (.if_acmp .ne o, 3)) (ht : Nat.beq (pc + o.toNat) (tgt + (-o).toNat) = true) (kt : ¬ x = y → AW M fr lo mc ms Q bc bs tgt h loc st) (kf : x = y → AW M fr lo mc ms Q bc bs (pc + 3) h loc st) : AW M fr lo mc ms Q bc bs pc h loc (vq y :: vq x :: st) := by
  intro p l e s m args below meth c D dA B0 H0 C dom0 al0 al H locs cells slots ls hR hA hS hc hs ho hv hl
  have z := map_inj hR hv.tl.hd hv.hd
  exact lv_acmp_ne C.1 C.2.1 hd (tgt_eq ht) (fun q => kt (fun w => q (z.mpr w)) p l e s m args below meth c D dA B0 H0 C dom0 al0 al H locs cells slots ls hR hA hS hc hs ho hv.tl.tl hl) (fun q => kf (z.mp q) p l e s m args below meth c D dA B0 H0 C dom0 al0 al H locs cells slots ls hR hA hS hc hs ho hv.tl.tl hl)
/-- a switch over a row of numbers -/
theorem AW.tswitch {x dflt lo9 hi9 : Int} {offs : Array Int} {len : Nat} (hd : decode M.2.1 pc = .ok (.tableswitch dflt lo9 hi9 offs, len)) (kin : ∀ (j : Nat) (o : Int) (tgt : Nat), offs[j]? = some o → x = lo9 + j → x ≤ hi9 → (pc : Int) + o = (tgt : Int) → AW M fr lo mc ms Q bc bs tgt h loc st)
    {td : Nat} (htd : Nat.beq (pc + dflt.toNat) (td + (-dflt).toNat) = true) (kout : (x < lo9 ∨ hi9 < x) → AW M fr lo mc ms Q bc bs td h loc st) (hlen : (hi9 - lo9 + 1 == (offs.size : Int)) = true) (hpos : (List.all offs.toList (fun o => decide (0 ≤ (pc : Int) + o))) = true) : AW M fr lo mc ms Q bc bs pc h loc (vi x :: st) := by
  intro p l e s m args below meth c D dA B0 H0 C dom0 al0 al H locs cells slots ls hR hA hS hc hs ho hv hl
  have hx : inR x := hv.hd
  have hb := i32_back hx
  by_cases q : x < lo9 ∨ hi9 < x
  · exact lv_tableOut C.1 C.2.1 hd (by rw [hb]; exact q) (tgt_eq htd) (kout q p l e s m args below meth c D dA B0 H0 C dom0 al0 al H locs cells slots ls hR hA hS hc hs ho hv.tl hl)
  · have h1 : ¬ x < lo9 := fun w => q (Or.inl w)
    have h2 : ¬ hi9 < x := fun w => q (Or.inr w)
    have hz := eq_of_beq hlen
    have hj : (x - lo9).toNat < offs.size := by omega
    have ho9 : offs[(x - lo9).toNat]? = some (offs[(x - lo9).toNat]) := Array.getElem?_eq_getElem hj
    have hp : 0 ≤ (pc : Int) + offs[(x - lo9).toNat] := by
      have := List.all_eq_true.mp hpos _ (Array.getElem_mem_toList hj)
      simpa using this
    obtain ⟨tg, htg⟩ := Int.eq_ofNat_of_zero_le hp
    exact lv_tableIn C.1 C.2.1 hd (by rw [hb]; exact h1) (by rw [hb]; exact h2) (by rw [hb]; exact ho9) htg (kin _ _ tg ho9 (by omega) (by omega) htg p l e s m args below meth c D dA B0 H0 C dom0 al0 al H locs cells slots ls hR hA hS hc hs ho hv.tl hl)
end RULES
