/-! ===== throws, the library's own methods ===== -/
theorem isX_any {s : State} {args : Array Value} {w : Cond} (hx : isX w = true) (h : w.before #[] s = true) : w.before args s = true := by
  cases w with
  | arrayOver t => exact h
  | methodLinkNest a b c d => exact va_Nw.use rfl h
  | castable a b => exact va_Nw.use rfl h
  | declares a => exact va_Nw.use rfl h
  | _ => cases hx
def xn : List String := ["java/lang/RuntimeException", "java/lang/Exception"]
/-- what 'throw new E(text)' asks of the tables -/
def okT (own cls : String) (ik ic : Nat) : Prop := Bundle.fit cls = true ∧ Cond.classLink own ik cls ∈ gtbl ∧ Cond.initialized cls ∈ gtbl ∧ (∀ w ∈ vx_atS own ic cls xn, w ∈ lw_tbl ∧ (goodWord w || isX w) = true) ∧ ∀ w ∈ Cond.classLink own ik cls :: Cond.initialized cls :: vx_atS own ic cls xn, vx_ot w = true
section THR
variable {M N : MI} {fr lo mc ms bc bs pc : Nat} {Q : AH → AO → Prop} {h : AH} {loc : AL} {st : List AV}
variable {s : State} {H : Heap}
theorem sum_cat {al : Nm → Nat} : ((st.map (rv al)).map fun v => v.category).sum = (st.map (fun v => if cat2 v then 2 else 1)).sum := by
  rw [List.map_map]
  congr 1
  refine List.map_congr_left fun v _ => ?_
  show (rv al v).category = _
  rw [← rv_cat al v]
  rcases lv_cat (rv al v) with z | z <;> rw [z] <;> rfl
theorem axc {E : String} {p : Program} {l : Launch} {m : MethodId} {args : Array Value} {meth : Method} {c : Code} {D : va_G} {dA : Nat → ClassId} {B0 : Nat} {H0 : Heap} (C : Ctx M p l s m args meth c D dA B0 H0) (hq : Q h (.inr E))
    {dom0 : Nm → Prop} {al0 al : Nm → Nat} {locs : List Loc} (hZ : RelH s D dA B0 al h H) (hA : ∀ n, dom0 n → hT h n ≠ none ∧ al n = al0 n) (hS : va_S (fun q => B0 ≤ q) s.heap H locs) :
    ∀ t : State, s.vm.Alike t.vm → H.size ≤ t.heap.size → (∀ q : Nat, q < H.size → t.heap[q]? = H[q]?) → AXc B0 D dA dom0 al0 Q E s t := fun t hvm hz hq9 =>
  ⟨h, al, hq, Nat.le_trans hS.1 hz, fun q hl => by
    have h1 : q < s.heap.size := Nat.lt_of_lt_of_le hl C.2.2.2.2.2.2.2.2.1.2.2.1
    rw [hq9 q (Nat.lt_of_lt_of_le h1 hS.1)]
    exact hS.2.1 q h1 (by omega), hA, (hZ.ext hq9).moved hvm⟩
theorem AW.throwS {ik is ic : Nat} {cls text : String} (d0 : decode M.2.1 pc = .ok (.new ik, 3)) (d3 : decode M.2.1 (pc + 3) = .ok (.dup, 1)) (d4 : decode M.2.1 (pc + 4) = .ok (.ldc is, 2)) (d6 : decode M.2.1 (pc + 6) = .ok (.invokespecial ic, 3)) (d9 : decode M.2.1 (pc + 9) = .ok (.athrow, 1))
    (hM : M.2.2.2.2 = []) (hk : okT M.1.cls cls ik ic) (hstr : (M.1.cls, is, text) ∈ strs) (hfr : Nat.ble 6 fr = true) (hlo : Nat.ble 90 lo = true) (hw9 : Nat.ble (st.map (fun v => if cat2 v then 2 else 1)).sum 8 = true) (hb1 : Nat.ble 1 bc = true) (hb2 : Nat.ble 6 bs = true) (hq : Q h (.inr cls)) : AW M fr lo mc ms Q bc bs pc h loc st := by
  intro p l e s m args below meth c D dA B0 H0 C dom0 al0 al H locs cells slots ls hZ hA hS hc hs ho hv hl9
  have hw := Nat.le_of_ble_eq_true hw9
  obtain ⟨k1, k2, k3, k4, k5⟩ := hk
  have hW := C.2.2.2.2.2.2.2.2.1
  have hts := C.2.2.2.2.2.2.1
  have b1 := Nat.le_of_ble_eq_true hb1
  have b2 := Nat.le_of_ble_eq_true hb2
  have b3 := Nat.le_of_ble_eq_true hfr
  have b4 := Nat.le_of_ble_eq_true hlo
  have htab : c.exceptionTable.toList = [] := by
    have := C.2.2.2.2.2.2.2.2.2
    rw [hM] at this
    exact List.map_eq_nil_iff.mp this
  obtain ⟨sa, hsa⟩ := hW.2.2.2.2.2.2.1 _ hstr
  refine vx_throwS (names := xn) (own := M.1.cls) (A := fun q => B0 ≤ q) (sa := sa) C.1 C.2.1 hW.2.1 C.2.2.2.2.1 k1 (by decide +kernel) (hts _ k2) (hts _ k3) hsa (fun w hw9 => ?_) k5 hW.2.2.2.2.1 hW.2.2.2.2.2.1 hS (by rw [C.2.2.2.1]; exact hl9.1) d0 d3 d4 d6 d9
    (fun x hx => by rw [htab] at hx; cases hx) (by show 2 + 3 < fr; omega) (by rw [sum_cat]; show _ + (13 * (2 + 1) + 43) ≤ lo; omega) (by show cells + 1 ≤ mc; omega) (by show slots + 6 ≤ ms; omega) C.2.2.2.2.2.2.2.1 (axc C hq hZ hA hS) hS.2.2 (by omega) (by omega)
  obtain ⟨q1, q2⟩ := k4 w hw9
  rcases Bool.or_eq_true _ _ ▸ q2 with q3 | q3
  · exact hts w (gt_in q1 q3)
  · exact isX_any q3 (hW.2.2.2.2.2.2.2.2 w (List.mem_filter.mpr ⟨q1, q3⟩))
theorem AW.throwW {ik is ic : Nat} {cls text : String} (d0 : decode M.2.1 pc = .ok (.new ik, 3)) (d3 : decode M.2.1 (pc + 3) = .ok (.dup, 1)) (d4 : decode M.2.1 (pc + 4) = .ok (.ldc_w is, 3)) (d7 : decode M.2.1 (pc + 7) = .ok (.invokespecial ic, 3)) (d10 : decode M.2.1 (pc + 10) = .ok (.athrow, 1))
    (hM : M.2.2.2.2 = []) (hk : okT M.1.cls cls ik ic) (hstr : (M.1.cls, is, text) ∈ strs) (hfr : Nat.ble 6 fr = true) (hlo : Nat.ble 90 lo = true) (hw9 : Nat.ble (st.map (fun v => if cat2 v then 2 else 1)).sum 8 = true) (hb1 : Nat.ble 1 bc = true) (hb2 : Nat.ble 6 bs = true) (hq : Q h (.inr cls)) : AW M fr lo mc ms Q bc bs pc h loc st := by
  intro p l e s m args below meth c D dA B0 H0 C dom0 al0 al H locs cells slots ls hZ hA hS hc hs ho hv hl9
  have hw := Nat.le_of_ble_eq_true hw9
  obtain ⟨k1, k2, k3, k4, k5⟩ := hk
  have hW := C.2.2.2.2.2.2.2.2.1
  have hts := C.2.2.2.2.2.2.1
  have b1 := Nat.le_of_ble_eq_true hb1
  have b2 := Nat.le_of_ble_eq_true hb2
  have b3 := Nat.le_of_ble_eq_true hfr
  have b4 := Nat.le_of_ble_eq_true hlo
  have htab : c.exceptionTable.toList = [] := by
    have := C.2.2.2.2.2.2.2.2.2
    rw [hM] at this
    exact List.map_eq_nil_iff.mp this
  obtain ⟨sa, hsa⟩ := hW.2.2.2.2.2.2.1 _ hstr
  refine vx_throwSW (names := xn) (own := M.1.cls) (A := fun q => B0 ≤ q) (sa := sa) C.1 C.2.1 hW.2.1 C.2.2.2.2.1 k1 (by decide +kernel) (hts _ k2) (hts _ k3) hsa (fun w hw9 => ?_) k5 hW.2.2.2.2.1 hW.2.2.2.2.2.1 hS (by rw [C.2.2.2.1]; exact hl9.1) d0 d3 d4 d7 d10
    (fun x hx => by rw [htab] at hx; cases hx) (by show 2 + 3 < fr; omega) (by rw [sum_cat]; show _ + (13 * (2 + 1) + 43) ≤ lo; omega) (by show cells + 1 ≤ mc; omega) (by show slots + 6 ≤ ms; omega) C.2.2.2.2.2.2.2.1 (axc C hq hZ hA hS) hS.2.2 (by omega) (by omega)
  obtain ⟨q1, q2⟩ := k4 w hw9
  rcases Bool.or_eq_true _ _ ▸ q2 with q3 | q3
  · exact hts w (gt_in q1 q3)
  · exact isX_any q3 (hW.2.2.2.2.2.2.2.2 w (List.mem_filter.mpr ⟨q1, q3⟩))
theorem AW.mmin {idx : Nat} {x y : Int} (hd : decode M.2.1 pc = .ok (.invokestatic idx, 3)) (l1 : Cond.methodLink M.1.cls idx Lib.Math.min.name ∈ gtbl) (l2 : Cond.static Lib.Math.min.name ∈ gtbl) (l3 : Cond.initialized "java/lang/Math" ∈ gtbl) (l4 : Cond.code Lib.Math.min.name Lib.Math.min.code 2 (some .int) ∈ gtbl)
    (hfr : Nat.ble 1 fr = true) (hlo : Nat.ble 30 lo = true) (hw9 : Nat.ble (st.map (fun v => if cat2 v then 2 else 1)).sum 8 = true) (k : AW M fr lo mc ms Q bc bs (pc + 3) h loc (vi (min x y) :: st)) : AW M fr lo mc ms Q bc bs pc h loc (vi y :: vi x :: st) := by
  intro p l e s m args below meth c D dA B0 H0 C dom0 al0 al H locs cells slots ls hZ hA hS hc hs ho hv hl9
  have hw := Nat.le_of_ble_eq_true hw9
  have hts := C.2.2.2.2.2.2.1
  have hx : inR x := hv.tl.hd
  have hy : inR y := hv.hd
  have hm : inR (min x y) := by unfold inR at *; omega
  have b3 := Nat.le_of_ble_eq_true hfr
  have b4 := Nat.le_of_ble_eq_true hlo
  have k' := k p l e s m args below meth c D dA B0 H0 C dom0 al0 al H locs cells slots ls hZ hA hS hc hs ho (.cons hm hv.tl.tl) hl9
  refine va_mmin C.1 C.2.1 (by rw [C.2.2.2.1]; exact hl9.1.symm) C.2.2.2.2.1 (hts _ l1) (hts _ l2) (hts _ l3) (hts _ l4) b3 (by rw [sum_cat]; show _ + 13 ≤ lo; omega) (by show cells ≤ mc; omega) (by show slots ≤ ms; omega) hd ?_
  have e9 : (if Int32.ofInt y < Int32.ofInt x then Int32.ofInt y else Int32.ofInt x) = Int32.ofInt (min x y) := by
    by_cases q : y < x
    · rw [if_pos ((i32_lt hy hx).mpr q), Int.min_eq_right (by omega)]
    · rw [if_neg (fun w => q ((i32_lt hy hx).mp w)), Int.min_eq_left (by omega)]
  rw [e9]
  exact k'
theorem AW.mabs {idx : Nat} {x : Int} (hd : decode M.2.1 pc = .ok (.invokestatic idx, 3)) (l1 : Cond.methodLink M.1.cls idx Lib.Math.abs.name ∈ gtbl) (l2 : Cond.static Lib.Math.abs.name ∈ gtbl) (l3 : Cond.initialized "java/lang/Math" ∈ gtbl) (l4 : Cond.code Lib.Math.abs.name Lib.Math.abs.code 1 (some .int) ∈ gtbl)
    (hfr : Nat.ble 1 fr = true) (hlo : Nat.ble 30 lo = true) (hw9 : Nat.ble (st.map (fun v => if cat2 v then 2 else 1)).sum 8 = true) (hne : -2147483648 < x) (k : AW M fr lo mc ms Q bc bs (pc + 3) h loc (vi (if 0 ≤ x then x else -x) :: st)) : AW M fr lo mc ms Q bc bs pc h loc (vi x :: st) := by
  intro p l e s m args below meth c D dA B0 H0 C dom0 al0 al H locs cells slots ls hZ hA hS hc hs ho hv hl9
  have hw := Nat.le_of_ble_eq_true hw9
  have hts := C.2.2.2.2.2.2.1
  have hx : inR x := hv.hd
  have hm : inR (if 0 ≤ x then x else -x) := by unfold inR at *; split <;> omega
  have b3 := Nat.le_of_ble_eq_true hfr
  have b4 := Nat.le_of_ble_eq_true hlo
  have k' := k p l e s m args below meth c D dA B0 H0 C dom0 al0 al H locs cells slots ls hZ hA hS hc hs ho (.cons hm hv.tl) hl9
  refine va_mabs C.1 C.2.1 (by rw [C.2.2.2.1]; exact hl9.1.symm) C.2.2.2.2.1 (hts _ l1) (hts _ l2) (hts _ l3) (hts _ l4) b3 (by rw [sum_cat]; show _ + 13 ≤ lo; omega) (by show cells ≤ mc; omega) (by show slots ≤ ms; omega) hd ?_
  have e9 : (if 0 ≤ Int32.ofInt x then Int32.ofInt x else 0 - Int32.ofInt x) = Int32.ofInt (if 0 ≤ x then x else -x) := by
    by_cases q : 0 ≤ x
    · rw [if_pos ((i32_gez hx).mpr q), if_pos q]
    · rw [if_neg (fun w => q ((i32_gez hx).mp w)), if_neg q, show (0 : Int32) = Int32.ofInt 0 from by decide, ← Int32.ofInt_sub]
      congr 1
      omega
  rw [e9]
  exact k'
/-! arraycopy of numbers or flags -/
def cpI (h : AH) (a b : Nm) (len : Nat) : AH := (h.1, (fun n' i' => if n' = b ∧ i' < len then h.2.1 a i' else h.2.1 n' i'), h.2.2.1, h.2.2.2)
theorem hT_cpI (h : AH) (a b : Nm) (len : Nat) : hT (cpI h a b len) = hT h := rfl
theorem hL_cpI (h : AH) (a b : Nm) (len : Nat) : hL (cpI h a b len) = hL h := rfl
theorem hR_cpI (h : AH) (a b : Nm) (len : Nat) : hR (cpI h a b len) = hR h := rfl
theorem hI_cpI (h : AH) (a b : Nm) (len : Nat) (n' : Nm) (i' : Nat) : hI (cpI h a b len) n' i' = if n' = b ∧ i' < len then hI h a i' else hI h n' i' := rfl
/-- the flags of a row of flags -/
def isB (h : AH) (n : Nm) (len : Nat) : Prop := ∀ i, i < len → hI h n i = 0 ∨ hI h n i = 1
theorem AW.acopy {idx t len : Nat} {a b : Nm} (hd : decode M.2.1 pc = .ok (.invokestatic idx, 3)) (l1 : Cond.methodLink M.1.cls idx arraycopyName ∈ gtbl) (l2 : Cond.native arraycopyName ∈ gtbl) (l3 : Cond.static arraycopyName ∈ gtbl) (l4 : Cond.initialized "java/lang/System" ∈ gtbl)
    (ha : hT h a = some (20 + t, len)) (hb : hT h b = some (20 + t, len)) (ht : t < 2) (hbz : t = 1 → isB h a len) (hlen : len < 2147483648) (hfr : Nat.ble 1 fr = true) (hlo : Nat.ble (19 + nativeFrameWords "java/lang/System" "arraycopy" 5) lo = true) (hw9 : Nat.ble (st.map (fun v => if cat2 v then 2 else 1)).sum 8 = true)
    (k : AW M fr lo mc ms Q bc bs (pc + 3) (cpI h a b len) loc st) : AW M fr lo mc ms Q bc bs pc h loc (vi (len : Int) :: vi 0 :: vr b :: vi 0 :: vr a :: st) := by
  intro p l e s m args below meth c D dA B0 H0 C dom0 al0 al H locs cells slots ls hZ hA hS hc hs ho hv hl9
  have hw := Nat.le_of_ble_eq_true hw9
  have hts := C.2.2.2.2.2.2.1
  have hW := C.2.2.2.2.2.2.2.2.1
  have b3 := Nat.le_of_ble_eq_true hfr
  have b4 := Nat.le_of_ble_eq_true hlo
  have hlR : inR (len : Int) := ⟨by omega, by omega⟩
  have hcl : (Int32.ofInt (len : Int)).toNatClampNeg = len := by rw [i32_cl hlR]; rfl
  have hc0 : fco (ety t) = 0 := by rcases (show t = 0 ∨ t = 1 by omega) with rfl | rfl <;> rfl
  have hpr : refKind (ety t) = false := by rcases (show t = 0 ∨ t = 1 by omega) with rfl | rfl <;> rfl
  have ea : aval al h a t = fun j => .int (Int32.ofInt (hI h a j)) := by funext j; unfold aval; rw [hc0]; rfl
  have eb : aval al h b t = fun j => .int (Int32.ofInt (hI h b j)) := by funext j; unfold aval; rw [hc0]; rfl
  have ca := hZ.arr (t := t) ha (by omega)
  have cb := hZ.arr (t := t) hb (by omega)
  rw [ea] at ca
  rw [eb] at cb
  have z0 : Int32.ofInt 0 = 0 := by decide
  have z1 : ((0 : Int32)).toNatClampNeg = 0 := by decide
  have zi : ((0 : Int32)).toInt = 0 := by decide
  intro T hT9 X
  obtain ⟨-, k0, hk0, cm0, hkk0⟩ := ety_at (t := t) dA (by omega) hW.1 len (fun j => .int (Int32.ofInt (hI h a j)))
  obtain ⟨-, k1, hk1, cm1, hkk1⟩ := ety_at (t := t) dA (by omega) hW.1 len (fun j => .int (Int32.ofInt (hI h b j)))
  obtain ⟨vm', X', step⟩ := X.arraycopy C.1 C.2.2.2.2.1 (hts _ l1) (hts _ l2) (hts _ l3) (hts _ l4) (src := al a) (dst := al b) (cs := arrV (dA t) len fun j => .int (Int32.ofInt (hI h a j))) (cd := arrV (dA t) len fun j => .int (Int32.ofInt (hI h b j))) (srcPos := 0) (destPos := 0) (n := Int32.ofInt (len : Int)) (by rw [hT9]; exact ca) (by rw [hT9]; exact cb)
    (fun _ h => by cases h) (fun _ h => by cases h) (fun h => by cases h) (fun h => by cases h) hk0 hk1 hkk0 hkk1 (by simp [hpr]) (by decide) (by decide) (by rw [i32_ltz hlR]; omega)
    (by rw [zi, i32_back hlR, arrV_size]; omega)
    (by rw [zi, i32_back hlR, arrV_size]; omega)
    (fun vm₁ _ i hi => by
      rw [hcl] at hi
      have e : (arrV (dA t) len fun j => .int (Int32.ofInt (hI h a j))).slots.getD ((0 : Int32).toNatClampNeg + i) .null = .int (Int32.ofInt (hI h a i)) := by
        rw [z1, Nat.zero_add, Array.getD_eq_getD_getElem?, arrV_read _ _ hi]
        rfl
      refine ⟨?_, ?_⟩
      · rw [e]
        rcases (show t = 0 ∨ t = 1 by omega) with rfl | rfl
        · rfl
        · exact (fitI.nf (Or.inr ⟨rfl, hbz rfl i hi⟩)).2
      · rw [e]
        exact trivial)
    (g := F0 m pc ls (.int (Int32.ofInt (len : Int)) :: .int 0 :: .ref (al b) :: .int 0 :: .ref (al a) :: st.map (rv al))) rfl (by rw [C.2.2.2.1]; exact hl9.1) (rest := st.map (rv al)) rfl (by rw [C.2.1]; exact hd) b3 (by show 2 * 0 + _ + _ ≤ lo; rw [sum_cat]; omega)
  have e1 : copied (arrV (dA t) len fun j => .int (Int32.ofInt (hI h a j))) (arrV (dA t) len fun j => .int (Int32.ofInt (hI h b j))) 0 0 (Int32.ofInt (len : Int)) = arrV (dA t) len (fun j => .int (va_cpy (fun j => Int32.ofInt (hI h a j)) (fun j => Int32.ofInt (hI h b j)) 0 0 len j)) := by
    have e2 : copied (arrV (dA t) len fun j => .int (Int32.ofInt (hI h a j))) (arrV (dA t) len fun j => .int (Int32.ofInt (hI h b j))) 0 0 (Int32.ofInt (len : Int)) = (arrV (dA t) len fun j => .int (Int32.ofInt (hI h b j))).storeRun ((0 : Int32).toNatClampNeg) ((arrV (dA t) len fun j => .int (Int32.ofInt (hI h a j))).stretch ((0 : Int32).toNatClampNeg) ((Int32.ofInt (len : Int)).toNatClampNeg)) := rfl
    rw [e2, z1, hcl]
    exact va_copied (fun z => Value.int z) (dA t) (dA t) (fun j => Int32.ofInt (hI h a j)) (fun j => Int32.ofInt (hI h b j)) (by omega)
  rw [e1] at X' step
  have hl : al b < H.size := (Array.getElem?_eq_some_iff.mp cb).1
  generalize hNC : arrV (dA t) len (fun j => Value.int (va_cpy (fun j => Int32.ofInt (hI h a j)) (fun j => Int32.ofInt (hI h b j)) 0 0 len j)) = NC at X' step
  have hheap : ((T.setVm vm').setCell (al b) NC).heap = H.setIfInBounds (al b) NC := by rw [← hT9]; rfl
  have oq : ∀ q : Nat, q ≠ al b → (H.setIfInBounds (al b) NC)[q]? = H[q]? := fun q hq => by simp [Array.getElem?_setIfInBounds, Ne.symm hq]
  have hbn : hT h b ≠ none := by rw [hb]; exact fun z => by cases z
  have hZ2 : RelH s D dA B0 al (cpI h a b len) (H.setIfInBounds (al b) NC) := by
    refine hZ.upd (n := b) rfl hbn (fun m e j => by rw [hI_cpI, if_neg (fun z => e z.1)]) (fun m e j => rfl) (fun m e j => rfl) ?_ oq (fun i => ?_) (fun i m z => hZ.2.2.2 b i m z)
    · unfold relC
      rw [hT_cpI, hb]
      dsimp only
      rw [if_neg (by omega), if_pos (by omega), Nat.add_sub_cancel_left]
      refine ⟨hZ.low hb (by omega), by omega, ?_⟩
      rw [show (H.setIfInBounds (al b) NC)[al b]? = some NC by simp [Array.getElem?_setIfInBounds, hl], ← hNC]
      congr 2
      funext j
      unfold aval
      rw [hc0]
      show Value.int _ = Value.int (Int32.ofInt (hI (cpI h a b len) b j))
      rw [hI_cpI]
      unfold va_cpy
      by_cases q : j < len
      · rw [if_pos ⟨Nat.zero_le _, by omega⟩, if_pos ⟨rfl, q⟩, Nat.sub_zero, Nat.zero_add]
      · rw [if_neg (fun z => q (by omega)), if_neg (fun z => q z.2)]
    · rw [hI_cpI]
      split
      · exact hZ.2.2.1 _ _
      · exact hZ.2.2.1 _ _
  have hlo9 : B0 ≤ al b := hZ.low hb (by omega)
  obtain ⟨t2, a1, b1⟩ := k p l e s m args below meth c D dA B0 H0 C dom0 al0 al _ _ cells slots ls hZ2 hA ⟨by simp; exact hS.1, fun q g1 g2 => by
      rw [oq q (fun e => g2 (by rw [e]; exact hlo9))]
      exact hS.2.1 q g1 g2, fun q hq => by
      rcases List.mem_append.mp hq with h | h
      · exact hS.2.2 q h
      · obtain ⟨z, -, hz⟩ := List.mem_map.mp h
        rw [← hz]
        exact hlo9⟩ hc hs (okl_T rfl ho) (okvs_T rfl hv.tl.tl.tl.tl.tl) hl9 _ hheap X'
  exact ⟨t2, step t2 a1, b1⟩
end THR
