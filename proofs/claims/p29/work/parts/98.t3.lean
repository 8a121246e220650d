/-! ===== a String's letters copied into a row of bytes; an index checked ===== -/
section T3
variable {M N : MI} {fr lo mc ms bc bs pc : Nat} {Q : AH → AO → Prop} {h : AH} {loc : AL} {st : List AV}
/-- a letter of a word -/
def wlt (i j : Nat) : Int := ((wby.getD i []).getD j 0).toInt
theorem wlt_b {i j : Nat} : 0 ≤ wlt i j ∧ wlt i j < 128 := by
  unfold wlt
  by_cases hi : i < 7
  · by_cases hj : j < 7
    · have : ∀ i, i < 7 → ∀ j, j < 7 → 0 ≤ ((wby.getD i []).getD j 0).toInt ∧ ((wby.getD i []).getD j 0).toInt < 128 := by decide +kernel
      exact this i hi j hj
    · have : ∀ i, i < 7 → (wby.getD i []).length ≤ 7 := by decide +kernel
      have h2 : (wby.getD i []).length ≤ j := by have := this i hi; omega
      have e : (wby.getD i []).getD j 0 = 0 := by rw [List.getD_eq_getElem?_getD, List.getElem?_eq_none h2]; rfl
      rw [e]; decide
  · have e : wby.getD i [] = [] := by rw [List.getD_eq_getElem?_getD, List.getElem?_eq_none (by show 7 ≤ i; omega)]; rfl
    rw [e, show ([] : List Int32).getD j 0 = 0 from by simp]
    decide
theorem wln_b {i : Nat} : wln.getD i 0 < 7 := by
  by_cases hi : i < 7
  · have : ∀ i, i < 7 → wln.getD i 0 < 7 := by decide
    exact this i hi
  · have e : wln.getD i 0 = 0 := by rw [List.getD_eq_getElem?_getD, List.getElem?_eq_none (by show 7 ≤ i; omega)]; rfl
    rw [e]; decide
set_option maxHeartbeats 1000000 in
theorem AW.acopyW {i idx len : Nat} {b : Nm} (hi : i < 7) (hW7 : WW h) (hd : decode M.2.1 pc = .ok (.invokestatic idx, 3)) (l1 : Cond.methodLink M.1.cls idx arraycopyName ∈ gtbl) (l2 : Cond.native arraycopyName ∈ gtbl) (l3 : Cond.static arraycopyName ∈ gtbl) (l4 : Cond.initialized "java/lang/System" ∈ gtbl)
    (hb : hT h b = some (30, len)) (h6 : wln.getD i 0 ≤ len) (hlen : len < 2147483648) (hfr : Nat.ble 1 fr = true) (hlo : Nat.ble (19 + nativeFrameWords "java/lang/System" "arraycopy" 5) lo = true) (hw9 : Nat.ble (st.map (fun v => if cat2 v then 2 else 1)).sum 8 = true)
    (k : AW M fr lo mc ms Q bc bs (pc + 3) (hfl h b (wlt i) (wln.getD i 0)) loc st) : AW M fr lo mc ms Q bc bs pc h loc (vi ((wln.getD i 0 : Nat) : Int) :: vi 0 :: vr b :: vi 0 :: vr (nWb i) :: st) := by
  intro p l e s m args below meth c D dA B0 H0 C dom0 al0 al H locs cells slots ls hZ hA hS hc hs ho hv hl9
  have hw := Nat.le_of_ble_eq_true hw9
  have hts := C.2.2.2.2.2.2.1
  have hW := C.2.2.2.2.2.2.2.2.1
  have b3 := Nat.le_of_ble_eq_true hfr
  have b4 := Nat.le_of_ble_eq_true hlo
  have w7 : wln.getD i 0 < 7 := wln_b
  generalize hn : wln.getD i 0 = n at *
  have hlR : inR (n : Int) := ⟨by omega, by omega⟩
  have hcl : (Int32.ofInt (n : Int)).toNatClampNeg = n := by rw [i32_cl hlR]; rfl
  have ea : al (nWb i) = dA (110 + i) := by rw [hZ.str (hW7 i hi).2 (by omega)]; congr 1; omega
  obtain ⟨scr, hs1, hs2, hs3, hs4, -, hs5, hs7⟩ := (hW.2.2.2.2.2.2.2.1.2.2.1.1 i hi).2.2.2
  rw [hn] at hs4 hs5
  have ca : H[al (nWb i)]? = some scr := by rw [ea, hS.2.1 _ (Array.getElem?_eq_some_iff.mp hs1).1 hs7]; exact hs1
  have eb : aval al h b 10 = fun j => .int (Int32.ofInt (hI h b j)) := by funext j; rfl
  have cb := hZ.arr (t := 10) hb (by omega)
  rw [eb] at cb
  have z1 : ((0 : Int32)).toNatClampNeg = 0 := by decide
  have zi : ((0 : Int32)).toInt = 0 := by decide
  intro T hT9 X
  obtain ⟨hs6, k0, hk0, cm0, hkk0⟩ := hs2
  obtain ⟨-, k1, hk1, cm1, hkk1⟩ := ety_at (t := 10) dA (by omega) hW.1 len (fun j => .int (Int32.ofInt (hI h b j)))
  obtain ⟨vm', X', step⟩ := X.arraycopy C.1 C.2.2.2.2.1 (hts _ l1) (hts _ l2) (hts _ l3) (hts _ l4) (src := al (nWb i)) (dst := al b) (cs := scr) (cd := arrV (dA 10) len fun j => .int (Int32.ofInt (hI h b j))) (srcPos := 0) (destPos := 0) (n := Int32.ofInt (n : Int)) (by rw [hT9]; exact ca) (by rw [hT9]; exact cb)
    hs6 (fun _ h => by cases h) hs3 (fun h => by cases h) hk0 hk1 hkk0 hkk1 (by simp [refKind, ety]) (by decide) (by decide) (by rw [i32_ltz hlR]; omega)
    (by rw [zi, i32_back hlR]; omega)
    (by rw [zi, i32_back hlR, arrV_size]; omega)
    (fun vm₁ _ j hj => by
      rw [hcl] at hj
      have e : scr.slots.getD ((0 : Int32).toNatClampNeg + j) .null = .int ((wby.getD i []).getD j 0) := by
        rw [z1, Nat.zero_add, Array.getD_eq_getD_getElem?, hs5 _ hj]
        rfl
      refine ⟨?_, ?_⟩
      · rw [e]
        have := (byt_at (x := wlt i j) wlt_b).2.2
        unfold wlt at this
        rw [Int32.ofInt_toInt] at this
        exact this
      · rw [e]
        exact trivial)
    (g := F0 m pc ls (.int (Int32.ofInt (n : Int)) :: .int 0 :: .ref (al b) :: .int 0 :: .ref (al (nWb i)) :: st.map (rv al))) rfl (by rw [C.2.2.2.1]; exact hl9.1) (rest := st.map (rv al)) rfl (by rw [C.2.1]; exact hd) b3 (by show 2 * 0 + _ + _ ≤ lo; rw [sum_cat]; omega)
  have e1 : copied scr (arrV (dA 10) len fun j => .int (Int32.ofInt (hI h b j))) 0 0 (Int32.ofInt (n : Int)) = arrV (dA 10) len (fun j => .int (va_cpy (fun j => (wby.getD i []).getD j 0) (fun j => Int32.ofInt (hI h b j)) 0 0 n j)) := by
    have e2 : copied scr (arrV (dA 10) len fun j => .int (Int32.ofInt (hI h b j))) 0 0 (Int32.ofInt (n : Int)) = (arrV (dA 10) len fun j => .int (Int32.ofInt (hI h b j))).storeRun ((0 : Int32).toNatClampNeg) (scr.stretch ((0 : Int32).toNatClampNeg) ((Int32.ofInt (n : Int)).toNatClampNeg)) := rfl
    rw [e2, z1, hcl]
    exact va_copiedX (fun z => Value.int z) scr (dA 10) (fun j => (wby.getD i []).getD j 0) (fun j => Int32.ofInt (hI h b j)) hs5 (by omega)
  rw [e1] at X' step
  have hl : al b < H.size := (Array.getElem?_eq_some_iff.mp cb).1
  generalize hNC : arrV (dA 10) len (fun j => Value.int (va_cpy (fun j => (wby.getD i []).getD j 0) (fun j => Int32.ofInt (hI h b j)) 0 0 n j)) = NC at X' step
  have hheap : ((T.setVm vm').setCell (al b) NC).heap = H.setIfInBounds (al b) NC := by rw [← hT9]; rfl
  have oq : ∀ q : Nat, q ≠ al b → (H.setIfInBounds (al b) NC)[q]? = H[q]? := fun q hq => by simp [Array.getElem?_setIfInBounds, Ne.symm hq]
  have hbn : hT h b ≠ none := by rw [hb]; exact fun z => by cases z
  have hZ2 : RelH s D dA B0 al (hfl h b (wlt i) n) (H.setIfInBounds (al b) NC) := by
    refine hZ.upd (n := b) rfl hbn (fun m e j => by rw [hI_hfl, if_neg (fun z => e z.1)]) (fun m e j => rfl) (fun m e j => rfl) ?_ oq (fun j => ?_) (fun i m z => hZ.2.2.2 b i m z)
    · unfold relC
      rw [show hT (hfl h b (wlt i) n) b = hT h b from rfl, hb]
      dsimp only
      rw [if_neg (by omega), if_pos (by omega)]
      refine ⟨hZ.low hb (by omega), by omega, ?_⟩
      rw [show (H.setIfInBounds (al b) NC)[al b]? = some NC by simp [Array.getElem?_setIfInBounds, hl], ← hNC]
      congr 2
      funext j
      show Value.int _ = Value.int (Int32.ofInt (hI (hfl h b (wlt i) n) b j))
      rw [hI_hfl]
      unfold va_cpy
      by_cases q : j < n
      · rw [if_pos ⟨Nat.zero_le _, by omega⟩, if_pos ⟨rfl, q⟩, Nat.sub_zero, Nat.zero_add]
        unfold wlt
        rw [Int32.ofInt_toInt]
      · rw [if_neg (fun z => q (by omega)), if_neg (fun z => q z.2)]
    · rw [hI_hfl]
      split
      · have := wlt_b (i := i) (j := j); exact ⟨by omega, by omega⟩
      · exact hZ.2.2.1 _ _
  have hlo9 : B0 ≤ al b := hZ.low hb (by omega)
  obtain ⟨t2, a1, b1⟩ := k p l e s m args below meth c D dA B0 H0 C dom0 al0 al _ _ cells slots ls hZ2 hA ⟨by simp; exact hS.1, fun q g1 g2 => by
      rw [oq q (fun e => g2 (by rw [e]; exact hlo9))]
      exact hS.2.1 q g1 g2, fun q hq => by
      rcases List.mem_append.mp hq with h | h
      · exact hS.2.2 q h
      · obtain ⟨z, -, hz⟩ := List.mem_map.mp h
        rw [← hz]
        exact hlo9⟩ hc hs (okl_T rfl ho) (okvs_T rfl hv.tl.tl.tl.tl.tl) hl9 _ hheap X'
  exact ⟨t2, step t2 a1, b1⟩
/-- Preconditions.checkIndex, where the index is in its bounds -/
theorem kJ3_check {Q : AH → AO → Prop} {h : AH} {x y : Int} (hx : 0 ≤ x) (hy : x < y) (k : Q h (.inl (some (vi x)))) {mc ms : Nat} : AW mJ3_checkIndex_8e157 0 0 mc ms Q mc ms 0 h [(0, vi x), (1, vi y)] [] := by
  refine AW.iload_n dJ3_checkIndex_8e157_0 rfl ?_
  refine AW.if_lt (tgt := 9) dJ3_checkIndex_8e157_1 rfl (fun c => absurd c (by omega)) (fun _ => ?_)
  refine AW.iload_n dJ3_checkIndex_8e157_4 rfl ?_
  refine AW.iload_n dJ3_checkIndex_8e157_5 rfl ?_
  refine AW.icmp_lt (tgt := 16) dJ3_checkIndex_8e157_6 rfl (fun _ => ?_) (fun c => absurd c (by omega))
  refine AW.iload_n dJ3_checkIndex_8e157_16 rfl ?_
  exact AW.iret dJ3_checkIndex_8e157_17 rfl k
theorem mJ3_check {l : Launch} {D : va_G} {dA : Nat → ClassId} {B0 : Nat} {H0 : Heap} {al : Nm → Nat} {Q : AH → AO → Prop} {h : AH} {x y : Int} {v9 : Value} (hv9 : v9.category = 1) (hx : 0 ≤ x) (hy : x < y) (k : Q h (.inl (some (vi x)))) :
    vx_Met l yJ3_checkIndex_8e157 (wsM mJ3_checkIndex_8e157) { frames := 0, cells := 0, slots := 0, locals := 0 }
      (fun a U => a = #[.int (Int32.ofInt x), .int (Int32.ofInt y), v9] ∧ Wd D dA B0 H0 l U ∧ RelH U D dA B0 al h U.heap ∧ inR x ∧ inR y)
      (AQc B0 D dA (fun n => hT h n ≠ none) al Q) (AXc B0 D dA (fun n => hT h n ≠ none) al Q) 0 0 (fun q => B0 ≤ q) := by
  refine vx_ofW (cc := cJ3_checkIndex_8e157) (maxL := 3) (ret := some .int) (ws' := gtbl) (by decide) rfl ?_
  intro p e s m args below meth c s₁ B hml hex hP
  obtain ⟨rfl, hW, hR, hxR, hyR⟩ := hP
  have hts : ∀ w ∈ wsM mJ3_checkIndex_8e157, w.before #[.int (Int32.ofInt x), .int (Int32.ofInt y), v9] s = true := atoms_spec (ws := wsM mJ3_checkIndex_8e157) B.pre
  have hlen : (lg_sl [Value.int (Int32.ofInt x), .int (Int32.ofInt y), v9]).length = 3 := by
    rw [lg_sl_cons, lg_sl_cons, lg_sl_cons, hv9]
    rfl
  have hl := lv_entry [Value.int (Int32.ofInt x), .int (Int32.ofInt y), v9] (n := 3) (by rw [hlen]; exact Nat.le_refl _)
  rw [show (#[Value.int (Int32.ofInt x), .int (Int32.ofInt y), v9] : Array Value) = ([Value.int (Int32.ofInt x), .int (Int32.ofInt y), v9] : List Value).toArray from rfl, lg_entry_eq]
  generalize ((lg_sl [Value.int (Int32.ofInt x), .int (Int32.ofInt y), v9] ++ List.replicate (3 - (lg_sl [Value.int (Int32.ofInt x), .int (Int32.ofInt y), v9]).length) Slot.unset).toArray) = ls at hl ⊢
  have hl2 : lv_has ls 3 (rl al [(0, vi x), (1, vi y)]) := by
    refine ⟨hl.1, hl.2.1, fun q hq => ?_⟩
    have h2 : rl al [(0, vi x), (1, vi y)] = [(0, Value.int (Int32.ofInt x)), (1, Value.int (Int32.ofInt y))] := rfl
    rw [h2] at hq
    refine hl.2.2 q ?_
    show q ∈ (0, Value.int (Int32.ofInt x)) :: (1, Value.int (Int32.ofInt y)) :: _
    rcases List.mem_cons.mp hq with z | z
    · rw [z]; exact List.mem_cons_self
    · rcases List.mem_cons.mp z with z | z
      · rw [z]; exact List.mem_cons_of_mem _ List.mem_cons_self
      · cases z
  refine kJ3_check (Q := Q) (h := h) hx hy k p l e s m _ below meth c D dA B0 H0 ⟨B.exec, B.bytes, B.returns, hml, findClass_of_methodNamed B.named, (name_of_methodNamed B.named B.method).1, fun w hw => hts w (List.mem_cons_of_mem _ hw), B.notSynchronized, hW, ?_⟩ _ al al s.heap [] 0 0 ls hR (fun n hn => ⟨hn, rfl⟩) va_S.rf (Nat.le_of_eq (Nat.zero_add _)) (Nat.le_of_eq (Nat.zero_add _)) (fun q hq => ?_) okvs.nil hl2
  · show c.exceptionTable.toList.map _ = []
    cases hz : c.exceptionTable.toList with
    | nil => rfl
    | cons a r => exact absurd (hex a (by rw [hz]; exact List.mem_cons_self)) id
  · rcases List.mem_cons.mp hq with z | z
    · rw [z]; exact hxR
    · rcases List.mem_cons.mp z with z | z
      · rw [z]; exact hyR
      · cases z
set_option maxHeartbeats 1000000 in
/-- the formatter is laid on the stack and handed on -/
theorem AW.chk {i1 i2 : Nat} {x y : Int} (hd : decode M.2.1 pc = .ok (.getstatic i1, 3)) (hd2 : decode M.2.1 (pc + 3) = .ok (.invokestatic i2, 3)) (hM : M.2.2.2.2 = []) (hl1 : Cond.fieldLink M.1.cls i1 "jdk/internal/util/Preconditions" "SIOOBE_FORMATTER" "Ljava/util/function/BiFunction;" ∈ gtbl)
    (hl2 : Cond.methodLink M.1.cls i2 yJ3_checkIndex_8e157 ∈ gtbl) (hx : 0 ≤ x) (hy : x < y) (hfr : Nat.ble 1 fr = true) (hlo : Nat.ble 22 lo = true) (hw9 : Nat.ble (st.map (fun v => if cat2 v then 2 else 1)).sum 8 = true)
    (k : AW M fr lo mc ms Q bc bs (pc + 6) h loc (vi x :: st)) : AW M fr lo mc ms Q bc bs pc h loc (vi y :: vi x :: st) := by
  intro p l e s m args below meth c D dA B0 H0 C dom0 al0 al H locs cells slots ls hZ hA hS hc hs ho hv hl9
  have hw := Nat.le_of_ble_eq_true hw9
  have hW := C.2.2.2.2.2.2.2.2.1
  have hts := C.2.2.2.2.2.2.1
  have hyR : inR y := hv.hd
  have hxR : inR x := hv.tl.hd
  have hf := Nat.le_of_ble_eq_true hfr
  have hl := Nat.le_of_ble_eq_true hlo
  obtain ⟨k0, k1, k3, k4, k5, k6, k7⟩ := okJ3_checkIndex_8e157
  have go : ∀ v9 : Value, v9.category = 1 → W p l e { frames := fr, cells := mc, slots := ms, locals := lo } s m args below meth c H locs cells slots (vx_MQ below (AQc B0 D dA dom0 al0 Q) (AXc B0 D dA dom0 al0 Q) args s mc ms (fun q => B0 ≤ q)) (F0 m (pc + 3) ls (v9 :: .int (Int32.ofInt y) :: .int (Int32.ofInt x) :: st.map (rv al))) := by
    intro v9 hv9
    refine aw_run (mcN := 0) (msN := 0) (Q' := QK (fun h' v => AW M fr lo mc ms Q (bc - 0) (bs - 0) (pc + 3 + 3) h' loc (v.toList ++ st)) Q) C hM (fun h' v q => q) (fun h' E q => q) (Nat.zero_le _) (Nat.zero_le _) hA hS hc hs ho hv.tl.tl hl9
      (vx_runS (Ts := gtbl) (own := M.1.cls) (bytes := cJ3_checkIndex_8e157) (maxL := 3) (ret := some .int) (nL := M.2.2.1) (n := 3) (As := [.int (Int32.ofInt x), .int (Int32.ofInt y), v9]) ⟨C.1, C.2.1, C.2.2.2.1, C.2.2.2.2.1, hts⟩ (mJ3_check (D := D) (dA := dA) (B0 := B0) (H0 := H0) (al := al) (h := h) hv9 hx hy (show QK (fun h' v => AW M fr lo mc ms Q (bc - 0) (bs - 0) (pc + 3 + 3) h' loc (v.toList ++ st)) Q h (.inl (some (vi x))) from k))
        ⟨callB_of (rm := { frames := 0, cells := 0, slots := 0, locals := 0 }) 3 hts (gI (wsM_in k0 k4)) (wsM_code k0) rfl rfl (hts _ k3) (hts _ hl2) ⟨k5, k6, k7⟩ ⟨hf, hl⟩, hts _ k1⟩
        ⟨?_, fun U hU hWU => ⟨rfl, hW.moved hWU (by rw [hU]; exact hS.1) (fun q hq => by rw [hU]; exact hS.2.1 q (Nat.lt_of_lt_of_le hq hW.2.2.1) (by omega)), by rw [hU]; exact hZ.moved hWU.alike, hxR, hyR⟩⟩
        rfl rfl hl9.1 rfl (lv_room (mon_cat hw)) hd2 ⟨by show cells + 0 ≤ mc; omega, by show slots + 0 ≤ ms; omega⟩)
    intro a U g mk hp
    obtain ⟨h1, h2, h3, h4⟩ := hp
    exact ⟨h1, h2.moved (U := U.calling g mk a) (State.WarmedH.refl _) (Nat.le_refl _) (fun q _ => rfl), h3.moved (U := U.calling g mk a) (Vm.Alike.refl U.vm), h4⟩
  rcases hW.2.2.2.2.2.2.2.1.2.2.2.2.1 with z | ⟨t, z⟩
  · exact va_gets C.1 C.2.1 z hS C.2.2.2.2.1 (hts _ hl1) (fun x z => z) hd (go .null rfl)
  · exact va_gets C.1 C.2.1 z hS C.2.2.2.2.1 (hts _ hl1) (fun x z => z) hd (go (.ref t) rfl)
end T3
