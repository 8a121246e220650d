/-! ===== rules for the JDK's text methods ===== -/
section T1
variable {M N : MI} {fr lo mc ms bc bs pc : Nat} {Q : AH → AO → Prop} {h : AH} {loc : AL} {st : List AV}
theorem i32_0 : Int32.ofInt 0 = 0 := by decide
theorem AW.ishr0 {x : Int} (hd : decode M.2.1 pc = .ok (.ishr, 1)) (k : AW M fr lo mc ms Q bc bs (pc + 1) h loc (vi x :: st)) : AW M fr lo mc ms Q bc bs pc h loc (vi 0 :: vi x :: st) := by
  intro p l e s m args below meth c D dA B0 H0 C dom0 al0 al H locs cells slots ls hR hA hS hc hs ho hv hl
  refine lv_ishr C.1 C.2.1 hd ?_
  rw [i32_0, sb_shr0]
  exact k p l e s m args below meth c D dA B0 H0 C dom0 al0 al H locs cells slots ls hR hA hS hc hs ho hv.tl hl
theorem AW.ishl0 {x : Int} (hd : decode M.2.1 pc = .ok (.ishl, 1)) (k : AW M fr lo mc ms Q bc bs (pc + 1) h loc (vi x :: st)) : AW M fr lo mc ms Q bc bs pc h loc (vi 0 :: vi x :: st) := by
  intro p l e s m args below meth c D dA B0 H0 C dom0 al0 al H locs cells slots ls hR hA hS hc hs ho hv hl
  refine lv_ishl C.1 C.2.1 hd ?_
  rw [i32_0, sb_shl0]
  exact k p l e s m args below meth c D dA B0 H0 C dom0 al0 al H locs cells slots ls hR hA hS hc hs ho hv.tl hl
theorem byt_at {x : Int} (hx : 0 ≤ x ∧ x < 128) : (Int32.ofInt x).toInt8.toInt32 = Int32.ofInt x ∧ narrow .byte (.int (Int32.ofInt x)) = .int (Int32.ofInt x) ∧ fits .byte (.int (Int32.ofInt x)) = true := by
  obtain ⟨n, rfl⟩ := Int.eq_ofNat_of_zero_le hx.1
  have : ∀ n : Fin 128, (Int32.ofInt ((n.val : Nat) : Int)).toInt8.toInt32 = Int32.ofInt ((n.val : Nat) : Int) ∧ narrow .byte (.int (Int32.ofInt ((n.val : Nat) : Int))) = .int (Int32.ofInt ((n.val : Nat) : Int)) ∧ fits .byte (.int (Int32.ofInt ((n.val : Nat) : Int))) = true := by decide +kernel
  exact this ⟨n, by omega⟩
theorem AW.i2b {x : Int} (hd : decode M.2.1 pc = .ok (.i2b, 1)) (hx : 0 ≤ x ∧ x < 128) (k : AW M fr lo mc ms Q bc bs (pc + 1) h loc (vi x :: st)) : AW M fr lo mc ms Q bc bs pc h loc (vi x :: st) := by
  intro p l e s m args below meth c D dA B0 H0 C dom0 al0 al H locs cells slots ls hR hA hS hc hs ho hv hl
  exact lv_i2b (v := Int32.ofInt x) C.1 C.2.1 hd (byt_at hx).1 (k p l e s m args below meth c D dA B0 H0 C dom0 al0 al H locs cells slots ls hR hA hS hc hs ho hv hl)
theorem AW.dupx1 {v w : AV} (hd : decode M.2.1 pc = .ok (.dup_x1, 1)) (h1 : cat2 v = false) (h2 : cat2 w = false) (k : AW M fr lo mc ms Q bc bs (pc + 1) h loc (v :: w :: v :: st)) : AW M fr lo mc ms Q bc bs pc h loc (v :: w :: st) := by
  intro p l e s m args below meth c D dA B0 H0 C dom0 al0 al H locs cells slots ls hR hA hS hc hs ho hv hl
  exact lv_dup_x1 C.1 C.2.1 hd (rv_cat1 h1) (rv_cat1 h2) (k p l e s m args below meth c D dA B0 H0 C dom0 al0 al H locs cells slots ls hR hA hS hc hs ho (.cons hv.hd (.cons hv.tl.hd (.cons hv.hd hv.tl.tl))) hl)
theorem AW.bld {i : Int} {n : Nm} {len : Nat} (hd : decode M.2.1 pc = .ok (.baload, 1)) (hn : hT h n = some (30, len)) (h0 : 0 ≤ i) (h1 : i < len) (k : AW M fr lo mc ms Q bc bs (pc + 1) h loc (vi (hI h n i.toNat) :: st)) : AW M fr lo mc ms Q bc bs pc h loc (vi i :: vr n :: st) := by
  intro p l e s m args below meth c D dA B0 H0 C dom0 al0 al H locs cells slots ls hZ hA hS hc hs ho hv hl9
  have hW := C.2.2.2.2.2.2.2.2.1
  have hi : inR i := hv.hd
  have k' := k p l e s m args below meth c D dA B0 H0 C dom0 al0 al H locs cells slots ls hZ hA hS hc hs ho (.cons (hZ.2.2.1 n i.toNat) hv.tl.tl) hl9
  exact W.bald (v := rI (hI h n i.toNat)) C.1 C.2.1 (hZ.arr (t := 10) hn (by omega)) (ety_at (t := 10) dA (by omega) hW.1 len _) (fun z => by cases z) (by rw [arrV_size]; exact inB hi h0 h1) (by rw [i32_cl hi, arrV_read _ _ (by omega)]; rfl) rfl rfl hd k'
theorem AW.bst {i x : Int} {n : Nm} {len : Nat} (hd : decode M.2.1 pc = .ok (.bastore, 1)) (hn : hT h n = some (30, len)) (h0 : 0 ≤ i) (h1 : i < len) (hb : 0 ≤ x ∧ x < 128) (k : AW M fr lo mc ms Q bc bs (pc + 1) (sI h n i.toNat x) loc st) : AW M fr lo mc ms Q bc bs pc h loc (vi x :: vi i :: vr n :: st) := by
  intro p l e s m args below meth c D dA B0 H0 C dom0 al0 al H locs cells slots ls hZ hA hS hc hs ho hv hl9
  have hW := C.2.2.2.2.2.2.2.2.1
  have hx : inR x := hv.hd
  have hi : inR i := hv.tl.hd
  refine W.bast C.1 C.2.1 (hZ.arr (t := 10) hn (by omega)) (ety_at (t := 10) dA (by omega) hW.1 len _) (fun z => by cases z) (by rw [arrV_size]; exact inB hi h0 h1) rfl rfl hd fun H' e1 e2 e3 => ?_
  rw [i32_cl hi, (byt_at hb).2.1] at e1
  rw [i32_cl hi]
  exact k p l e s m args below meth c D dA B0 H0 C dom0 al0 al H' _ cells slots ls (hZ.astI (t := 10) hn (by omega) hx rfl e1 e3) hA (hS.putN e2 e3 (hZ.low hn (by omega))) hc hs (okl_T rfl ho) (okvs_T rfl hv.tl.tl.tl) hl9
theorem AW.bret {x : Int} (hd : decode M.2.1 pc = .ok (.ireturn, 1)) (hr : M.2.2.2.1 = some .byte) (hb : 0 ≤ x ∧ x < 128) (hq : Q h (.inl (some (vi x)))) : AW M fr lo mc ms Q bc bs pc h loc [vi x] := by
  intro p l e s m args below meth c D dA B0 H0 C dom0 al0 al H locs cells slots ls hZ hA hS hc hs ho hv hl9
  have hlocks := C.2.2.2.2.2.2.2.1
  exact W.widen (k := mc) (n := ms) (by omega) (by omega) (vx_ret (W.zret C.1 C.2.1 (C.2.2.1.trans hr) (byt_at hb).2.1 (ends hq C hZ hA hS (fun w hw => hv w hw) rfl) hS.2.2 hd))
theorem AW.putB {idx kc len j : Nat} {n : Nm} {x : Int} (hd : decode M.2.1 pc = .ok (.putfield idx, 3)) (hn : hT h n = some (kc, len)) (hk : Nat.blt kc 10 = true) (hj : Nat.blt j (clN kc) = true) (hin : ∀ w ∈ u_ws (clR kc) (clT kc) (clN kc), w ∈ gtbl)
    (hl : Cond.fieldLink M.1.cls idx (clT kc j).1 (clT kc j).2.1 (clT kc j).2.2.1 ∈ gtbl) (hc0 : fty kc j = .byte) (hfin : (clT kc j).2.2.2 = false) (hb : 0 ≤ x ∧ x < 128)
    (k : AW M fr lo mc ms Q bc bs (pc + 3) (sI h n j x) loc st) : AW M fr lo mc ms Q bc bs pc h loc (vi x :: vr n :: st) := by
  intro p l e s m args below meth c D dA B0 H0 C dom0 al0 al H locs cells slots ls hZ hA hS hc hs ho hv hl9
  have hW := C.2.2.2.2.2.2.2.2.1
  have hx : inR x := hv.hd
  refine xput C.1 C.2.1 C.2.2.2.2.2.2.1 hin C.2.2.2.2.1 hW.1 (blt_lt hk) (hZ.obj hn (blt_lt hk)) (blt_lt hj) hl (Or.inl hfin) (by rw [hc0]; exact (byt_at hb).2.1) (by rw [hc0]; exact (byt_at hb).2.2) hd fun H' i e1 e2 e3 => ?_
  exact k p l e s m args below meth c D dA B0 H0 C dom0 al0 al H' _ cells slots ls (hZ.putI hn (blt_lt hk) hx (by rw [hc0]; rfl) e1 e3) hA (hS.putN e2 e3 (hZ.low hn (by have := blt_lt hk; omega))) hc hs (okl_T rfl ho) (okvs_T rfl hv.tl.tl) hl9
/-- the flag that Strings are compact -/
theorem AW.getsC {idx : Nat} (hd : decode M.2.1 pc = .ok (.getstatic idx, 3)) (hl : Cond.fieldLink M.1.cls idx "java/lang/String" "COMPACT_STRINGS" "Z" ∈ gtbl) (k : AW M fr lo mc ms Q bc bs (pc + 3) h loc (vi 1 :: st)) : AW M fr lo mc ms Q bc bs pc h loc st := by
  intro p l e s m args below meth c D dA B0 H0 C dom0 al0 al H locs cells slots ls hR hA hS hc hs ho hv hl9
  have hW := C.2.2.2.2.2.2.2.2.1
  exact va_gets C.1 C.2.1 hW.2.2.2.2.2.2.2.1.2.2.2.1 hS C.2.2.2.2.1 (C.2.2.2.2.2.2.1 _ hl) (fun x z => z) hd (k p l e s m args below meth c D dA B0 H0 C dom0 al0 al H locs cells slots ls hR hA hS hc hs ho (.cons ⟨by omega, by omega⟩ hv) hl9)
/-! the words of the steps -/
abbrev nWs (i : Nat) : Nm := (98, i, 0)
abbrev nWb (i : Nat) : Nm := (98, i, 1)
def WW (h : AH) : Prop := ∀ i, i < 7 → hT h (nWs i) = some (41 + i, 0) ∧ hT h (nWb i) = some (51 + i, wln.getD i 0)
theorem AW.ldcW {i idx : Nat} (hi : i < 7) (hW7 : WW h) (hM : M.1.cls = RX7) (hd : decode M.2.1 pc = .ok (.ldc_w idx, 3)) (hix : idx = wix i) (k : AW M fr lo mc ms Q bc bs (pc + 3) h loc (vr (nWs i) :: st)) : AW M fr lo mc ms Q bc bs pc h loc st := by
  subst hix
  intro p l e s m args below meth c D dA B0 H0 C dom0 al0 al H locs cells slots ls hR hA hS hc hs ho hv hl9
  have hW := C.2.2.2.2.2.2.2.2.1
  have hn := (hW7 i hi).1
  have k' := k p l e s m args below meth c D dA B0 H0 C dom0 al0 al H locs cells slots ls hR hA hS hc hs ho (.cons (fun n z => by cases z; rw [hn]; exact fun z => by cases z) hv) hl9
  have ea : al (nWs i) = dA (100 + i) := by rw [hR.str hn (by omega)]; congr 1; omega
  have e9 : rv al (vr (nWs i)) = .ref (dA (100 + i)) := by show va_rf (some (al (nWs i))) = _; rw [ea]; rfl
  rw [List.map_cons, e9] at k'
  have hZ := hW.2.2.2.2.2.2.2.1.2.1 i hi
  have hown := C.2.2.2.2.1
  rw [hM] at hown
  intro T hT X
  obtain ⟨t, a1, b1⟩ := k' T hT X
  exact ⟨t, X.ldcStringW C.1 hown (text := wtx i) (a := dA (100 + i)) hZ.1 hZ.2 (g := F0 m pc ls (st.map (rv al))) rfl (by rw [C.2.1]; exact hd) t a1, b1⟩
theorem AW.strV {i idx : Nat} (hi : i < 7) (hW7 : WW h) (hd : decode M.2.1 pc = .ok (.getfield idx, 3)) (hl : Cond.fieldLink M.1.cls idx "java/lang/String" "value" "[B" ∈ gtbl) (k : AW M fr lo mc ms Q bc bs (pc + 3) h loc (vr (nWb i) :: st)) : AW M fr lo mc ms Q bc bs pc h loc (vr (nWs i) :: st) := by
  intro p l e s m args below meth c D dA B0 H0 C dom0 al0 al H locs cells slots ls hR hA hS hc hs ho hv hl9
  have hW := C.2.2.2.2.2.2.2.2.1
  obtain ⟨hn, hb⟩ := hW7 i hi
  have k' := k p l e s m args below meth c D dA B0 H0 C dom0 al0 al H locs cells slots ls hR hA hS hc hs ho (.cons (fun n z => by cases z; rw [hb]; exact fun z => by cases z) hv.tl) hl9
  have ea : al (nWs i) = dA (100 + i) := by rw [hR.str hn (by omega)]; congr 1; omega
  have eb : al (nWb i) = dA (110 + i) := by rw [hR.str hb (by omega)]; congr 1; omega
  have e9 : rv al (vr (nWs i)) = .ref (dA (100 + i)) := by show va_rf (some (al (nWs i))) = _; rw [ea]; rfl
  have e8 : rv al (vr (nWb i)) = .ref (dA (110 + i)) := by show va_rf (some (al (nWb i))) = _; rw [eb]; rfl
  rw [List.map_cons, e8] at k'
  rw [List.map_cons, e9]
  exact vk_getf C.1 C.2.1 (hW.2.2.2.2.2.2.2.1.2.2.1.1 i hi).2.2.1 hS C.2.2.2.2.1 (C.2.2.2.2.2.2.1 _ hl) (fun x z => z) hd k'
theorem AW.strC {i idx : Nat} (hi : i < 7) (hW7 : WW h) (hd : decode M.2.1 pc = .ok (.getfield idx, 3)) (hl : Cond.fieldLink M.1.cls idx "java/lang/String" "coder" "B" ∈ gtbl) (k : AW M fr lo mc ms Q bc bs (pc + 3) h loc (vi 0 :: st)) : AW M fr lo mc ms Q bc bs pc h loc (vr (nWs i) :: st) := by
  intro p l e s m args below meth c D dA B0 H0 C dom0 al0 al H locs cells slots ls hR hA hS hc hs ho hv hl9
  have hW := C.2.2.2.2.2.2.2.2.1
  obtain ⟨hn, hb⟩ := hW7 i hi
  have k' := k p l e s m args below meth c D dA B0 H0 C dom0 al0 al H locs cells slots ls hR hA hS hc hs ho (.cons ⟨by omega, by omega⟩ hv.tl) hl9
  have ea : al (nWs i) = dA (100 + i) := by rw [hR.str hn (by omega)]; congr 1; omega
  have e9 : rv al (vr (nWs i)) = .ref (dA (100 + i)) := by show va_rf (some (al (nWs i))) = _; rw [ea]; rfl
  rw [List.map_cons, e9]
  exact vk_getf C.1 C.2.1 (hW.2.2.2.2.2.2.2.1.2.2.1.1 i hi).2.1 hS C.2.2.2.2.1 (C.2.2.2.2.2.2.1 _ hl) (fun x z => z) hd k'
theorem AW.alenW {i : Nat} (hi : i < 7) (hW7 : WW h) (hd : decode M.2.1 pc = .ok (.arraylength, 1)) (k : AW M fr lo mc ms Q bc bs (pc + 1) h loc (vi ((wln.getD i 0 : Nat) : Int) :: st)) : AW M fr lo mc ms Q bc bs pc h loc (vr (nWb i) :: st) := by
  intro p l e s m args below meth c D dA B0 H0 C dom0 al0 al H locs cells slots ls hR hA hS hc hs ho hv hl9
  have hW := C.2.2.2.2.2.2.2.2.1
  obtain ⟨hn, hb⟩ := hW7 i hi
  have hw : wln.getD i 0 < 7 := by
    have : ∀ i, i < 7 → wln.getD i 0 < 7 := by decide
    exact this i hi
  have k' := k p l e s m args below meth c D dA B0 H0 C dom0 al0 al H locs cells slots ls hR hA hS hc hs ho (.cons ⟨by omega, by omega⟩ hv.tl) hl9
  have eb : al (nWb i) = dA (110 + i) := by rw [hR.str hb (by omega)]; congr 1; omega
  have e8 : rv al (vr (nWb i)) = .ref (dA (110 + i)) := by show va_rf (some (al (nWb i))) = _; rw [eb]; rfl
  rw [List.map_cons, e8]
  exact va_tlen C.1 C.2.1 (hW.2.2.2.2.2.2.2.1.2.2.1.1 i hi).2.2.2 hS (v := Int32.ofInt ((wln.getD i 0 : Nat) : Int)) rfl hd k'
end T1
