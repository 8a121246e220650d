/-! ===== the JDK's text methods: calls, a String's letters copied ===== -/
section T2
variable {M N : MI} {fr lo mc ms bc bs pc : Nat} {Q : AH → AO → Prop} {h : AH} {loc : AL} {st : List AV}
theorem mon_cat {al : Nm → Nat} {st : List AV} {n : Nat} (hw : (st.map (fun v => if cat2 v then 2 else 1)).sum ≤ n) : ((st.map (rv al)).map fun v => v.category).sum ≤ n := by
  refine Nat.le_trans (Nat.le_of_eq ?_) hw
  rw [List.map_map]
  congr 1
  refine List.map_congr_left fun v _ => ?_
  show (rv al v).category = _
  rw [← rv_cat al v]
  rcases lv_cat (rv al v) with z | z <;> rw [z] <;> rfl
/-- a String's own method -/
theorem AW.callW {i idx n frN loN mcN msN : Nat} {as : List AV} {st0 : List AV} (hi : i < 7) (hW7 : WW h) (hd : decode M.2.1 pc = .ok (.invokevirtual idx, 3)) (hM : M.2.2.2.2 = []) (hst : st0 = as.reverse ++ vr (nWs i) :: st) (hlen : as.length = n) (hk : okV N n) (hlk : Cond.methodLink M.1.cls idx N.1 ∈ gtbl)
    (hcls : N.1.cls = RJ0) (hfr : Nat.ble (frN + 1) fr = true) (hlo : Nat.ble (8 + (N.2.2.1 + 11) + loN) lo = true) (hb1 : Nat.ble mcN bc = true) (hb2 : Nat.ble msN bs = true) (hw9 : Nat.ble (st.map (fun v => if cat2 v then 2 else 1)).sum 8 = true)
    (hC : AC N frN loN mcN msN h (vr (nWs i) :: as) (QK (fun h' v => AW M fr lo mc ms Q (bc - mcN) (bs - msN) (pc + 3) h' loc (v.toList ++ st)) Q)) : AW M fr lo mc ms Q bc bs pc h loc st0 := by
  intro p l e s m args below meth c D dA B0 H0 C dom0 al0 al H locs cells slots ls hZ hA hS hc hs ho hv hl9
  have hw := Nat.le_of_ble_eq_true hw9
  subst hst
  obtain ⟨k0, k1, k2, k3, k4, k5, k6, k7⟩ := hk
  have hW := C.2.2.2.2.2.2.2.2.1
  have hts := C.2.2.2.2.2.2.1
  have b1 := Nat.le_of_ble_eq_true hb1
  have b2 := Nat.le_of_ble_eq_true hb2
  have hvs : okvs h as := fun v hm => hv v (List.mem_append_left _ (List.mem_reverse.mpr hm))
  have hvt : okvs h (vr (nWs i) :: st) := fun v hm => hv v (List.mem_append_right _ hm)
  have ea : al (nWs i) = dA (100 + i) := by rw [hZ.str (hW7 i hi).1 (by omega)]; congr 1; omega
  refine aw_run (Q' := QK (fun h' v => AW M fr lo mc ms Q (bc - mcN) (bs - msN) (pc + 3) h' loc (v.toList ++ st)) Q) C hM (fun h' v q => q) (fun h' E q => q) b1 b2 hA hS hc hs ho hvt.tl hl9
    (vx_runV (Ts := gtbl) (own := M.1.cls) (C := N.1.cls) (bytes := N.2.1) (maxL := N.2.2.1) (ret := N.2.2.2.1) (nL := M.2.2.1) (n := n) (b := al (nWs i)) (As := as.map (rv al)) ⟨C.1, C.2.1, C.2.2.2.1, C.2.2.2.2.1, hts⟩ (hC l D dA B0 H0 al)
      (cwV (rm := { frames := frN, cells := mcN, slots := msN, locals := loN }) n hts (gI (fun w hw => by
        rcases List.mem_append.mp hw with z | z
        · simp only [List.mem_cons, List.not_mem_nil, or_false] at z
          rcases z with rfl | rfl | rfl | rfl
          · exact hlk
          · exact k1
          · exact k2
          · exact k3
        · exact wsM_in k0 k4 w z)) (wsM_code k0) rfl rfl ⟨rfl, k5, k6, k7⟩ ⟨Nat.le_of_ble_eq_true hfr, Nat.le_of_ble_eq_true hlo⟩)
      ⟨blind, ?_, fun U hU hWU => ⟨rfl, hW.moved hWU (by rw [hU]; exact hS.1) (fun q hq => by rw [hU]; exact hS.2.1 q (Nat.lt_of_lt_of_le hq hW.2.2.1) (by omega)), by rw [hU]; exact hZ.moved hWU.alike, .cons hvt.hd hvs⟩⟩
      rfl (by rw [List.length_map]; exact hlen) hl9.1 (by show List.map _ _ = _; rw [List.map_append, List.map_reverse]; rfl) (lv_room (mon_cat hw)) hd ⟨by show cells + mcN ≤ mc; omega, by show slots + msN ≤ ms; omega⟩)
  rw [ea, hcls]
  exact vk_recv (adK := fun i => dA (100 + i)) (i := i) hW.2.2.2.2.2.2.2.1.2.2.1 hi hS
/-- a builder's own method as its superclass has it -/
def okU (N : MI) (n : Nat) : Prop := N.2.2.2.2 = [] ∧ Cond.sameMethod N.1.cls N.1.cls N.1.name N.1.desc ∈ gtbl ∧ Cond.instanceMethod N.1 ∈ gtbl ∧ Cond.initialized N.1.cls ∈ gtbl ∧ Cond.code N.1 N.2.1 N.2.2.1 N.2.2.2.1 ∈ gtbl ∧ N.1.cls ≠ "java/lang/invoke/MethodHandle" ∧ N.1.cls ≠ "java/lang/invoke/VarHandle" ∧ (parseMethodDescriptor N.1.desc).map (fun d => d.parameters.length) = some n
theorem AW.callU {idx n frN loN mcN msN : Nat} {o : Nm} {len : Nat} {as : List AV} {st0 : List AV} (hd : decode M.2.1 pc = .ok (.invokevirtual idx, 3)) (hM : M.2.2.2.2 = []) (hst : st0 = as.reverse ++ vr o :: st) (hlen : as.length = n) (hk : okU N n) (hlk : Cond.methodLink M.1.cls idx N.1 ∈ gtbl)
    (hsl : Cond.selects RJ4 N.1 N.1 ∈ gtbl ∨ N.1 ∈ prv) (hT0 : hT h o = some (0, len)) (hfr : Nat.ble (frN + 1) fr = true) (hlo : Nat.ble (8 + (N.2.2.1 + 11) + loN) lo = true) (hb1 : Nat.ble mcN bc = true) (hb2 : Nat.ble msN bs = true) (hw9 : Nat.ble (st.map (fun v => if cat2 v then 2 else 1)).sum 8 = true)
    (hC : AC N frN loN mcN msN h (vr o :: as) (QK (fun h' v => AW M fr lo mc ms Q (bc - mcN) (bs - msN) (pc + 3) h' loc (v.toList ++ st)) Q)) : AW M fr lo mc ms Q bc bs pc h loc st0 := by
  intro p l e s m args below meth c D dA B0 H0 C dom0 al0 al H locs cells slots ls hZ hA hS hc hs ho hv hl9
  have hw := Nat.le_of_ble_eq_true hw9
  subst hst
  obtain ⟨k0, k1, k2, k3, k4, k5, k6, k7⟩ := hk
  have hW := C.2.2.2.2.2.2.2.2.1
  have hts := C.2.2.2.2.2.2.1
  have b1 := Nat.le_of_ble_eq_true hb1
  have b2 := Nat.le_of_ble_eq_true hb2
  have hvs : okvs h as := fun v hm => hv v (List.mem_append_left _ (List.mem_reverse.mpr hm))
  have hvt : okvs h (vr o :: st) := fun v hm => hv v (List.mem_append_right _ hm)
  have hsel : (Cond.selects RJ4 N.1 N.1).before args s = true := by
    rcases hsl with z | z
    · exact hts _ z
    · exact sel_warm (State.WarmedH.refl s) (hW.2.2.2.2.2.2.2.1.2.2.2.2.2 _ z)
  have hG : GoodIn gtbl (wsM N) := gI (wsM_in k0 k4)
  have hcW : Cond.code N.1 N.2.1 N.2.2.1 N.2.2.2.1 ∈ wsM N := by rw [wsM_code k0]; exact List.mem_cons_self
  refine aw_run (Q' := QK (fun h' v => AW M fr lo mc ms Q (bc - mcN) (bs - msN) (pc + 3) h' loc (v.toList ++ st)) Q) C hM (fun h' v q => q) (fun h' E q => q) b1 b2 hA hS hc hs ho hvt.tl hl9
    (vx_runU (Ts := gtbl) (own := M.1.cls) (C := RJ4) (owner := N.1.cls) (x := N.1) (bytes := N.2.1) (maxL := N.2.2.1) (ret := N.2.2.2.1) (nL := M.2.2.1) (n := n) (b := al o) (As := as.map (rv al)) (rm := { frames := frN, cells := mcN, slots := msN, locals := loN }) ⟨C.1, C.2.1, C.2.2.2.1, C.2.2.2.2.1, hts⟩ (hC l D dA B0 H0 al)
      ⟨⟨rfl, rfl, Nat.le_of_ble_eq_true hfr, Nat.le_of_ble_eq_true hlo, pay_in hts hG, hcW⟩, hts _ k4, hts _ k3, ⟨k5, k6⟩, fun sig h => by
        have h2 := k7
        rw [h] at h2
        exact (Option.some.inj h2).symm, hts _ hlk, hts _ k1, va_Decl.of (hts _ k2) (hts _ k4), hsel, hts _ k2⟩
      ⟨blind, ?_, fun U hU hWU => ⟨rfl, hW.moved hWU (by rw [hU]; exact hS.1) (fun q hq => by rw [hU]; exact hS.2.1 q (Nat.lt_of_lt_of_le hq hW.2.2.1) (by omega)), by rw [hU]; exact hZ.moved hWU.alike, .cons hvt.hd hvs⟩⟩
      rfl (by rw [List.length_map]; exact hlen) hl9.1 (by show List.map _ _ = _; rw [List.map_append, List.map_reverse]; rfl) (lv_room (mon_cat hw)) hd ⟨by show cells + mcN ≤ mc; omega, by show slots + msN ≤ ms; omega⟩)
  obtain ⟨cell, q1, q2, q3, -⟩ := hZ.obj hT0 (by omega)
  have hKn := hW.1.1 0 _ (cl_at 0 (by omega))
  exact ⟨cell, q1, by rw [q3]; rfl, by rw [q2]; exact hKn.2.1⟩
/-- super.m(..) of a builder -/
theorem AW.callSU {idx n frN loN mcN msN : Nat} {o : Nm} {len : Nat} {as : List AV} {st0 : List AV} (hd : decode M.2.1 pc = .ok (.invokespecial idx, 3)) (hM : M.2.2.2.2 = []) (hM4 : M.1.cls = RJ4) (hN5 : N.1.cls = RJ5) (hst : st0 = as.reverse ++ vr o :: st) (hlen : as.length = n) (hk : okU N n) (hlk : Cond.methodLink M.1.cls idx N.1 ∈ gtbl)
    (hno : N.1.name ≠ "<init>") (hT0 : hT h o = some (0, len)) (hfr : Nat.ble (frN + 1) fr = true) (hlo : Nat.ble (8 + (N.2.2.1 + 11) + loN) lo = true) (hb1 : Nat.ble mcN bc = true) (hb2 : Nat.ble msN bs = true) (hw9 : Nat.ble (st.map (fun v => if cat2 v then 2 else 1)).sum 8 = true)
    (hC : AC N frN loN mcN msN h (vr o :: as) (QK (fun h' v => AW M fr lo mc ms Q (bc - mcN) (bs - msN) (pc + 3) h' loc (v.toList ++ st)) Q)) : AW M fr lo mc ms Q bc bs pc h loc st0 := by
  intro p l e s m args below meth c D dA B0 H0 C dom0 al0 al H locs cells slots ls hZ hA hS hc hs ho hv hl9
  have hw := Nat.le_of_ble_eq_true hw9
  subst hst
  obtain ⟨k0, k1, k2, k3, k4, k5, k6, k7⟩ := hk
  have hW := C.2.2.2.2.2.2.2.2.1
  have hts := C.2.2.2.2.2.2.1
  have b1 := Nat.le_of_ble_eq_true hb1
  have b2 := Nat.le_of_ble_eq_true hb2
  have hvs : okvs h as := fun v hm => hv v (List.mem_append_left _ (List.mem_reverse.mpr hm))
  have hvt : okvs h (vr o :: st) := fun v hm => hv v (List.mem_append_right _ hm)
  have hG : GoodIn gtbl (wsM N) := gI (wsM_in k0 k4)
  have hcW : Cond.code N.1 N.2.1 N.2.2.1 N.2.2.2.1 ∈ wsM N := by rw [wsM_code k0]; exact List.mem_cons_self
  have hKn := hW.1.1 0 _ (cl_at 0 (by omega))
  refine aw_run (Q' := QK (fun h' v => AW M fr lo mc ms Q (bc - mcN) (bs - msN) (pc + 3) h' loc (v.toList ++ st)) Q) C hM (fun h' v q => q) (fun h' E q => q) b1 b2 hA hS hc hs ho hvt.tl hl9
    (vx_runSU (Ts := gtbl) (own := M.1.cls) (C := RJ4) (cC := D.1 0) (bytes := N.2.1) (maxL := N.2.2.1) (ret := N.2.2.2.1) (nL := M.2.2.1) (n := n) (b := al o) (As := as.map (rv al)) (rm := { frames := frN, cells := mcN, slots := msN, locals := loN }) hKn.2 ⟨C.1, C.2.1, C.2.2.2.1, C.2.2.2.2.1, hts⟩ (hC l D dA B0 H0 al)
      ⟨⟨rfl, rfl, Nat.le_of_ble_eq_true hfr, Nat.le_of_ble_eq_true hlo, pay_in hts hG, hcW⟩, hts _ hlk, hts _ k1, by rw [hM4, hN5]; exact hts _ supJ4, hts _ k2, hts _ k3, hts _ k4, hno, fun sig h => by
        have h2 := k7
        rw [h] at h2
        exact (Option.some.inj h2).symm⟩
      ⟨blind, ?_, fun U hU hWU => ⟨rfl, hW.moved hWU (by rw [hU]; exact hS.1) (fun q hq => by rw [hU]; exact hS.2.1 q (Nat.lt_of_lt_of_le hq hW.2.2.1) (by omega)), by rw [hU]; exact hZ.moved hWU.alike, .cons hvt.hd hvs⟩⟩
      rfl (by rw [List.length_map]; exact hlen) hl9.1 (by show List.map _ _ = _; rw [List.map_append, List.map_reverse]; rfl) (lv_room (mon_cat hw)) hd ⟨by show cells + mcN ≤ mc; omega, by show slots + msN ≤ ms; omega⟩)
  obtain ⟨cell, q1, q2, q3, -⟩ := hZ.obj hT0 (by omega)
  exact ⟨cell, q1, by rw [q3]; rfl, by rw [q2]; exact hKn.2.1⟩
set_option maxHeartbeats 1000000 in
theorem AW.callSG {idx n frN loN mcN msN : Nat} {as : List AV} {st0 : List AV} (hd : decode M.2.1 pc = .ok (.invokestatic idx, 3)) (hM : M.2.2.2.2 = []) (hst : st0 = as.reverse ++ st) (hlen : as.length = n) (hk : okS N n) (hlk : Cond.methodLink M.1.cls idx N.1 ∈ gtbl)
    (hfr : Nat.ble (frN + 1) fr = true) (hlo : Nat.ble (8 + (N.2.2.1 + 11) + loN) lo = true) (hb1 : Nat.ble mcN bc = true) (hb2 : Nat.ble msN bs = true) (hw9 : Nat.ble (st.map (fun v => if cat2 v then 2 else 1)).sum 8 = true)
    (hC : AC N frN loN mcN msN h as (QK (fun h' v => AW M fr lo mc ms Q (bc - mcN) (bs - msN) (pc + 3) h' loc (v.toList ++ st)) Q)) : AW M fr lo mc ms Q bc bs pc h loc st0 := by
  intro p l e s m args below meth c D dA B0 H0 C dom0 al0 al H locs cells slots ls hZ hA hS hc hs ho hv hl9
  have hw := Nat.le_of_ble_eq_true hw9
  subst hst
  obtain ⟨k0, k1, k3, k4, k5, k6, k7⟩ := hk
  have hW := C.2.2.2.2.2.2.2.2.1
  have hts := C.2.2.2.2.2.2.1
  have b1 := Nat.le_of_ble_eq_true hb1
  have b2 := Nat.le_of_ble_eq_true hb2
  have hvs : okvs h as := fun v hm => hv v (List.mem_append_left _ (List.mem_reverse.mpr hm))
  have hvt : okvs h st := fun v hm => hv v (List.mem_append_right _ hm)
  refine aw_run (Q' := QK (fun h' v => AW M fr lo mc ms Q (bc - mcN) (bs - msN) (pc + 3) h' loc (v.toList ++ st)) Q) C hM (fun h' v q => q) (fun h' E q => q) b1 b2 hA hS hc hs ho hvt hl9
    (vx_runS (Ts := gtbl) (own := M.1.cls) (bytes := N.2.1) (maxL := N.2.2.1) (ret := N.2.2.2.1) (nL := M.2.2.1) (n := n) (As := as.map (rv al)) ⟨C.1, C.2.1, C.2.2.2.1, C.2.2.2.2.1, hts⟩ (hC l D dA B0 H0 al)
      ⟨callB_of (rm := { frames := frN, cells := mcN, slots := msN, locals := loN }) n hts (gI (wsM_in k0 k4)) (wsM_code k0) rfl rfl (hts _ k3) (hts _ hlk) ⟨k5, k6, k7⟩ ⟨Nat.le_of_ble_eq_true hfr, Nat.le_of_ble_eq_true hlo⟩, hts _ k1⟩
      ⟨blind, fun U hU hWU => ⟨rfl, hW.moved hWU (by rw [hU]; exact hS.1) (fun q hq => by rw [hU]; exact hS.2.1 q (Nat.lt_of_lt_of_le hq hW.2.2.1) (by omega)), by rw [hU]; exact hZ.moved hWU.alike, hvs⟩⟩
      rfl (by rw [List.length_map]; exact hlen) hl9.1 (by show List.map _ _ = _; rw [List.map_append, List.map_reverse]) ?_ hd ⟨by show cells + mcN ≤ mc; omega, by show slots + msN ≤ ms; omega⟩)
  refine lv_room (Nat.le_trans (Nat.le_of_eq ?_) hw)
  rw [List.map_map]
  congr 1
  refine List.map_congr_left fun v _ => ?_
  show (rv al v).category = _
  rw [← rv_cat al v]
  rcases lv_cat (rv al v) with z | z <;> rw [z] <;> rfl
theorem okuJ5_append_cf1ce : okU mJ5_append_cf1ce 1 := ⟨rfl, smJ5_append_cf1ce, imJ5_append_cf1ce, iniJ5, cdJ5_append_cf1ce, by decide +kernel, by decide +kernel, by decide +kernel⟩
theorem okuJ5_ensure : okU mJ5_ensureCapacityInternal_d00df 1 := ⟨rfl, smJ5_ensureCapacityInternal_d00df, imJ5_ensureCapacityInternal_d00df, iniJ5, cdJ5_ensureCapacityInternal_d00df, by decide +kernel, by decide +kernel, by decide +kernel⟩
theorem okuJ5_isLatin1 : okU mJ5_isLatin1_aae02 0 := ⟨rfl, smJ5_isLatin1_aae02, imJ5_isLatin1_aae02, iniJ5, cdJ5_isLatin1_aae02, by decide +kernel, by decide +kernel, by decide +kernel⟩
theorem okuJ5_putStringAt : okU mJ5_putStringAt_47b60 2 := ⟨rfl, smJ5_putStringAt_47b60, imJ5_putStringAt_47b60, iniJ5, cdJ5_putStringAt_47b60, by decide +kernel, by decide +kernel, by decide +kernel⟩
theorem okuJ5_inflateIf : okU mJ5_inflateIfNeededFor_a7421 1 := ⟨rfl, smJ5_inflateIfNeededFor_a7421, imJ5_inflateIfNeededFor_a7421, iniJ5, cdJ5_inflateIfNeededFor_a7421, by decide +kernel, by decide +kernel, by decide +kernel⟩
theorem okuJ5_append_3fe6f : okU mJ5_append_3fe6f 1 := ⟨rfl, smJ5_append_3fe6f, imJ5_append_3fe6f, iniJ5, cdJ5_append_3fe6f, by decide +kernel, by decide +kernel, by decide +kernel⟩
theorem okuJ5_length : okU mJ5_length_8abf5 0 := ⟨rfl, smJ5_length_8abf5, imJ5_length_8abf5, iniJ5, cdJ5_length_8abf5, by decide +kernel, by decide +kernel, by decide +kernel⟩
theorem okuJ5_charAt : okU mJ5_charAt_5068e 1 := ⟨rfl, smJ5_charAt_5068e, imJ5_charAt_5068e, iniJ5, cdJ5_charAt_5068e, by decide +kernel, by decide +kernel, by decide +kernel⟩
end T2
