/-! ===== a JDK's static method; counting bits, the walk ===== -/
section M0
variable {M N : MI} {fr lo mc ms bc bs pc : Nat} {Q : AH → AO → Prop} {h : AH} {loc : AL} {st : List AV}
set_option maxHeartbeats 1000000 in
theorem AW.callSF {idx n frN loN mcN msN : Nat} {as : List AV} {st0 : List AV} (hd : decode M.2.1 pc = .ok (.invokestatic idx, 3)) (hM : M.2.2.2.2 = []) (hst : st0 = as.reverse ++ st) (hlen : as.length = n) (hk : okS N n) (hlk : Cond.methodLink M.1.cls idx N.1 ∈ gtbl)
    (hfr : Nat.ble (frN + 1) fr = true) (hlo : Nat.ble (8 + (N.2.2.1 + 11) + loN) lo = true) (hb1 : Nat.ble mcN bc = true) (hb2 : Nat.ble msN bs = true) (hw9 : Nat.ble (st.map (fun v => if cat2 v then 2 else 1)).sum 8 = true)
    (hC : AC N frN loN mcN msN h as (QK (fun h' v => AW M fr lo mc ms Q (bc - mcN) (bs - msN) (pc + 3) h' loc (v.toList ++ st)) Q)) : AW M fr lo mc ms Q bc bs pc h loc st0 := by
  intro p l e s m args below meth c D dA B0 H0 C dom0 al0 al H locs cells slots ls hZ hA hS hc hs ho hv hl9
  have hw := Nat.le_of_ble_eq_true hw9
  subst hst
  obtain ⟨k0, k1, k3, k4, k5, k6, k7⟩ := hk
  have hW := C.2.2.2.2.2.2.2.2.1
  have hts := C.2.2.2.2.2.2.1
  have b1 := Nat.le_of_ble_eq_true hb1
  have b2 := Nat.le_of_ble_eq_true hb2
  have hvs : okvs h as := fun v hm => hv v (List.mem_append_left _ (List.mem_reverse.mpr hm))
  have hvt : okvs h st := fun v hm => hv v (List.mem_append_right _ hm)
  refine aw_run (Q' := QK (fun h' v => AW M fr lo mc ms Q (bc - mcN) (bs - msN) (pc + 3) h' loc (v.toList ++ st)) Q) C hM (fun h' v q => q) (fun h' E q => q) b1 b2 hA hS hc hs ho hvt hl9
    (vx_runS (Ts := gtbl) (own := M.1.cls) (bytes := N.2.1) (maxL := N.2.2.1) (ret := N.2.2.2.1) (nL := M.2.2.1) (n := n) (As := as.map (rv al)) ⟨C.1, C.2.1, C.2.2.2.1, C.2.2.2.2.1, hts⟩ (hC l D dA B0 H0 al)
      ⟨callB_of (rm := { frames := frN, cells := mcN, slots := msN, locals := loN }) n hts (gI (wsM_in k0 k4)) (wsM_code k0) rfl rfl (hts _ k3) (hts _ hlk) ⟨k5, k6, k7⟩ ⟨Nat.le_of_ble_eq_true hfr, Nat.le_of_ble_eq_true hlo⟩, hts _ k1⟩
      ⟨blind, fun U hU hWU => ⟨rfl, hW.moved hWU (by rw [hU]; exact hS.1) (fun q hq => by rw [hU]; exact hS.2.1 q (Nat.lt_of_lt_of_le hq hW.2.2.1) (by omega)), by rw [hU]; exact hZ.moved hWU.alike, hvs⟩⟩
      rfl (by rw [List.length_map]; exact hlen) hl9.1 (by show List.map _ _ = _; rw [List.map_append, List.map_reverse]) ?_ hd ⟨by show cells + mcN ≤ mc; omega, by show slots + msN ≤ ms; omega⟩)
  refine lv_room (Nat.le_trans (Nat.le_of_eq ?_) hw)
  rw [List.map_map]
  congr 1
  refine List.map_congr_left fun v _ => ?_
  show (rv al v).category = _
  rw [← rv_cat al v]
  rcases lv_cat (rv al v) with z | z <;> rw [z] <;> rfl
theorem AW.ladd {x y : Int64} (hd : decode M.2.1 pc = .ok (.ladd, 1)) (k : AW M fr lo mc ms Q bc bs (pc + 1) h loc (vl (x + y) :: st)) : AW M fr lo mc ms Q bc bs pc h loc (vl y :: vl x :: st) := by
  intro p l e s m args below meth c D dA B0 H0 C dom0 al0 al H locs cells slots ls hR hA hS hc hs ho hv hl
  exact lv_ladd C.1 C.2.1 hd (k p l e s m args below meth c D dA B0 H0 C dom0 al0 al H locs cells slots ls hR hA hS hc hs ho (.cons trivial hv.tl.tl) hl)
theorem AW.lsub {x y : Int64} (hd : decode M.2.1 pc = .ok (.lsub, 1)) (k : AW M fr lo mc ms Q bc bs (pc + 1) h loc (vl (x - y) :: st)) : AW M fr lo mc ms Q bc bs pc h loc (vl y :: vl x :: st) := by
  intro p l e s m args below meth c D dA B0 H0 C dom0 al0 al H locs cells slots ls hR hA hS hc hs ho hv hl
  exact lv_lsub C.1 C.2.1 hd (k p l e s m args below meth c D dA B0 H0 C dom0 al0 al H locs cells slots ls hR hA hS hc hs ho (.cons trivial hv.tl.tl) hl)
def ush (x : Int64) (k : Nat) : Int64 := (x.toUInt64 >>> UInt64.ofNat k).toInt64
theorem AW.lushr {x : Int64} {k9 : Nat} (hd : decode M.2.1 pc = .ok (.lushr, 1)) (hy : k9 < 64) (k : AW M fr lo mc ms Q bc bs (pc + 1) h loc (vl (ush x k9) :: st)) : AW M fr lo mc ms Q bc bs pc h loc (vi (k9 : Int) :: vl x :: st) := by
  intro p l e s m args below meth c D dA B0 H0 C dom0 al0 al H locs cells slots ls hR hA hS hc hs ho hv hl
  refine lv_lushr (v := ush x k9) C.1 C.2.1 hd ?_ (k p l e s m args below meth c D dA B0 H0 C dom0 al0 al H locs cells slots ls hR hA hS hc hs ho (.cons trivial hv.tl.tl) hl)
  have : ∀ n : Fin 64, ((Int32.ofInt ((n.val : Nat) : Int)).toInt64.toUInt64 &&& Int64.toUInt64 63) = UInt64.ofNat n.val := by decide +kernel
  rw [this ⟨k9, hy⟩]
  rfl
theorem AW.l2i {x : Int64} (hd : decode M.2.1 pc = .ok (.l2i, 1)) (k : AW M fr lo mc ms Q bc bs (pc + 1) h loc (vi x.toInt32.toInt :: st)) : AW M fr lo mc ms Q bc bs pc h loc (vl x :: st) := by
  intro p l e s m args below meth c D dA B0 H0 C dom0 al0 al H locs cells slots ls hR hA hS hc hs ho hv hl
  refine lv_l2i (v := x.toInt32) C.1 C.2.1 hd rfl ?_
  have k' := k p l e s m args below meth c D dA B0 H0 C dom0 al0 al H locs cells slots ls hR hA hS hc hs ho (.cons (inR_i32 _) hv.tl) hl
  rw [show (vi x.toInt32.toInt :: st).map (rv al) = .int (Int32.ofInt x.toInt32.toInt) :: st.map (rv al) from rfl, Int32.ofInt_toInt] at k'
  exact k'
end M0
