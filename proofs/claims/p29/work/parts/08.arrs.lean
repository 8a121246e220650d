/-! ===== rows of arrays ===== -/
section ARRS
variable {M : MI} {fr lo mc ms bc bs pc : Nat} {Q : AH → AO → Prop} {h : AH} {loc : AL} {st : List AV}
variable {s : State} {H : Heap}
theorem inB {i : Int} {n : Nat} (hi : inR i) (h0 : 0 ≤ i) (h1 : i < n) : ¬ (Int32.ofInt i < 0 ∨ n ≤ (Int32.ofInt i).toNatClampNeg) := by
  rw [i32_ltz hi, i32_cl hi]
  omega
theorem ety_at (dA : Nat → ClassId) {t : Nat} (ht : t < 11) {D : va_G} (hK : va_K D vwCl (tys dA) s) (n : Nat) (f : Nat → Value) : s.isArrayOf (arrV (dA t) n f) (ety t) := (hK.2 t _ (tys_at dA t ht)).1 n f
theorem AW.aldI {i : Int} {n : Nm} {len : Nat} (hd : decode M.2.1 pc = .ok (.iaload, 1)) (hn : hT h n = some (20, len)) (h0 : 0 ≤ i) (h1 : i < len) (k : AW M fr lo mc ms Q bc bs (pc + 1) h loc (vi (hI h n i.toNat) :: st)) : AW M fr lo mc ms Q bc bs pc h loc (vi i :: vr n :: st) := by
  intro p l e s m args below meth c D dA B0 H0 C dom0 al0 al H locs cells slots ls hZ hA hS hc hs ho hv hl9
  have hW := C.2.2.2.2.2.2.2.2.1
  have hi : inR i := hv.hd
  have k' := k p l e s m args below meth c D dA B0 H0 C dom0 al0 al H locs cells slots ls hZ hA hS hc hs ho (.cons (hZ.2.2.1 n i.toNat) hv.tl.tl) hl9
  exact W.iald (v := rI (hI h n i.toNat)) C.1 C.2.1 (hZ.arr (t := 0) hn (by omega)) (ety_at (t := 0) dA (by omega) hW.1 len _) (fun z => by cases z) (by rw [arrV_size]; exact inB hi h0 h1) (by rw [i32_cl hi, arrV_read _ _ (by omega)]; rfl) rfl rfl hd k'
theorem AW.aldS {i : Int} {n : Nm} {len : Nat} (hd : decode M.2.1 pc = .ok (.iaload, 1)) (hn : hT h n = some (40, len)) (h0 : 0 ≤ i) (h1 : i < len) (k : AW M fr lo mc ms Q bc bs (pc + 1) h loc (vi (hI h n i.toNat) :: st)) : AW M fr lo mc ms Q bc bs pc h loc (vi i :: vr n :: st) := by
  intro p l e s m args below meth c D dA B0 H0 C dom0 al0 al H locs cells slots ls hZ hA hS hc hs ho hv hl9
  have hi : inR i := hv.hd
  have k' := k p l e s m args below meth c D dA B0 H0 C dom0 al0 al H locs cells slots ls hZ hA hS hc hs ho (.cons (hZ.2.2.1 n i.toNat) hv.tl.tl) hl9
  obtain ⟨scr, g1, g2, g3, g4, g5⟩ := hZ.scr hn
  exact W.iald (v := rI (hI h n i.toNat)) C.1 C.2.1 g1 g2 g3 (by rw [g4]; exact inB hi h0 h1) (by rw [i32_cl hi]; exact g5 _ (by omega)) rfl rfl hd k'
theorem AW.aldZ {i : Int} {n : Nm} {len : Nat} (hd : decode M.2.1 pc = .ok (.baload, 1)) (hn : hT h n = some (21, len)) (h0 : 0 ≤ i) (h1 : i < len) (k : AW M fr lo mc ms Q bc bs (pc + 1) h loc (vi (hI h n i.toNat) :: st)) : AW M fr lo mc ms Q bc bs pc h loc (vi i :: vr n :: st) := by
  intro p l e s m args below meth c D dA B0 H0 C dom0 al0 al H locs cells slots ls hZ hA hS hc hs ho hv hl9
  have hW := C.2.2.2.2.2.2.2.2.1
  have hi : inR i := hv.hd
  have k' := k p l e s m args below meth c D dA B0 H0 C dom0 al0 al H locs cells slots ls hZ hA hS hc hs ho (.cons (hZ.2.2.1 n i.toNat) hv.tl.tl) hl9
  exact W.zald (v := rI (hI h n i.toNat)) C.1 C.2.1 (hZ.arr (t := 1) hn (by omega)) (ety_at (t := 1) dA (by omega) hW.1 len _) (fun z => by cases z) (by rw [arrV_size]; exact inB hi h0 h1) (by rw [i32_cl hi, arrV_read _ _ (by omega)]; rfl) rfl rfl hd k'
theorem AW.aldL {i : Int} {n : Nm} {len : Nat} (hd : decode M.2.1 pc = .ok (.laload, 1)) (hn : hT h n = some (22, len)) (h0 : 0 ≤ i) (h1 : i < len) (k : AW M fr lo mc ms Q bc bs (pc + 1) h loc (vl (hL h n i.toNat) :: st)) : AW M fr lo mc ms Q bc bs pc h loc (vi i :: vr n :: st) := by
  intro p l e s m args below meth c D dA B0 H0 C dom0 al0 al H locs cells slots ls hZ hA hS hc hs ho hv hl9
  have hW := C.2.2.2.2.2.2.2.2.1
  have hi : inR i := hv.hd
  have k' := k p l e s m args below meth c D dA B0 H0 C dom0 al0 al H locs cells slots ls hZ hA hS hc hs ho (.cons trivial hv.tl.tl) hl9
  exact W.lald (v := .long (hL h n i.toNat)) C.1 C.2.1 (hZ.arr (t := 2) hn (by omega)) (ety_at (t := 2) dA (by omega) hW.1 len _) (fun z => by cases z) (by rw [arrV_size]; exact inB hi h0 h1) (by rw [i32_cl hi, arrV_read _ _ (by omega)]; rfl) rfl rfl hd k'
theorem AW.aldR {i : Int} {n : Nm} {len t : Nat} (hd : decode M.2.1 pc = .ok (.aaload, 1)) (hn : hT h n = some (20 + t, len)) (ht : t < 10) (ht2 : fco (ety t) = 2) (h0 : 0 ≤ i) (h1 : i < len) {o : Option Nm} (ho9 : hR h n i.toNat = o) (k : AW M fr lo mc ms Q bc bs (pc + 1) h loc (vq o :: st)) : AW M fr lo mc ms Q bc bs pc h loc (vi i :: vr n :: st) := by
  subst ho9
  intro p l e s m args below meth c D dA B0 H0 C dom0 al0 al H locs cells slots ls hZ hA hS hc hs ho hv hl9
  have hW := C.2.2.2.2.2.2.2.2.1
  have hi : inR i := hv.hd
  have k' := k p l e s m args below meth c D dA B0 H0 C dom0 al0 al H locs cells slots ls hZ hA hS hc hs ho (.cons (fun q z => hZ.2.2.2 n _ q z) hv.tl.tl) hl9
  have hr : (ety t).isReference = true := by
    revert ht2
    cases ety t <;> first | (intro z; exact absurd z (by decide)) | (intro _; rfl)
  refine W.aald (v := va_rf ((hR h n i.toNat).map al)) C.1 C.2.1 (hZ.arr (t := t) hn (by omega)) (ety_at (t := t) dA (by omega) hW.1 len _) hr (fun z => by cases z) (by rw [arrV_size]; exact inB hi h0 h1) ?_ rfl rfl hd k'
  rw [i32_cl hi, arrV_read _ _ (by omega)]
  unfold aval
  rw [ht2]
  rfl
theorem AW.alen {n : Nm} {t len : Nat} (hd : decode M.2.1 pc = .ok (.arraylength, 1)) (hn : hT h n = some (20 + t, len)) (ht : t < 11) (hlen : len < 2147483648) (k : AW M fr lo mc ms Q bc bs (pc + 1) h loc (vi (len : Int) :: st)) : AW M fr lo mc ms Q bc bs pc h loc (vr n :: st) := by
  intro p l e s m args below meth c D dA B0 H0 C dom0 al0 al H locs cells slots ls hZ hA hS hc hs ho hv hl9
  have hW := C.2.2.2.2.2.2.2.2.1
  have k' := k p l e s m args below meth c D dA B0 H0 C dom0 al0 al H locs cells slots ls hZ hA hS hc hs ho (.cons ⟨by omega, by omega⟩ hv.tl) hl9
  exact W.alen (n := Int32.ofInt len) C.1 C.2.1 (hZ.arr hn ht) (ety_at dA ht hW.1 len _) (by rw [arrV_size]; rfl) rfl rfl hd k'
theorem AW.alenS {n : Nm} {len : Nat} (hd : decode M.2.1 pc = .ok (.arraylength, 1)) (hn : hT h n = some (40, len)) (hlen : len < 2147483648) (k : AW M fr lo mc ms Q bc bs (pc + 1) h loc (vi (len : Int) :: st)) : AW M fr lo mc ms Q bc bs pc h loc (vr n :: st) := by
  intro p l e s m args below meth c D dA B0 H0 C dom0 al0 al H locs cells slots ls hZ hA hS hc hs ho hv hl9
  have k' := k p l e s m args below meth c D dA B0 H0 C dom0 al0 al H locs cells slots ls hZ hA hS hc hs ho (.cons ⟨by omega, by omega⟩ hv.tl) hl9
  obtain ⟨scr, g1, g2, g3, g4, g5⟩ := hZ.scr hn
  exact W.alen (n := Int32.ofInt len) C.1 C.2.1 g1 g2 (by rw [g4]; rfl) rfl rfl hd k'
/-! stores -/
theorem updV_fun {f g : Nat → Value} {i : Nat} {v : Value} (h1 : g i = v) (h2 : ∀ j, j ≠ i → g j = f j) : updV f i v = g := by
  funext j
  unfold updV
  split
  · next e => rw [e, h1]
  · next e => rw [h2 j e]
theorem RelH.astI {D : va_G} {dA : Nat → ClassId} {B0 : Nat} {al : Nm → Nat} {H' : Heap} {n : Nm} {t len j : Nat} {x : Int} (R : RelH s D dA B0 al h H) (hn : hT h n = some (20 + t, len)) (ht : t < 11) (hx : inR x) (hc0 : fco (ety t) = 0)
    (hO : H'[al n]? = some ((arrV (dA t) len (aval al h n t)).setSlot j (rI x))) (hq : ∀ q : Nat, q ≠ al n → H'[q]? = H[q]?) : RelH s D dA B0 al (sI h n j x) H' := by
  have hne : hT h n ≠ none := by rw [hn]; exact fun z => by cases z
  refine R.upd (n := n) rfl hne (fun m e j => by rw [hI_sI, if_neg (fun z => e z.1)]) (fun m e j => rfl) (fun m e j => rfl) ?_ hq (fun i => ?_) (fun i m z => R.2.2.2 n i m z)
  · unfold relC
    rw [hT_sI, hn]
    dsimp only
    rw [if_neg (by omega), if_pos (by omega), Nat.add_sub_cancel_left]
    refine ⟨R.low hn (by omega), by omega, ?_⟩
    rw [hO, arrV_store]
    congr 2
    refine updV_fun ?_ fun i hi => ?_
    · unfold aval; rw [hc0]; show rI (hI (sI h n j x) n j) = rI x; rw [hI_sI, if_pos ⟨rfl, rfl⟩]
    · unfold aval; rw [hc0]; show rI (hI (sI h n j x) n i) = rI (hI h n i); rw [hI_sI, if_neg (fun z => hi z.2)]
  · rw [hI_sI]
    split
    · exact hx
    · exact R.2.2.1 n i
theorem RelH.astL {D : va_G} {dA : Nat → ClassId} {B0 : Nat} {al : Nm → Nat} {H' : Heap} {n : Nm} {len j : Nat} {x : Int64} (R : RelH s D dA B0 al h H) (hn : hT h n = some (22, len))
    (hO : H'[al n]? = some ((arrV (dA 2) len (aval al h n 2)).setSlot j (.long x))) (hq : ∀ q : Nat, q ≠ al n → H'[q]? = H[q]?) : RelH s D dA B0 al (sL h n j x) H' := by
  have hne : hT h n ≠ none := by rw [hn]; exact fun z => by cases z
  refine R.upd (n := n) rfl hne (fun m e j => rfl) (fun m e j => by rw [hL_sL, if_neg (fun z => e z.1)]) (fun m e j => rfl) ?_ hq (fun i => R.2.2.1 n i) (fun i m z => R.2.2.2 n i m z)
  unfold relC
  rw [hT_sL, hn]
  dsimp only
  rw [if_neg (by omega), if_pos (by omega)]
  refine ⟨R.low hn (by omega), by omega, ?_⟩
  rw [hO, arrV_store]
  congr 2
  refine updV_fun ?_ fun i hi => ?_
  · show Value.long (hL (sL h n j x) n j) = .long x; rw [hL_sL, if_pos ⟨rfl, rfl⟩]
  · show Value.long (hL (sL h n j x) n i) = .long (hL h n i); rw [hL_sL, if_neg (fun z => hi z.2)]
theorem RelH.astR {D : va_G} {dA : Nat → ClassId} {B0 : Nat} {al : Nm → Nat} {H' : Heap} {n : Nm} {t len j : Nat} {o : Option Nm} (R : RelH s D dA B0 al h H) (hn : hT h n = some (20 + t, len)) (ht : t < 11) (ho : okv h (vq o)) (hc0 : fco (ety t) = 2)
    (hO : H'[al n]? = some ((arrV (dA t) len (aval al h n t)).setSlot j (va_rf (o.map al)))) (hq : ∀ q : Nat, q ≠ al n → H'[q]? = H[q]?) : RelH s D dA B0 al (sR h n j o) H' := by
  have hne : hT h n ≠ none := by rw [hn]; exact fun z => by cases z
  refine R.upd (n := n) rfl hne (fun m e j => rfl) (fun m e j => rfl) (fun m e j => by rw [hR_sR, if_neg (fun z => e z.1)]) ?_ hq (fun i => R.2.2.1 n i) (fun i m z => ?_)
  · unfold relC
    rw [hT_sR, hn]
    dsimp only
    rw [if_neg (by omega), if_pos (by omega), Nat.add_sub_cancel_left]
    refine ⟨R.low hn (by omega), by omega, ?_⟩
    rw [hO, arrV_store]
    congr 2
    refine updV_fun ?_ fun i hi => ?_
    · unfold aval; rw [hc0]; show va_rf ((hR (sR h n j o) n j).map al) = _; rw [hR_sR, if_pos ⟨rfl, rfl⟩]
    · unfold aval; rw [hc0]; show va_rf ((hR (sR h n j o) n i).map al) = va_rf ((hR h n i).map al); rw [hR_sR, if_neg (fun z => hi z.2)]
  · rw [hR_sR] at z
    split at z
    · exact ho m z
    · exact R.2.2.2 n i m z
theorem AW.astI {i x : Int} {n : Nm} {len : Nat} (hd : decode M.2.1 pc = .ok (.iastore, 1)) (hn : hT h n = some (20, len)) (h0 : 0 ≤ i) (h1 : i < len) (k : AW M fr lo mc ms Q bc bs (pc + 1) (sI h n i.toNat x) loc st) : AW M fr lo mc ms Q bc bs pc h loc (vi x :: vi i :: vr n :: st) := by
  intro p l e s m args below meth c D dA B0 H0 C dom0 al0 al H locs cells slots ls hZ hA hS hc hs ho hv hl9
  have hW := C.2.2.2.2.2.2.2.2.1
  have hx : inR x := hv.hd
  have hi : inR i := hv.tl.hd
  refine W.iast C.1 C.2.1 (hZ.arr (t := 0) hn (by omega)) (ety_at (t := 0) dA (by omega) hW.1 len _) (fun z => by cases z) (by rw [arrV_size]; exact inB hi h0 h1) rfl rfl hd fun H' e1 e2 e3 => ?_
  rw [i32_cl hi] at e1 ⊢
  exact k p l e s m args below meth c D dA B0 H0 C dom0 al0 al H' _ cells slots ls (hZ.astI (t := 0) hn (by omega) hx rfl e1 e3) hA (hS.putN e2 e3 (hZ.low hn (by omega))) hc hs (okl_T rfl ho) (okvs_T rfl hv.tl.tl.tl) hl9
theorem AW.astZ {i x : Int} {n : Nm} {len : Nat} (hd : decode M.2.1 pc = .ok (.bastore, 1)) (hn : hT h n = some (21, len)) (h0 : 0 ≤ i) (h1 : i < len) (hb : x = 0 ∨ x = 1) (k : AW M fr lo mc ms Q bc bs (pc + 1) (sI h n i.toNat x) loc st) : AW M fr lo mc ms Q bc bs pc h loc (vi x :: vi i :: vr n :: st) := by
  intro p l e s m args below meth c D dA B0 H0 C dom0 al0 al H locs cells slots ls hZ hA hS hc hs ho hv hl9
  have hW := C.2.2.2.2.2.2.2.2.1
  have hx : inR x := hv.hd
  have hi : inR i := hv.tl.hd
  refine W.zast C.1 C.2.1 (hZ.arr (t := 1) hn (by omega)) (ety_at (t := 1) dA (by omega) hW.1 len _) (fun z => by cases z) (by rw [arrV_size]; exact inB hi h0 h1) rfl rfl hd fun H' e1 e2 e3 => ?_
  rw [i32_cl hi, (fitI.nf (Or.inr ⟨rfl, hb⟩) : narrow .boolean _ = _ ∧ _).1] at e1
  rw [i32_cl hi]
  exact k p l e s m args below meth c D dA B0 H0 C dom0 al0 al H' _ cells slots ls (hZ.astI (t := 1) hn (by omega) hx rfl e1 e3) hA (hS.putN e2 e3 (hZ.low hn (by omega))) hc hs (okl_T rfl ho) (okvs_T rfl hv.tl.tl.tl) hl9
theorem AW.astL {i : Int} {x : Int64} {n : Nm} {len : Nat} (hd : decode M.2.1 pc = .ok (.lastore, 1)) (hn : hT h n = some (22, len)) (h0 : 0 ≤ i) (h1 : i < len) (k : AW M fr lo mc ms Q bc bs (pc + 1) (sL h n i.toNat x) loc st) : AW M fr lo mc ms Q bc bs pc h loc (vl x :: vi i :: vr n :: st) := by
  intro p l e s m args below meth c D dA B0 H0 C dom0 al0 al H locs cells slots ls hZ hA hS hc hs ho hv hl9
  have hW := C.2.2.2.2.2.2.2.2.1
  have hi : inR i := hv.tl.hd
  refine W.last C.1 C.2.1 (hZ.arr (t := 2) hn (by omega)) (ety_at (t := 2) dA (by omega) hW.1 len _) (fun z => by cases z) (by rw [arrV_size]; exact inB hi h0 h1) rfl rfl hd fun H' e1 e2 e3 => ?_
  rw [i32_cl hi] at e1 ⊢
  exact k p l e s m args below meth c D dA B0 H0 C dom0 al0 al H' _ cells slots ls (hZ.astL hn e1 e3) hA (hS.putN e2 e3 (hZ.low hn (by omega))) hc hs (okl_T rfl ho) (okvs_T rfl hv.tl.tl.tl) hl9
theorem AW.astR {i : Int} {n v : Nm} {len len2 t kc : Nat} (hd : decode M.2.1 pc = .ok (.aastore, 1)) (hn : hT h n = some (20 + t, len)) (ht : t < 10) (hkc : kc < 10) (he : ety t = .object (clR kc)) (hv0 : hT h v = some (kc, len2)) (h0 : 0 ≤ i) (h1 : i < len) (k : AW M fr lo mc ms Q bc bs (pc + 1) (sR h n i.toNat (some v)) loc st) : AW M fr lo mc ms Q bc bs pc h loc (vr v :: vi i :: vr n :: st) := by
  intro p l e s m args below meth c D dA B0 H0 C dom0 al0 al H locs cells slots ls hZ hA hS hc hs ho hv hl9
  have hW := C.2.2.2.2.2.2.2.2.1
  have hi : inR i := hv.tl.hd
  obtain ⟨cellV, g1, g2, g3, -⟩ := hZ.obj hv0 hkc
  have hcls := (hW.1.1 kc _ (cl_at kc hkc)).2
  have hra := (hW.1.2 t _ (tys_at dA t (by omega))).2
  dsimp only at hra hcls
  rw [he] at hra
  obtain ⟨kA, comp, k1, k2, k3, -⟩ := hra
  have hcomp : comp = D.1 kc := Option.some.inj (k3.symm.trans hcls.1)
  subst hcomp
  obtain ⟨kC, hkC, -⟩ := hcls.2
  refine W.aast C.1 C.2.1 (hZ.arr (t := t) hn (by omega)) (fun q z => by cases z) (fun z => by cases z) k1 k2 rfl hkC ⟨by rw [i32_ltz hi]; omega, by rw [i32_cl hi, arrV_size]; omega⟩ g1 (fun q z => by rw [g3] at z; cases z) (by rw [g2]; exact hkC) (by rw [g2]; exact va_assign hcls) rfl rfl hd fun H' e1 e2 e3 => ?_
  rw [i32_cl hi] at e1 ⊢
  exact k p l e s m args below meth c D dA B0 H0 C dom0 al0 al H' _ cells slots ls (hZ.astR (o := some v) hn (by omega) hv.hd (by rw [he]; rfl) e1 e3) hA (hS.putN e2 e3 (hZ.low hn (by omega))) hc hs (okl_T rfl ho) (okvs_T rfl hv.tl.tl.tl) hl9
end ARRS
