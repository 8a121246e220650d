/-! ===== new cells, calls, ends ===== -/
section NEWS
variable {M : MI} {fr lo mc ms bc bs pc : Nat} {Q : AH → AO → Prop} {h : AH} {loc : AL} {st : List AV}
variable {s : State} {H : Heap}
def nal (al : Nm → Nat) (n : Nm) (a : Nat) : Nm → Nat := fun m => if m = n then a else al m
theorem rv_al {al al' : Nm → Nat} {v : AV} (hv : okv h v) (he : ∀ n, hT h n ≠ none → al' n = al n) : rv al' v = rv al v := by
  rcases v with x | x | o
  · rfl
  · rfl
  · cases o with
    | none => rfl
    | some n => show va_rf (some (al' n)) = va_rf (some (al n)); rw [he n (hv n rfl)]
theorem rvs_al {al al' : Nm → Nat} {vs : List AV} (hv : okvs h vs) (he : ∀ n, hT h n ≠ none → al' n = al n) : vs.map (rv al') = vs.map (rv al) := List.map_congr_left fun v hm => rv_al (hv v hm) he
theorem rl_al {al al' : Nm → Nat} {l : AL} (hv : okl h l) (he : ∀ n, hT h n ≠ none → al' n = al n) : rl al' l = rl al l := List.map_congr_left fun q hm => by rw [rv_al (hv q hm) he]
theorem okv_le {h' : AH} (he : ∀ n, hT h n ≠ none → hT h' n ≠ none) {v : AV} (k : okv h v) : okv h' v := by
  rcases v with x | x | o
  · exact k
  · trivial
  · exact fun n z => he n (k n z)
theorem nal_eq {al : Nm → Nat} {n : Nm} {a : Nat} (hn : hT h n = none) : ∀ m, hT h m ≠ none → nal al n a m = al m := fun m hm => if_neg (fun z => hm (by rw [z]; exact hn))
theorem aN_le {n : Nm} {k len : Nat} : ∀ m, hT h m ≠ none → hT (aN h n k len) m ≠ none := fun m hm => by
  rw [hT_aN]; split
  · exact fun z => by cases z
  · exact hm
/-- a cell has come at the end of the heap -/
theorem AW.come {n : Nm} {k len nc ns pc' : Nat} (st' : List AV) (hn : hT h n = none) (kk : AW M fr lo mc ms Q (bc - nc) (bs - ns) pc' (aN h n k len) loc (vr n :: st')) (hb1 : nc ≤ bc) (hb2 : ns ≤ bs)
    {p : Program} {l : Launch} {e : Env} {m : MethodId} {args : Array Value} {below : List Frame} {meth : Method} {c : Code} {D : va_G} {dA : Nat → ClassId} {B0 : Nat} {H0 : Heap} (C : Ctx M p l s m args meth c D dA B0 H0)
    {dom0 : Nm → Prop} {al0 al : Nm → Nat} {locs : List Loc} {cells slots : Nat} {ls : Array Slot} (hZ : RelH s D dA B0 al h H) (hA : ∀ n, dom0 n → hT h n ≠ none ∧ al n = al0 n) (hS : va_S (fun q => B0 ≤ q) s.heap H locs)
    (hc : cells + bc ≤ mc) (hs : slots + bs ≤ ms) (ho : okl h loc) (hv : okvs h st') (hl : lv_has ls M.2.2.1 (rl al loc)) {H' : Heap} (hz : H'.size = H.size + 1) (hq : ∀ q, q < H.size → H'[q]? = H[q]?)
    (hC : relC s D dA B0 (nal al n H.size) (aN h n k len) H' n) :
    W p l e { frames := fr, cells := mc, slots := ms, locals := lo } s m args below meth c H' locs (cells + nc) (slots + ns) (vx_MQ below (AQc B0 D dA dom0 al0 Q) (AXc B0 D dA dom0 al0 Q) args s mc ms (fun q => B0 ≤ q)) (F0 m pc' ls (.ref H.size :: st'.map (rv al))) := by
  have he := nal_eq (h := h) (al := al) (a := H.size) hn
  have k' := kk p l e s m args below meth c D dA B0 H0 C dom0 al0 (nal al n H.size) H' locs (cells + nc) (slots + ns) ls (hZ.new hn hC hq)
    (fun m hm => ⟨aN_le m (hA m hm).1, by rw [he m (hA m hm).1]; exact (hA m hm).2⟩) ⟨Nat.le_trans hS.1 (by omega), fun q h1 h2 => by rw [hq q (Nat.lt_of_lt_of_le h1 hS.1)]; exact hS.2.1 q h1 h2, hS.2.2⟩ (by omega) (by omega)
    (fun q hm => okv_le aN_le (ho q hm)) (.cons (fun m z => by cases z; rw [hT_aN, if_pos rfl]; exact fun z => by cases z) (fun v hm => okv_le aN_le (hv v hm))) (by rw [rl_al ho he]; exact hl)
  rw [List.map_cons, rvs_al hv he] at k'
  have e9 : rv (nal al n H.size) (vr n) = .ref H.size := by show va_rf (some (nal al n H.size n)) = _; unfold nal; rw [if_pos rfl]; rfl
  rw [e9] at k'
  exact k'
def dv (c : Nat) : Value := match c with
  | 0 => .int 0
  | 1 => .long 0
  | _ => .null
theorem fty_dv : ∀ k, k < 10 → ∀ j, j < clN k → defaultValue (fty k j) = dv (fco (fty k j)) := by decide +kernel
theorem ety_dv : ∀ t, t < 11 → defaultValue (ety t) = dv (fco (ety t)) := by decide +kernel
theorem pv_new {al : Nm → Nat} {n : Nm} {k len : Nat} (c j : Nat) : pv al (aN h n k len) n c j = dv c := by
  unfold pv dv
  rcases c with _ | _ | c
  · show rI (hI (aN h n k len) n j) = _; rw [hI_aN, if_pos rfl]; rfl
  · show Value.long (hL (aN h n k len) n j) = _; rw [hL_aN, if_pos rfl]; rfl
  · show va_rf ((hR (aN h n k len) n j).map al) = _; rw [hR_aN, if_pos rfl]; rfl
theorem AW.new {idx kc : Nat} (n : Nm) (hn : hT h n = none) (hd : decode M.2.1 pc = .ok (.new idx, 3)) (hk : Nat.blt kc 10 = true) (hin : ∀ w ∈ u_ws (clR kc) (clT kc) (clN kc), w ∈ gtbl) (hcl : Cond.classLink M.1.cls idx (clR kc) ∈ gtbl) (hins : Cond.instantiable (clR kc) (clN kc) ∈ gtbl) (hini : Cond.initialized (clR kc) ∈ gtbl)
    (hb1 : Nat.ble 1 bc = true) (hb2 : Nat.ble (clN kc) bs = true) (kk : AW M fr lo mc ms Q (bc - 1) (bs - clN kc) (pc + 3) (aN h n kc 0) loc (vr n :: st)) : AW M fr lo mc ms Q bc bs pc h loc st := by
  intro p l e s m args below meth c D dA B0 H0 C dom0 al0 al H locs cells slots ls hZ hA hS hc hs ho hv hl9
  have hW := C.2.2.2.2.2.2.2.2.1
  have hts := C.2.2.2.2.2.2.1
  have b1 := Nat.le_of_ble_eq_true hb1
  have b2 := Nat.le_of_ble_eq_true hb2
  have hk' := blt_lt hk
  have hKn := hW.1.1 kc _ (cl_at kc hk')
  refine W.newcK C.1 C.2.1 C.2.2.2.2.1 (hts _ hcl) (hts _ hins) (hts _ hini) rfl hd (by show cells + 1 ≤ mc; omega) (by show slots + clN kc ≤ ms; omega) hKn.2.1 rfl fun H1 kC hkC e1 z1 o1 => ?_
  refine AW.come (H := H) st hn kk b1 b2 C hZ hA hS hc hs ho hv hl9 z1 o1 ?_
  unfold relC
  rw [hT_aN, if_pos rfl]
  dsimp only
  rw [if_pos hk']
  have e9 : nal al n H.size n = H.size := if_pos rfl
  rw [e9]
  refine ⟨Nat.le_trans hW.2.2.1 hS.1, (u_born (fty kc) hts hin hKn hkC e1 (cl_ty kc hk')).to fun j hj => ?_⟩
  rw [fty_dv kc hk' j hj]
  unfold fval
  rw [pv_new]
theorem AW.newa {t N : Nat} {at9 : ArrayType} {len : Int} (n : Nm) (hn : hT h n = none) (hd : decode M.2.1 pc = .ok (.newarray at9, 2)) (ht : t < 11) (hty : newarray.typeOf at9 = ety t) (hw : Cond.arrayClass (newarray.typeOf at9) ∈ gtbl) (hN : len = (N : Int)) (hb0 : N < 60000000)
    (hcb : componentBytes (ety t) ≤ 8) (hnm : ∀ (C : String), ety t ≠ .object C) (hb1 : Nat.ble 1 bc = true) (hb2 : Nat.ble N bs = true) (kk : AW M fr lo mc ms Q (bc - 1) (bs - N) (pc + 2) (aN h n (20 + t) N) loc (vr n :: st)) : AW M fr lo mc ms Q bc bs pc h loc (vi len :: st) := by
  intro p l e s m args below meth c D dA B0 H0 C dom0 al0 al H locs cells slots ls hZ hA hS hc hs ho hv hl9
  have hW := C.2.2.2.2.2.2.2.2.1
  have hts := C.2.2.2.2.2.2.1
  have b1 := Nat.le_of_ble_eq_true hb1
  have b2 := Nat.le_of_ble_eq_true hb2
  have hi : inR len := hv.hd
  have hcl : (Int32.ofInt len).toNatClampNeg = N := by rw [i32_cl hi, hN]; rfl
  refine va_newaK (N := N) C.1 C.2.1 (hts _ hw) rfl hd rfl (by rw [i32_ltz hi]; omega) hcl (by
    rw [hty]
    calc N * componentBytes (ety t) ≤ N * 8 := Nat.mul_le_mul_left _ hcb
      _ ≤ 536870912 := by omega) (by show cells + 1 ≤ mc; omega) (by show slots + N ≤ ms; omega) rfl fun H1 cA e1 z1 o1 _ hf => ?_
  refine AW.come (H := H) st hn kk b1 b2 C hZ hA hS hc hs ho hv.tl hl9 z1 o1 ?_
  have hra := (hW.1.2 t _ (tys_at dA t ht)).2
  dsimp only at hra
  have hcA : cA = dA t := by
    rw [hty] at hf
    revert hra hf hnm
    cases ety t with
    | object C => intro z; exact absurd rfl (z C)
    | _ => intro _ hra hf; exact Option.some.inj (hra.symm.trans hf)
  unfold relC
  rw [hT_aN, if_pos rfl]
  dsimp only
  rw [if_neg (by omega), if_pos (by omega), Nat.add_sub_cancel_left]
  have e9 : nal al n H.size n = H.size := if_pos rfl
  rw [e9]
  refine ⟨Nat.le_trans hW.2.2.1 hS.1, by omega, ?_⟩
  rw [e1, hcA, hty]
  congr 2
  funext j
  rw [ety_dv t ht]
  unfold aval
  rw [pv_new]
theorem AW.anew {t N idx kc : Nat} {len : Int} (n : Nm) (hn : hT h n = none) (hd : decode M.2.1 pc = .ok (.anewarray idx, 3)) (ht : t < 11) (hty : ety t = .object (clR kc)) (hw : Cond.classLink M.1.cls idx (clR kc) ∈ gtbl) (hao : Cond.arrayOver (.object (clR kc)) ∈ xtbl) (hN : len = (N : Int)) (hb0 : N < 60000000)
    (hb1 : Nat.ble 1 bc = true) (hb2 : Nat.ble N bs = true) (kk : AW M fr lo mc ms Q (bc - 1) (bs - N) (pc + 3) (aN h n (20 + t) N) loc (vr n :: st)) : AW M fr lo mc ms Q bc bs pc h loc (vi len :: st) := by
  intro p l e s m args below meth c D dA B0 H0 C dom0 al0 al H locs cells slots ls hZ hA hS hc hs ho hv hl9
  have hW := C.2.2.2.2.2.2.2.2.1
  have hts := C.2.2.2.2.2.2.1
  have b1 := Nat.le_of_ble_eq_true hb1
  have b2 := Nat.le_of_ble_eq_true hb2
  have hi : inR len := hv.hd
  have hcl : (Int32.ofInt len).toNatClampNeg = N := by rw [i32_cl hi, hN]; rfl
  refine W.anew C.1 C.2.1 C.2.2.2.2.1 (hts _ hw) (va_AO.use (hW.2.2.2.2.2.2.2.2 _ hao)) rfl hd rfl (by rw [i32_ltz hi]; omega) (by rw [hcl]; omega) (by show cells + 1 ≤ mc; omega) (by rw [hcl]; show slots + N ≤ ms; omega) fun cA kA comp f1 f2 f3 f4 => ?_
  rw [hcl]
  have hra := (hW.1.2 t _ (tys_at dA t ht)).2
  dsimp only at hra
  rw [hty] at hra
  obtain ⟨_, _, _, _, _, q4⟩ := hra
  have hcA : cA = dA t := Option.some.inj (f1.symm.trans q4)
  refine AW.come (H := H) st hn kk b1 b2 C hZ hA hS hc hs ho hv.tl hl9 (by simp) (fun q hq => by rw [Array.getElem?_push, if_neg (Nat.ne_of_lt hq)]) ?_
  unfold relC
  rw [hT_aN, if_pos rfl]
  dsimp only
  rw [if_neg (by omega), if_pos (by omega), Nat.add_sub_cancel_left]
  have e9 : nal al n H.size n = H.size := if_pos rfl
  rw [e9]
  refine ⟨Nat.le_trans hW.2.2.1 hS.1, by omega, ?_⟩
  rw [arrV_new, hcA]
  simp only [Array.getElem?_push_size]
  congr 2
  funext j
  unfold aval
  rw [pv_new, hty]
  rfl
end NEWS
