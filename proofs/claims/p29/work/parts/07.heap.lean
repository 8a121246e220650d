/-! ===== rows that read and write cells ===== -/
theorem gt_ofs (ws : List Cond) (ps : List Nat) (hp : ws = ps.filterMap (fun i => tables_1[i]?)) (h : ws.all goodWord = true) : ∀ w ∈ ws, w ∈ gtbl := by
  intro w hw
  have h1 := List.all_eq_true.mp h w hw
  rw [hp] at hw
  obtain ⟨i, -, hi⟩ := List.mem_filterMap.mp hw
  exact gt_in (List.mem_append_right _ (List.mem_of_getElem? hi)) h1
theorem gt_at (w : Cond) (i : Nat) (h : tables_1[i]? = some w) (g : goodWord w = true) : w ∈ gtbl := gt_in (List.mem_append_right _ (List.mem_of_getElem? h)) g
section HEAP
variable {M : MI} {fr lo mc ms bc bs pc : Nat} {Q : AH → AO → Prop} {h : AH} {loc : AL} {st : List AV}
variable {p : Program} {l : Launch} {e : Env} {R : Room} {s : State} {m : MethodId} {args : Array Value} {below : List Frame} {meth : Method} {c : Code} {H : Heap} {locs : List Loc} {cells slots : Nat} {QQ : State → Prop}
/-- getfield, of a cell's own table -/
theorem xget {cc : ByteArray} (hx : p.tables.exec = Jvm.exec) (hb : c.code = cc) {own : String} {idx kc j : Nat} {D : va_G} {dA : Nat → ClassId} (hts : ∀ w ∈ gtbl, w.before args s = true) (hin : ∀ w ∈ u_ws (clR kc) (clT kc) (clN kc), w ∈ gtbl) (hown : s.vm.findClass own = some m.cls)
    (hK : va_K D vwCl (tys dA) s) (hk : kc < 10) {a : Nat} {V : Nat → Value} (hO : t_OB a (D.1 kc) (clN kc) (D.2 kc) H V) (hj : j < clN kc) (hl : Cond.fieldLink own idx (clT kc j).1 (clT kc j).2.1 (clT kc j).2.2.1 ∈ gtbl)
    {pc : Nat} {ls : Array Slot} {rest : List Value} (hd : decode cc pc = .ok (.getfield idx, 3)) (kk : W p l e R s m args below meth c H locs cells slots QQ (F0 m (pc + 3) ls (V j :: rest))) : W p l e R s m args below meth c H locs cells slots QQ (F0 m pc ls (.ref a :: rest)) := by
  obtain ⟨cell, q1, q2, q3, q4⟩ := hO
  obtain ⟨hS, hfc, kC, hkC, hkind⟩ := hK.1 kc _ (cl_at kc hk)
  obtain ⟨cf, kf, fi, f, hi, hsl⟩ := hS j hj
  refine W.getf hx hb hown (hts _ hl) hi (u_facts hfc hkC (u_lays hts hin hj) hi).1 q1 (by rw [q3]; exact fun h => by cases h) (v := V j) ?_ rfl rfl hd kk
  rw [hsl]
  exact q4 j hj
/-- putfield -/
theorem xput {cc : ByteArray} (hx : p.tables.exec = Jvm.exec) (hb : c.code = cc) {own : String} {idx kc j : Nat} {D : va_G} {dA : Nat → ClassId} (hts : ∀ w ∈ gtbl, w.before args s = true) (hin : ∀ w ∈ u_ws (clR kc) (clT kc) (clN kc), w ∈ gtbl) (hown : s.vm.findClass own = some m.cls)
    (hK : va_K D vwCl (tys dA) s) (hk : kc < 10) {a : Nat} {V : Nat → Value} (hO : t_OB a (D.1 kc) (clN kc) (D.2 kc) H V) (hj : j < clN kc) (hl : Cond.fieldLink own idx (clT kc j).1 (clT kc j).2.1 (clT kc j).2.2.1 ∈ gtbl)
    (hfin : (clT kc j).2.2.2 = false ∨ ((clT kc j).2.2.2 = true ∧ meth.name = "<init>" ∧ (clT kc j).1 = own)) {v : Value} (hn : narrow (fty kc j) v = v) (hfit : fits (fty kc j) v = true)
    {pc : Nat} {ls : Array Slot} {rest : List Value} (hd : decode cc pc = .ok (.putfield idx, 3))
    (kk : ∀ (H' : Heap) (i : Nat), t_OB a (D.1 kc) (clN kc) (D.2 kc) H' (updV V j v) → H'.size = H.size → (∀ q : Nat, q ≠ a → H'[q]? = H[q]?) → W p l e R s m args below meth c H' (locs ++ [⟨a, i⟩]) cells slots QQ (F0 m (pc + 3) ls rest)) : W p l e R s m args below meth c H locs cells slots QQ (F0 m pc ls (v :: .ref a :: rest)) := by
  have hc := cl_at kc hk
  have hap := va_apart (own := own) hts hin (fty kc) (cl_ty kc hk) (cl_nm kc hk) hK hc
  obtain ⟨cell, q1, q2, q3, q4⟩ := hO
  obtain ⟨hS, hfc, kC, hkC, hkind⟩ := hK.1 kc _ hc
  obtain ⟨cf, kf, fi, f, hi, hsl⟩ := hS j hj
  have hlay := hts _ (hin _ (u_in_lay hj))
  have hst := (u_facts hfc hkC (u_lays hts hin hj) hi).1
  have ht := cl_ty kc hk j hj
  unfold u_lay at hlay
  rcases hfin with hfin | ⟨hfin, hin2, hdecl⟩
  · rw [if_neg (by rw [hfin]; decide)] at hlay
    have h6 := u_store hfc hkC hkind hlay hi ht hn hfit
    refine W.putK hx hb (f := f) ⟨hown, hts _ hl, ⟨_, _, _, hi⟩, hst⟩ (by rw [q2]; exact h6) q1 q3 (by rw [hsl]; exact k2_hasslot (q4 j hj)) rfl rfl hd fun H' e1 e2 e3 => ?_
    rw [hsl] at e1 ⊢
    exact kk H' _ ⟨_, e1, q2, q3, t_set q4 hap hj v⟩ e2 e3
  · rw [if_pos hfin] at hlay
    have hcf : m.cls = cf := by
      obtain ⟨_, _, c', _, _, _, -, -, hf', -, -, -, hown2, -⟩ := Cond.laysFinal_spec hlay
      have e1 : c' = cf := by have := hi.symm.trans hf'; simp at this; exact this.1.symm
      rw [hdecl] at hown2
      rw [← e1]; exact Option.some.inj (hown.symm.trans hown2)
    have h6 := u_fits hfc hkC hkind (Or.inr hlay) hi ht hn hfit
    refine W.putFinK hx hb hown (hts _ hl) hi hst hcf hin2 (by rw [q2]; exact h6) q1 q3 (by rw [hsl]; exact k2_hasslot (q4 j hj)) rfl rfl hd fun H' e1 e2 e3 => ?_
    rw [hsl] at e1 ⊢
    exact kk H' _ ⟨_, e1, q2, q3, t_set q4 hap hj v⟩ e2 e3
theorem blt_lt {a b : Nat} (h : Nat.blt a b = true) : a < b := Nat.le_of_ble_eq_true h
theorem AW.getI {idx kc len j : Nat} {n : Nm} (hd : decode M.2.1 pc = .ok (.getfield idx, 3)) (hn : hT h n = some (kc, len)) (hk : Nat.blt kc 10 = true) (hj : Nat.blt j (clN kc) = true) (hin : ∀ w ∈ u_ws (clR kc) (clT kc) (clN kc), w ∈ gtbl)
    (hl : Cond.fieldLink M.1.cls idx (clT kc j).1 (clT kc j).2.1 (clT kc j).2.2.1 ∈ gtbl) (hc0 : fco (fty kc j) = 0) (k : AW M fr lo mc ms Q bc bs (pc + 3) h loc (vi (hI h n j) :: st)) : AW M fr lo mc ms Q bc bs pc h loc (vr n :: st) := by
  intro p l e s m args below meth c D dA B0 H0 C dom0 al0 al H locs cells slots ls hZ hA hS hc hs ho hv hl9
  have hW := C.2.2.2.2.2.2.2.2.1
  have k' := k p l e s m args below meth c D dA B0 H0 C dom0 al0 al H locs cells slots ls hZ hA hS hc hs ho (.cons (hZ.2.2.1 n j) hv.tl) hl9
  refine xget C.1 C.2.1 C.2.2.2.2.2.2.1 hin C.2.2.2.2.1 hW.1 (blt_lt hk) (hZ.obj hn (blt_lt hk)) (blt_lt hj) hl hd ?_
  have e9 : fval al h n kc j = rI (hI h n j) := by unfold fval; rw [hc0]; rfl
  rw [e9]
  exact k'
theorem AW.getL {idx kc len j : Nat} {n : Nm} (hd : decode M.2.1 pc = .ok (.getfield idx, 3)) (hn : hT h n = some (kc, len)) (hk : Nat.blt kc 10 = true) (hj : Nat.blt j (clN kc) = true) (hin : ∀ w ∈ u_ws (clR kc) (clT kc) (clN kc), w ∈ gtbl)
    (hl : Cond.fieldLink M.1.cls idx (clT kc j).1 (clT kc j).2.1 (clT kc j).2.2.1 ∈ gtbl) (hc0 : fco (fty kc j) = 1) (k : AW M fr lo mc ms Q bc bs (pc + 3) h loc (vl (hL h n j) :: st)) : AW M fr lo mc ms Q bc bs pc h loc (vr n :: st) := by
  intro p l e s m args below meth c D dA B0 H0 C dom0 al0 al H locs cells slots ls hZ hA hS hc hs ho hv hl9
  have hW := C.2.2.2.2.2.2.2.2.1
  have k' := k p l e s m args below meth c D dA B0 H0 C dom0 al0 al H locs cells slots ls hZ hA hS hc hs ho (.cons trivial hv.tl) hl9
  refine xget C.1 C.2.1 C.2.2.2.2.2.2.1 hin C.2.2.2.2.1 hW.1 (blt_lt hk) (hZ.obj hn (blt_lt hk)) (blt_lt hj) hl hd ?_
  have e9 : fval al h n kc j = .long (hL h n j) := by unfold fval; rw [hc0]; rfl
  rw [e9]
  exact k'
theorem AW.getR {idx kc len j : Nat} {n : Nm} (hd : decode M.2.1 pc = .ok (.getfield idx, 3)) (hn : hT h n = some (kc, len)) (hk : Nat.blt kc 10 = true) (hj : Nat.blt j (clN kc) = true) (hin : ∀ w ∈ u_ws (clR kc) (clT kc) (clN kc), w ∈ gtbl)
    (hl : Cond.fieldLink M.1.cls idx (clT kc j).1 (clT kc j).2.1 (clT kc j).2.2.1 ∈ gtbl) (hc0 : fco (fty kc j) = 2) {o : Option Nm} (ho9 : hR h n j = o) (k : AW M fr lo mc ms Q bc bs (pc + 3) h loc (vq o :: st)) : AW M fr lo mc ms Q bc bs pc h loc (vr n :: st) := by
  subst ho9
  intro p l e s m args below meth c D dA B0 H0 C dom0 al0 al H locs cells slots ls hZ hA hS hc hs ho hv hl9
  have hW := C.2.2.2.2.2.2.2.2.1
  have k' := k p l e s m args below meth c D dA B0 H0 C dom0 al0 al H locs cells slots ls hZ hA hS hc hs ho (.cons (fun q z => hZ.2.2.2 n j q z) hv.tl) hl9
  refine xget C.1 C.2.1 C.2.2.2.2.2.2.1 hin C.2.2.2.2.1 hW.1 (blt_lt hk) (hZ.obj hn (blt_lt hk)) (blt_lt hj) hl hd ?_
  have e9 : fval al h n kc j = va_rf ((hR h n j).map al) := by unfold fval; rw [hc0]; rfl
  rw [e9]
  exact k'
theorem updV_pv {V : Nat → Value} {j : Nat} {v : Value} {N : Nat} {W' : Nat → Value} (h1 : W' j = v) (h2 : ∀ i, i ≠ j → W' i = V i) : ∀ i, i < N → updV V j v i = W' i := by
  intro i _
  unfold updV
  split
  · next e => rw [e, h1]
  · next e => rw [h2 i e]
/-- behind putfield of a number -/
theorem RelH.putI {D : va_G} {dA : Nat → ClassId} {B0 : Nat} {al : Nm → Nat} {H' : Heap} {n : Nm} {kc len j : Nat} {x : Int} (R : RelH s D dA B0 al h H) (hn : hT h n = some (kc, len)) (hk : kc < 10) (hx : inR x) (hc0 : fco (fty kc j) = 0)
    (hO : t_OB (al n) (D.1 kc) (clN kc) (D.2 kc) H' (updV (fval al h n kc) j (rI x))) (hq : ∀ q : Nat, q ≠ al n → H'[q]? = H[q]?) : RelH s D dA B0 al (sI h n j x) H' := by
  have hne : hT h n ≠ none := by rw [hn]; exact fun z => by cases z
  refine R.upd (n := n) rfl hne (fun m e j => by rw [hI_sI, if_neg (fun z => e z.1)]) (fun m e j => rfl) (fun m e j => rfl) ?_ hq (fun i => ?_) (fun i m z => R.2.2.2 n i m z)
  · unfold relC
    rw [hT_sI, hn]
    dsimp only
    rw [if_pos hk]
    refine ⟨R.low hn (by omega), hO.to (updV_pv ?_ fun i hi => ?_)⟩
    · unfold fval; rw [hc0]; show rI (hI (sI h n j x) n j) = rI x; rw [hI_sI, if_pos ⟨rfl, rfl⟩]
    · unfold fval pv
      rw [hI_sI, if_neg (fun z => hi z.2)]
      rfl
  · rw [hI_sI]
    split
    · exact hx
    · exact R.2.2.1 n i
theorem RelH.putL {D : va_G} {dA : Nat → ClassId} {B0 : Nat} {al : Nm → Nat} {H' : Heap} {n : Nm} {kc len j : Nat} {x : Int64} (R : RelH s D dA B0 al h H) (hn : hT h n = some (kc, len)) (hk : kc < 10) (hc0 : fco (fty kc j) = 1)
    (hO : t_OB (al n) (D.1 kc) (clN kc) (D.2 kc) H' (updV (fval al h n kc) j (.long x))) (hq : ∀ q : Nat, q ≠ al n → H'[q]? = H[q]?) : RelH s D dA B0 al (sL h n j x) H' := by
  have hne : hT h n ≠ none := by rw [hn]; exact fun z => by cases z
  refine R.upd (n := n) rfl hne (fun m e j => rfl) (fun m e j => by rw [hL_sL, if_neg (fun z => e z.1)]) (fun m e j => rfl) ?_ hq (fun i => R.2.2.1 n i) (fun i m z => R.2.2.2 n i m z)
  unfold relC
  rw [hT_sL, hn]
  dsimp only
  rw [if_pos hk]
  refine ⟨R.low hn (by omega), hO.to (updV_pv ?_ fun i hi => ?_)⟩
  · unfold fval; rw [hc0]; show Value.long (hL (sL h n j x) n j) = .long x; rw [hL_sL, if_pos ⟨rfl, rfl⟩]
  · unfold fval pv
    rw [hL_sL, if_neg (fun z => hi z.2)]
    rfl
theorem RelH.putR {D : va_G} {dA : Nat → ClassId} {B0 : Nat} {al : Nm → Nat} {H' : Heap} {n : Nm} {kc len j : Nat} {o : Option Nm} (R : RelH s D dA B0 al h H) (hn : hT h n = some (kc, len)) (hk : kc < 10) (ho : okv h (vq o)) (hc0 : fco (fty kc j) = 2)
    (hO : t_OB (al n) (D.1 kc) (clN kc) (D.2 kc) H' (updV (fval al h n kc) j (va_rf (o.map al)))) (hq : ∀ q : Nat, q ≠ al n → H'[q]? = H[q]?) : RelH s D dA B0 al (sR h n j o) H' := by
  have hne : hT h n ≠ none := by rw [hn]; exact fun z => by cases z
  refine R.upd (n := n) rfl hne (fun m e j => rfl) (fun m e j => rfl) (fun m e j => by rw [hR_sR, if_neg (fun z => e z.1)]) ?_ hq (fun i => R.2.2.1 n i) (fun i m z => ?_)
  · unfold relC
    rw [hT_sR, hn]
    dsimp only
    rw [if_pos hk]
    refine ⟨R.low hn (by omega), hO.to (updV_pv ?_ fun i hi => ?_)⟩
    · unfold fval; rw [hc0]; show va_rf ((hR (sR h n j o) n j).map al) = _; rw [hR_sR, if_pos ⟨rfl, rfl⟩]
    · unfold fval pv
      rw [hR_sR, if_neg (fun z => hi z.2)]
      rfl
  · rw [hR_sR] at z
    split at z
    · exact ho m z
    · exact R.2.2.2 n i m z
theorem okv_T {h' : AH} (ht : hT h' = hT h) {v : AV} (k : okv h v) : okv h' v := by
  rcases v with x | x | o
  · exact k
  · trivial
  · exact fun n z => by rw [ht]; exact k n z
theorem okvs_T {h' : AH} (ht : hT h' = hT h) {vs : List AV} (k : okvs h vs) : okvs h' vs := fun v hv => okv_T ht (k v hv)
theorem okl_T {h' : AH} (ht : hT h' = hT h) {vs : AL} (k : okl h vs) : okl h' vs := fun v hv => okv_T ht (k v hv)
/-- the value may be stored in the field -/
def fitI (t : FieldType) (x : Int) : Prop := t = .int ∨ (t = .boolean ∧ (x = 0 ∨ x = 1))
theorem fitI.nf {t : FieldType} {x : Int} (h : fitI t x) : narrow t (.int (Int32.ofInt x)) = .int (Int32.ofInt x) ∧ fits t (.int (Int32.ofInt x)) = true := by
  rcases h with rfl | ⟨rfl, rfl | rfl⟩
  · exact ⟨rfl, rfl⟩
  · exact ⟨by decide +kernel, by decide +kernel⟩
  · exact ⟨by decide +kernel, by decide +kernel⟩
theorem va_S.putN {A : Nat → Prop} {H0 H' : Heap} {a i : Nat} (hS : va_S A H0 H locs) (hz : H'.size = H.size) (hq : ∀ q : Nat, q ≠ a → H'[q]? = H[q]?) (ha : A a) : va_S A H0 H' (locs ++ [⟨a, i⟩]) := hS.put hz hq ha
theorem AW.putI {idx kc len j : Nat} {n : Nm} {x : Int} (hd : decode M.2.1 pc = .ok (.putfield idx, 3)) (hn : hT h n = some (kc, len)) (hk : Nat.blt kc 10 = true) (hj : Nat.blt j (clN kc) = true) (hin : ∀ w ∈ u_ws (clR kc) (clT kc) (clN kc), w ∈ gtbl)
    (hl : Cond.fieldLink M.1.cls idx (clT kc j).1 (clT kc j).2.1 (clT kc j).2.2.1 ∈ gtbl) (hc0 : fco (fty kc j) = 0) (hfin : (clT kc j).2.2.2 = false ∨ ((clT kc j).2.2.2 = true ∧ M.1.name = "<init>" ∧ (clT kc j).1 = M.1.cls)) (hfit : fitI (fty kc j) x)
    (k : AW M fr lo mc ms Q bc bs (pc + 3) (sI h n j x) loc st) : AW M fr lo mc ms Q bc bs pc h loc (vi x :: vr n :: st) := by
  intro p l e s m args below meth c D dA B0 H0 C dom0 al0 al H locs cells slots ls hZ hA hS hc hs ho hv hl9
  have hW := C.2.2.2.2.2.2.2.2.1
  have hx : inR x := hv.hd
  refine xput C.1 C.2.1 C.2.2.2.2.2.2.1 hin C.2.2.2.2.1 hW.1 (blt_lt hk) (hZ.obj hn (blt_lt hk)) (blt_lt hj) hl (hfin.imp (fun z => z) (fun z => ⟨z.1, by rw [C.2.2.2.2.2.1]; exact z.2.1, z.2.2⟩)) hfit.nf.1 hfit.nf.2 hd fun H' i e1 e2 e3 => ?_
  exact k p l e s m args below meth c D dA B0 H0 C dom0 al0 al H' _ cells slots ls (hZ.putI hn (blt_lt hk) hx hc0 e1 e3) hA (hS.putN e2 e3 (hZ.low hn (by have := blt_lt hk; omega))) hc hs (okl_T rfl ho) (okvs_T rfl hv.tl.tl) hl9
theorem AW.putL {idx kc len j : Nat} {n : Nm} {x : Int64} (hd : decode M.2.1 pc = .ok (.putfield idx, 3)) (hn : hT h n = some (kc, len)) (hk : Nat.blt kc 10 = true) (hj : Nat.blt j (clN kc) = true) (hin : ∀ w ∈ u_ws (clR kc) (clT kc) (clN kc), w ∈ gtbl)
    (hl : Cond.fieldLink M.1.cls idx (clT kc j).1 (clT kc j).2.1 (clT kc j).2.2.1 ∈ gtbl) (hc0 : fty kc j = .long) (hfin : (clT kc j).2.2.2 = false ∨ ((clT kc j).2.2.2 = true ∧ M.1.name = "<init>" ∧ (clT kc j).1 = M.1.cls))
    (k : AW M fr lo mc ms Q bc bs (pc + 3) (sL h n j x) loc st) : AW M fr lo mc ms Q bc bs pc h loc (vl x :: vr n :: st) := by
  intro p l e s m args below meth c D dA B0 H0 C dom0 al0 al H locs cells slots ls hZ hA hS hc hs ho hv hl9
  have hW := C.2.2.2.2.2.2.2.2.1
  refine xput (v := .long x) C.1 C.2.1 C.2.2.2.2.2.2.1 hin C.2.2.2.2.1 hW.1 (blt_lt hk) (hZ.obj hn (blt_lt hk)) (blt_lt hj) hl (hfin.imp (fun z => z) (fun z => ⟨z.1, by rw [C.2.2.2.2.2.1]; exact z.2.1, z.2.2⟩)) (by rw [hc0]; rfl) (by rw [hc0]; rfl) hd fun H' i e1 e2 e3 => ?_
  exact k p l e s m args below meth c D dA B0 H0 C dom0 al0 al H' _ cells slots ls (hZ.putL hn (blt_lt hk) (by rw [hc0]; rfl) e1 e3) hA (hS.putN e2 e3 (hZ.low hn (by have := blt_lt hk; omega))) hc hs (okl_T rfl ho) (okvs_T rfl hv.tl.tl) hl9
theorem rf_nf {t : FieldType} (hc0 : fco t = 2) (o : Option Nat) : narrow t (va_rf o) = va_rf o ∧ fits t (va_rf o) = true := by
  cases t <;> first | (exact absurd hc0 (by decide)) | (cases o <;> exact ⟨rfl, rfl⟩)
theorem AW.putR {idx kc len j : Nat} {n : Nm} {o : Option Nm} (hd : decode M.2.1 pc = .ok (.putfield idx, 3)) (hn : hT h n = some (kc, len)) (hk : Nat.blt kc 10 = true) (hj : Nat.blt j (clN kc) = true) (hin : ∀ w ∈ u_ws (clR kc) (clT kc) (clN kc), w ∈ gtbl)
    (hl : Cond.fieldLink M.1.cls idx (clT kc j).1 (clT kc j).2.1 (clT kc j).2.2.1 ∈ gtbl) (hc0 : fco (fty kc j) = 2) (hfin : (clT kc j).2.2.2 = false ∨ ((clT kc j).2.2.2 = true ∧ M.1.name = "<init>" ∧ (clT kc j).1 = M.1.cls))
    (k : AW M fr lo mc ms Q bc bs (pc + 3) (sR h n j o) loc st) : AW M fr lo mc ms Q bc bs pc h loc (vq o :: vr n :: st) := by
  intro p l e s m args below meth c D dA B0 H0 C dom0 al0 al H locs cells slots ls hZ hA hS hc hs ho hv hl9
  have hW := C.2.2.2.2.2.2.2.2.1
  refine xput (v := va_rf (o.map al)) C.1 C.2.1 C.2.2.2.2.2.2.1 hin C.2.2.2.2.1 hW.1 (blt_lt hk) (hZ.obj hn (blt_lt hk)) (blt_lt hj) hl (hfin.imp (fun z => z) (fun z => ⟨z.1, by rw [C.2.2.2.2.2.1]; exact z.2.1, z.2.2⟩)) (rf_nf hc0 _).1 (rf_nf hc0 _).2 hd fun H' i e1 e2 e3 => ?_
  exact k p l e s m args below meth c D dA B0 H0 C dom0 al0 al H' _ cells slots ls (hZ.putR hn (blt_lt hk) hv.hd hc0 e1 e3) hA (hS.putN e2 e3 (hZ.low hn (by have := blt_lt hk; omega))) hc hs (okl_T rfl ho) (okvs_T rfl hv.tl.tl) hl9
end HEAP
