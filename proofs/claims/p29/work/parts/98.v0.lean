/-! ===== methods with handlers ===== -/
section HND
variable {M N : MI} {fr lo mc ms bc bs pc : Nat} {Q : AH → AO → Prop} {h : AH} {loc : AL} {st : List AV}
variable {s : State} {H : Heap}
set_option maxHeartbeats 1000000 in
/-- a contract out of the walk of a body with handlers -/
theorem AC.mkH {y : MethodName} {cc : ByteArray} {nL : Nat} {ret : Option FieldType} {r0 : Nat × Nat × Nat × Nat} {rs : List (Nat × Nat × Nat × Nat)} {vs : List AV} (hy : plainName y.cls = true) (hw : wid vs ≤ nL)
    (k : AW (y, cc, nL, ret, r0 :: rs) fr lo mc ms Q mc ms 0 h (largs 0 vs) []) : AC (y, cc, nL, ret, r0 :: rs) fr lo mc ms h vs Q := by
  intro l D dA B0 H0 al
  refine vx_ofWH (cc := cc) (maxL := nL) (ret := ret) (hh := r0 :: rs) (ws' := gtbl) hy rfl ?_
  intro p e s m args below meth c s₁ B hml hP
  obtain ⟨rfl, hW, hR, hok⟩ := hP
  have hts : ∀ w ∈ wsM (y, cc, nL, ret, r0 :: rs), w.before (vs.map (rv al)).toArray s = true := atoms_spec (ws := wsM (y, cc, nL, ret, r0 :: rs)) B.pre
  have hl := lv_entry (vs.map (rv al)) (n := nL) (by rw [lg_sl_len]; exact hw)
  rw [lg_entry_eq]
  generalize ((lg_sl (vs.map (rv al)) ++ List.replicate (nL - (lg_sl (vs.map (rv al))).length) Slot.unset).toArray) = ls at hl ⊢
  rw [← rl_largs] at hl
  refine k p l e s m _ below meth c D dA B0 H0 ⟨B.exec, B.bytes, B.returns, hml, findClass_of_methodNamed B.named, (name_of_methodNamed B.named B.method).1, fun w hw => hts w (List.mem_cons_of_mem _ hw), B.notSynchronized, hW, ?_⟩ _ al al s.heap [] 0 0 ls hR (fun n hn => ⟨hn, rfl⟩) va_S.rf (Nat.le_of_eq (Nat.zero_add _)) (Nat.le_of_eq (Nat.zero_add _)) (okl_largs vs 0 hok) okvs.nil hl
  obtain ⟨m9, meth9, c9, hn9, h1, h2, -, -, h5, -⟩ := Cond.codeWith_spec (hts (Cond.codeWith y cc nL ret (r0 :: rs)) List.mem_cons_self)
  cases B.named.symm.trans hn9
  cases B.method.symm.trans h1
  cases (Stand.of_body B).code.symm.trans h2
  exact h5
/-- the rows ahead of the one that takes it -/
def hdp (M : MI) (E : String) : List (Nat × Nat × Nat × Nat) → Prop
  | [] => True
  | z :: r => (z.2.2.2 ≠ 0 ∧ ∃ nm, Cond.classLink M.1.cls z.2.2.2 nm ∈ gtbl ∧ (E, nm) ∈ ncs) ∧ hdp M E r
theorem hdp_mem {E : String} : ∀ {l : List (Nat × Nat × Nat × Nat)}, hdp M E l → ∀ z ∈ l, z.2.2.2 ≠ 0 ∧ ∃ nm, Cond.classLink M.1.cls z.2.2.2 nm ∈ gtbl ∧ (E, nm) ∈ ncs
  | [], _, z, hz => by cases hz
  | a :: r, k, z, hz => by
    rcases List.mem_cons.mp hz with rfl | q
    · exact k.1
    · exact hdp_mem k.2 z q
/-- the handler of E around pc gives back n -/
def HD (M : MI) (pc : Nat) (E : String) (n : Int) : Prop :=
  M.2.2.2.1 = some .int ∧ (decide (-2147483648 ≤ n) && decide (n < 2147483648)) = true ∧ ∃ pre x suf, M.2.2.2.2 = pre ++ x :: suf ∧ x.1 ≤ pc ∧ pc < x.2.1 ∧ x.2.2.2 ≠ 0 ∧ Cond.classLink M.1.cls x.2.2.2 E ∈ gtbl ∧ hdp M E pre ∧
    ∃ j : Nat, j < M.2.2.1 ∧ decode M.2.1 x.2.2.1 = .ok (.astore j, 2) ∧
      ((((Int16.ofInt n).toInt32 == Int32.ofInt n) = true ∧ decode M.2.1 (x.2.2.1 + 2) = .ok (.sipush n, 3) ∧ decode M.2.1 (x.2.2.1 + 2 + 3) = .ok (.ireturn, 1)) ∨
       (((Int8.ofInt n).toInt32 == Int32.ofInt n) = true ∧ decode M.2.1 (x.2.2.1 + 2) = .ok (.bipush n, 2) ∧ decode M.2.1 (x.2.2.1 + 2 + 2) = .ok (.ireturn, 1)))
theorem castE {E : String} {k : ClassId} {args : Array Value} (h : s.vm.findClass E = some k) : (Cond.castable E E).before args s = true := by
  simp only [Cond.before, Cond.holds, Cond.value, h, va_asg]
  rfl
set_option maxHeartbeats 1000000 in
/-- a call has returned, or thrown what is caught here -/
theorem aw_runH {mcN msN : Nat} {Q' : AH → AO → Prop} {st0 : List Value} {a9 : Array Value} {p : Program} {l : Launch} {e : Env} {m : MethodId} {args : Array Value} {below : List Frame} {meth : Method} {c : Code} {D : va_G} {dA : Nat → ClassId} {B0 : Nat} {H0 : Heap} (C : Ctx M p l s m args meth c D dA B0 H0)
    (hQ : ∀ h' v, Q' h' (.inl v) → AW M fr lo mc ms Q (bc - mcN) (bs - msN) (pc + 3) h' loc (v.toList ++ st)) (hX : ∀ h' E, Q' h' (.inr E) → ∃ n, HD M pc E n ∧ Q h' (.inl (some (vi n)))) (hb1 : mcN ≤ bc) (hb2 : msN ≤ bs)
    {dom0 : Nm → Prop} {al0 al : Nm → Nat} {locs : List Loc} {cells slots : Nat} {ls : Array Slot} (hA : ∀ n, dom0 n → hT h n ≠ none ∧ al n = al0 n) (hS : va_S (fun q => B0 ≤ q) s.heap H locs)
    (hc : cells + bc ≤ mc) (hs : slots + bs ≤ ms) (ho : okl h loc) (hv : okvs h st) (hl : lv_has ls M.2.2.1 (rl al loc))
    (hrun : vx_Run p l e { frames := fr, cells := mc, slots := ms, locals := lo } s m args below meth c H locs cells slots mcN msN (F0 m pc ls st0) (st.map (rv al)) (AQc B0 D dA (fun n => hT h n ≠ none) al Q' a9) (AXc B0 D dA (fun n => hT h n ≠ none) al Q') (fun q => B0 ≤ q)) :
    W p l e { frames := fr, cells := mc, slots := ms, locals := lo } s m args below meth c H locs cells slots (vx_MQ below (AQc B0 D dA dom0 al0 Q) (AXc B0 D dA dom0 al0 Q) args s mc ms (fun q => B0 ≤ q)) (F0 m pc ls st0) := by
  intro T hT9 X
  have hS' : ∀ (st₀ t T' : State) (L : List Loc), st₀.heap = H → T'.heap = t.heap → st₀.heap.size ≤ t.heap.size → (∀ q, q < B0 → t.heap[q]? = st₀.heap[q]?) → (∀ q ∈ L, B0 ≤ q.base) → va_S (fun q => B0 ≤ q) s.heap T'.heap (locs ++ L) := by
    intro st₀ t T' L h0 e1 z1 z2 hL
    rw [h0] at z1 z2
    exact ⟨by rw [e1]; exact Nat.le_trans hS.1 z1, fun q h1 h2 => by rw [e1, z2 q (Nat.not_le.mp h2)]; exact hS.2.1 q h1 h2, fun q hq => (List.mem_append.mp hq).elim (hS.2.2 q) (hL q)⟩
  rcases hrun T hT9 X with ⟨v, st₀, t, T', L, h0, X', hL, e1, e2, ⟨v', h', al', hv', hQ', hok, z1, z2, z3, z4⟩, stp⟩ | ⟨q, st₀, t, T', L, E, ce, h0, X', hL, e1, e2, ⟨h', al', hQ', z1, z2, z3, z4⟩, hce, hcv, hcl, hst⟩
  · have ev : v = v'.map (rv al') := Outcome.returned.inj hv'
    subst ev
    have hal : s.vm.Alike T'.vm := X'.warmed.alike
    have hRel : RelH s D dA B0 al' h' T'.heap := by rw [e1]; exact z4.moved (U := s) (by rw [← e2]; exact hal.symm)
    have he : ∀ n, hT h n ≠ none → al' n = al n := fun n hn => (z3 n hn).2
    have hle : ∀ n, hT h n ≠ none → hT h' n ≠ none := fun n hn => (z3 n hn).1
    obtain ⟨t2, a1, b1⟩ := hQ h' v' hQ' p l e s m args below meth c D dA B0 H0 C dom0 al0 al' T'.heap (locs ++ L) (cells + mcN) (slots + msN) ls hRel
      (fun n hn => ⟨hle n (hA n hn).1, by rw [he n (hA n hn).1]; exact (hA n hn).2⟩) (hS' st₀ t T' L h0 e1 z1 z2 hL) (by omega) (by omega) (fun q hq => okv_le hle (ho q hq)) (fun w hw => (List.mem_append.mp hw).elim (hok w) (fun z => okv_le hle (hv w z))) (by rw [rl_al ho he]; exact hl) T' rfl X'
    refine ⟨t2, stp t2 ?_, b1⟩
    have e9 : (v'.toList ++ st).map (rv al') = (v'.map (rv al')).toList ++ st.map (rv al) := by
      rw [List.map_append, rvs_al hv he]
      cases v' <;> rfl
    rw [e9] at a1
    exact a1
  · obtain ⟨n, ⟨hr, hn9, pre, x, suf, hsp, x1, x2, x3, x4, x5, x6⟩, hq⟩ := hX h' E hQ'
    have hts := C.2.2.2.2.2.2.1
    have hncs := C.2.2.2.2.2.2.2.2.1.2.2.2.2.2.2.2.1.1
    have htab := C.2.2.2.2.2.2.2.2.2
    rw [hsp] at htab
    obtain ⟨pre', tl', hs1, hp1, ht1⟩ := List.map_eq_append_iff.mp htab
    obtain ⟨x', suf', hs2, hx1, -⟩ := List.map_eq_cons_iff.mp ht1
    have hal : s.vm.Alike T'.vm := X'.warmed.alike
    have hRel : RelH s D dA B0 al' h' T'.heap := by rw [e1]; exact z4.moved (U := s) (by rw [← e2]; exact hal.symm)
    have he : ∀ n, hT h n ≠ none → al' n = al n := fun n hn => (z3 n hn).2
    have hle : ∀ n, hT h n ≠ none → hT h' n ≠ none := fun n hn => (z3 n hn).1
    have hA' : ∀ n, dom0 n → hT h' n ≠ none ∧ al' n = al0 n := fun n hn => ⟨hle n (hA n hn).1, by rw [he n (hA n hn).1]; exact (hA n hn).2⟩
    have hS9 := hS' st₀ t T' L h0 e1 z1 z2 hL
    have hx4 : x'.catchType = x.2.2.2 := by rw [← hx1]
    have hx3 : x'.handlerPc = x.2.2.1 := by rw [← hx1]
    have hx0 : x'.startPc = x.1 := by rw [← hx1]
    have hx2 : x'.endPc = x.2.1 := by rw [← hx1]
    have hlx : lv_has ls M.2.2.1 (rl al loc) := hl
    have fin : ∀ (pc9 k9 : Nat) (ls9 : Array Slot), decode M.2.1 (pc9 + k9) = .ok (.ireturn, 1) → (∀ {Q9 : State → Prop}, W p l e { frames := fr, cells := mc, slots := ms, locals := lo } s m args below meth c T'.heap (locs ++ L) (cells + mcN) (slots + msN) Q9 (F0 m (pc9 + k9) ls9 [.int (Int32.ofInt n)]) → W p l e { frames := fr, cells := mc, slots := ms, locals := lo } s m args below meth c T'.heap (locs ++ L) (cells + mcN) (slots + msN) Q9 (F0 m pc9 ls9 [])) →
        W p l e { frames := fr, cells := mc, slots := ms, locals := lo } s m args below meth c T'.heap (locs ++ L) (cells + mcN) (slots + msN) (vx_MQ below (AQc B0 D dA dom0 al0 Q) (AXc B0 D dA dom0 al0 Q) args s mc ms (fun q => B0 ≤ q)) (F0 m pc9 ls9 []) := by
      intro pc9 k9 ls9 d2 push
      have hlocks := C.2.2.2.2.2.2.2.1
      refine push ?_
      exact W.widen (k := mc) (n := ms) (by omega) (by omega) (vx_ret (W.iret C.1 C.2.1 (C.2.2.1.trans hr) (ends (v := some (vi n)) hq C hRel hA' hS9 (fun w hw => by rw [List.mem_singleton.mp hw]; exact inR_lit hn9) rfl) hS9.2.2 d2))
    obtain ⟨t2, a1, b1⟩ := vx_catch (H := T'.heap) (c := c) (pc := pc) (E := E) (name := E) (own := M.1.cls) (ce := ce) (q := q) (ls := ls) (rest := st.map (rv al)) (Q := vx_MQ below (AQc B0 D dA dom0 al0 Q) (AXc B0 D dA dom0 al0 Q) args s mc ms (fun q => B0 ≤ q)) (locs := locs ++ L) (cells := cells + mcN) (slots := slots + msN) (p := p) (l := l) (e := e) (R := { frames := fr, cells := mc, slots := ms, locals := lo }) (s := s) (m := m) (args := args) (below := below) (meth := meth)
      C.2.2.2.2.1 pre' x' suf' (by rw [hs1, hs2]) (fun z hz => by
        obtain ⟨g0, nm, g1, g2⟩ := hdp_mem x5 _ (by rw [← hp1]; exact List.mem_map.mpr ⟨z, hz, rfl⟩)
        exact Or.inr ⟨g0, nm, hts _ g1, hncs _ g2⟩) (by simp only [covers, hx0, hx2, Bool.and_eq_true, decide_eq_true_eq]; exact ⟨x1, x2⟩) (by rw [hx4]; exact x3) (by rw [hx4]; exact hts _ x4) (castE hcl) (by rw [e1]; exact hce) hcv hcl
      (by
        rw [hx3]
        obtain ⟨j, g1, g2, ⟨g0, g3, g4⟩ | ⟨g0, g3, g4⟩⟩ := x6
        · exact lv_astore C.1 C.2.1 g2 hlx g1 rfl (fun ls' _ => fin _ 3 ls' g4 (fun k9 => lv_sipush C.1 C.2.1 g3 (eq_of_beq g0) k9))
        · exact lv_astore C.1 C.2.1 g2 hlx g1 rfl (fun ls' _ => fin _ 2 ls' g4 (fun k9 => lv_bipush C.1 C.2.1 g3 (eq_of_beq g0) k9))) T' rfl X'
    exact ⟨t2, hst.trans a1, b1⟩
/-- how a call goes on under handlers -/
abbrev QKH (M : MI) (pc : Nat) (f : AH → Option AV → Prop) (Q : AH → AO → Prop) : AH → AO → Prop := fun h' o => match o with
  | .inl v => f h' v
  | .inr E => ∃ n, HD M pc E n ∧ Q h' (.inl (some (vi n)))
set_option maxHeartbeats 1000000 in
theorem AW.callVH {idx n frN loN mcN msN : Nat} {o : Nm} {kc len : Nat} {as : List AV} {st0 : List AV} (hd : decode M.2.1 pc = .ok (.invokevirtual idx, 3)) (hst : st0 = as.reverse ++ vr o :: st) (hlen : as.length = n) (hk : okV N n) (hlk : Cond.methodLink M.1.cls idx N.1 ∈ gtbl)
    (hT0 : hT h o = some (kc, len)) (hkc : Nat.blt kc 10 = true) (hcls : clR kc = N.1.cls) (hfr : Nat.ble (frN + 1) fr = true) (hlo : Nat.ble (8 + (N.2.2.1 + 11) + loN) lo = true) (b1 : mcN ≤ bc) (b2 : msN ≤ bs) (hw9 : Nat.ble (st.map (fun v => if cat2 v then 2 else 1)).sum 8 = true)
    (hC : AC N frN loN mcN msN h (vr o :: as) (QKH M pc (fun h' v => AW M fr lo mc ms Q (bc - mcN) (bs - msN) (pc + 3) h' loc (v.toList ++ st)) Q)) : AW M fr lo mc ms Q bc bs pc h loc st0 := by
  intro p l e s m args below meth c D dA B0 H0 C dom0 al0 al H locs cells slots ls hZ hA hS hc hs ho hv hl9
  have hw := Nat.le_of_ble_eq_true hw9
  subst hst
  obtain ⟨k0, k1, k2, k3, k4, k5, k6, k7⟩ := hk
  have hW := C.2.2.2.2.2.2.2.2.1
  have hts := C.2.2.2.2.2.2.1
  have hvs : okvs h as := fun v hm => hv v (List.mem_append_left _ (List.mem_reverse.mpr hm))
  have hvt : okvs h (vr o :: st) := fun v hm => hv v (List.mem_append_right _ hm)
  refine aw_runH (Q' := QKH M pc (fun h' v => AW M fr lo mc ms Q (bc - mcN) (bs - msN) (pc + 3) h' loc (v.toList ++ st)) Q) C (fun h' v q => q) (fun h' E q => q) b1 b2 hA hS hc hs ho hvt.tl hl9
    (vx_runV (Ts := gtbl) (own := M.1.cls) (C := N.1.cls) (bytes := N.2.1) (maxL := N.2.2.1) (ret := N.2.2.2.1) (nL := M.2.2.1) (n := n) (b := al o) (As := as.map (rv al)) ⟨C.1, C.2.1, C.2.2.2.1, C.2.2.2.2.1, hts⟩ (hC l D dA B0 H0 al)
      (cwV (rm := { frames := frN, cells := mcN, slots := msN, locals := loN }) n hts (gI (fun w hw => by
        rcases List.mem_append.mp hw with z | z
        · simp only [List.mem_cons, List.not_mem_nil, or_false] at z
          rcases z with rfl | rfl | rfl | rfl
          · exact hlk
          · exact k1
          · exact k2
          · exact k3
        · exact wsM_in k0 k4 w z)) (wsM_code k0) rfl rfl ⟨rfl, k5, k6, k7⟩ ⟨Nat.le_of_ble_eq_true hfr, Nat.le_of_ble_eq_true hlo⟩)
      ⟨blind, ?_, fun U hU hWU => ⟨rfl, hW.moved hWU (by rw [hU]; exact hS.1) (fun q hq => by rw [hU]; exact hS.2.1 q (Nat.lt_of_lt_of_le hq hW.2.2.1) (by omega)), by rw [hU]; exact hZ.moved hWU.alike, .cons hvt.hd hvs⟩⟩
      rfl (by rw [List.length_map]; exact hlen) hl9.1 (by show List.map _ _ = _; rw [List.map_append, List.map_reverse]; rfl) ?_ hd ⟨by show cells + mcN ≤ mc; omega, by show slots + msN ≤ ms; omega⟩)
  · obtain ⟨cell, q1, q2, q3, -⟩ := hZ.obj hT0 (blt_lt hkc)
    have hKn := hW.1.1 kc _ (cl_at kc (blt_lt hkc))
    exact ⟨cell, q1, by rw [q3]; rfl, by rw [← hcls, q2]; exact hKn.2.1⟩
  · refine lv_room (Nat.le_trans (Nat.le_of_eq ?_) hw)
    rw [List.map_map]
    congr 1
    refine List.map_congr_left fun v _ => ?_
    show (rv al v).category = _
    rw [← rv_cat al v]
    rcases lv_cat (rv al v) with z | z <;> rw [z] <;> rfl
/-- a static callee with handlers -/
def okSH (N : MI) (n : Nat) : Prop := wsM N = Cond.codeWith N.1 N.2.1 N.2.2.1 N.2.2.2.1 N.2.2.2.2 :: gtbl ∧ Cond.static N.1 ∈ gtbl ∧ Cond.initialized N.1.cls ∈ gtbl ∧ Cond.codeWith N.1 N.2.1 N.2.2.1 N.2.2.2.1 N.2.2.2.2 ∈ gtbl ∧ N.1.cls ≠ "java/lang/invoke/MethodHandle" ∧ N.1.cls ≠ "java/lang/invoke/VarHandle" ∧ (parseMethodDescriptor N.1.desc).map (fun d => d.parameters.length) = some n
set_option maxHeartbeats 1000000 in
theorem AW.callSH {idx n frN loN mcN msN : Nat} {as : List AV} {st0 : List AV} (hd : decode M.2.1 pc = .ok (.invokestatic idx, 3)) (hM : M.2.2.2.2 = []) (hst : st0 = as.reverse ++ st) (hlen : as.length = n) (hk : okSH N n) (hlk : Cond.methodLink M.1.cls idx N.1 ∈ gtbl) (hsame : N.1.cls = M.1.cls)
    (hfr : Nat.ble (frN + 1) fr = true) (hlo : Nat.ble (8 + (N.2.2.1 + 11) + loN) lo = true) (b1 : mcN ≤ bc) (b2 : msN ≤ bs) (hw9 : Nat.ble (st.map (fun v => if cat2 v then 2 else 1)).sum 8 = true)
    (hC : AC N frN loN mcN msN h as (QK (fun h' v => AW M fr lo mc ms Q (bc - mcN) (bs - msN) (pc + 3) h' loc (v.toList ++ st)) Q)) : AW M fr lo mc ms Q bc bs pc h loc st0 := by
  intro p l e s m args below meth c D dA B0 H0 C dom0 al0 al H locs cells slots ls hZ hA hS hc hs ho hv hl9
  have hw := Nat.le_of_ble_eq_true hw9
  subst hst
  obtain ⟨k0, k1, k3, k4, k5, k6, k7⟩ := hk
  have hW := C.2.2.2.2.2.2.2.2.1
  have hts := C.2.2.2.2.2.2.1
  have hvs : okvs h as := fun v hm => hv v (List.mem_append_left _ (List.mem_reverse.mpr hm))
  have hvt : okvs h st := fun v hm => hv v (List.mem_append_right _ hm)
  refine aw_run (Q' := QK (fun h' v => AW M fr lo mc ms Q (bc - mcN) (bs - msN) (pc + 3) h' loc (v.toList ++ st)) Q) C hM (fun h' v q => q) (fun h' E q => q) b1 b2 hA hS hc hs ho hvt hl9
    (vx_runSX (Ts := gtbl) (own := M.1.cls) (bytes := N.2.1) (maxL := N.2.2.1) (ret := N.2.2.2.1) (hh := N.2.2.2.2) (nL := M.2.2.1) (n := n) (As := as.map (rv al)) ⟨C.1, C.2.1, C.2.2.2.1, C.2.2.2.2.1, hts⟩ (hC l D dA B0 H0 al)
      (vx_cwSW (rm := { frames := frN, cells := mcN, slots := msN, locals := loN }) n hts (gI (fun w hw => by
        rcases List.mem_append.mp hw with z | z
        · simp only [List.mem_cons, List.not_mem_nil, or_false] at z
          rcases z with rfl | rfl | rfl
          · exact hlk
          · exact k1
          · exact k3
        · rw [k0] at z
          rcases List.mem_cons.mp z with rfl | z
          · exact k4
          · exact z)) k0 rfl rfl ⟨k5, k6, k7⟩ ⟨Nat.le_of_ble_eq_true hfr, Nat.le_of_ble_eq_true hlo⟩)
      ⟨blind, fun U hU hWU => ⟨rfl, hW.moved hWU (by rw [hU]; exact hS.1) (fun q hq => by rw [hU]; exact hS.2.1 q (Nat.lt_of_lt_of_le hq hW.2.2.1) (by omega)), by rw [hU]; exact hZ.moved hWU.alike, hvs⟩⟩
      rfl (by rw [List.length_map]; exact hlen) hl9.1 (by show List.map _ _ = _; rw [List.map_append, List.map_reverse]) ?_ hd ⟨by show cells + mcN ≤ mc; omega, by show slots + msN ≤ ms; omega⟩)
  refine lv_room (Nat.le_trans (Nat.le_of_eq ?_) hw)
  rw [List.map_map]
  congr 1
  refine List.map_congr_left fun v _ => ?_
  show (rv al v).category = _
  rw [← rv_cat al v]
  rcases lv_cat (rv al v) with z | z <;> rw [z] <;> rfl
end HND
