/-! ===== calls, ends, throws ===== -/
theorem gI {ws : List Cond} (hm : ∀ w ∈ ws, w ∈ gtbl) : GoodIn gtbl ws := fun w hw => ⟨hm w hw, good_of_word (List.mem_filter.mp (hm w hw)).2⟩
section RUNS
variable {M N : MI} {fr lo mc ms bc bs pc : Nat} {Q : AH → AO → Prop} {h : AH} {loc : AL} {st : List AV}
variable {s : State} {H : Heap}
theorem RelH.ext {D : va_G} {dA : Nat → ClassId} {B0 : Nat} {al : Nm → Nat} {H' : Heap} (R : RelH s D dA B0 al h H) (hq : ∀ q, q < H.size → H'[q]? = H[q]?) : RelH s D dA B0 al h H' :=
  ⟨fun n => (R.1 n).kept rfl (fun _ => rfl) (fun _ => rfl) (fun _ => rfl) (fun hn => hq _ (R.lt hn)), R.2⟩
theorem blind {l : Launch} {D : va_G} {dA : Nat → ClassId} {B0 : Nat} {H0 : Heap} {al : Nm → Nat} {vs : List AV} : FrameBlind (fun a U => a = (vs.map (rv al)).toArray ∧ Wd D dA B0 H0 l U ∧ RelH U D dA B0 al h U.heap ∧ okvs h vs) := by
  intro a U g mk hp
  obtain ⟨h1, h2, h3, h4⟩ := hp
  exact ⟨h1, h2.moved (U := U.calling g mk a) (State.WarmedH.refl _) (Nat.le_refl _) (fun q _ => rfl), h3.moved (U := U.calling g mk a) (Vm.Alike.refl U.vm), h4⟩
/-- a call has returned, or thrown what is not caught here -/
theorem aw_run {mcN msN : Nat} {Q' : AH → AO → Prop} {st0 : List Value} {a9 : Array Value} {p : Program} {l : Launch} {e : Env} {m : MethodId} {args : Array Value} {below : List Frame} {meth : Method} {c : Code} {D : va_G} {dA : Nat → ClassId} {B0 : Nat} {H0 : Heap} (C : Ctx M p l s m args meth c D dA B0 H0)
    (hM : M.2.2.2.2 = []) (hQ : ∀ h' v, Q' h' (.inl v) → AW M fr lo mc ms Q (bc - mcN) (bs - msN) (pc + 3) h' loc (v.toList ++ st)) (hX : ∀ h' E, Q' h' (.inr E) → Q h' (.inr E)) (hb1 : mcN ≤ bc) (hb2 : msN ≤ bs)
    {dom0 : Nm → Prop} {al0 al : Nm → Nat} {locs : List Loc} {cells slots : Nat} {ls : Array Slot} (hA : ∀ n, dom0 n → hT h n ≠ none ∧ al n = al0 n) (hS : va_S (fun q => B0 ≤ q) s.heap H locs)
    (hc : cells + bc ≤ mc) (hs : slots + bs ≤ ms) (ho : okl h loc) (hv : okvs h st) (hl : lv_has ls M.2.2.1 (rl al loc))
    (hrun : vx_Run p l e { frames := fr, cells := mc, slots := ms, locals := lo } s m args below meth c H locs cells slots mcN msN (F0 m pc ls st0) (st.map (rv al)) (AQc B0 D dA (fun n => hT h n ≠ none) al Q' a9) (AXc B0 D dA (fun n => hT h n ≠ none) al Q') (fun q => B0 ≤ q)) :
    W p l e { frames := fr, cells := mc, slots := ms, locals := lo } s m args below meth c H locs cells slots (vx_MQ below (AQc B0 D dA dom0 al0 Q) (AXc B0 D dA dom0 al0 Q) args s mc ms (fun q => B0 ≤ q)) (F0 m pc ls st0) := by
  intro T hT9 X
  have hS' : ∀ (st₀ t T' : State) (L : List Loc), st₀.heap = H → T'.heap = t.heap → st₀.heap.size ≤ t.heap.size → (∀ q, q < B0 → t.heap[q]? = st₀.heap[q]?) → (∀ q ∈ L, B0 ≤ q.base) → va_S (fun q => B0 ≤ q) s.heap T'.heap (locs ++ L) := by
    intro st₀ t T' L h0 e1 z1 z2 hL
    rw [h0] at z1 z2
    exact ⟨by rw [e1]; exact Nat.le_trans hS.1 z1, fun q h1 h2 => by rw [e1, z2 q (Nat.not_le.mp h2)]; exact hS.2.1 q h1 h2, fun q hq => (List.mem_append.mp hq).elim (hS.2.2 q) (hL q)⟩
  rcases hrun T hT9 X with ⟨v, st₀, t, T', L, h0, X', hL, e1, e2, ⟨v', h', al', hv', hQ', hok, z1, z2, z3, z4⟩, stp⟩ | ⟨q, st₀, t, T', L, E, ce, h0, X', hL, e1, e2, ⟨h', al', hQ', z1, z2, z3, z4⟩, hce, hcv, hcl, hst⟩
  · have ev : v = v'.map (rv al') := Outcome.returned.inj hv'
    subst ev
    have hal : s.vm.Alike T'.vm := X'.warmed.alike
    have hRel : RelH s D dA B0 al' h' T'.heap := by rw [e1]; exact z4.moved (U := s) (by rw [← e2]; exact hal.symm)
    have he : ∀ n, hT h n ≠ none → al' n = al n := fun n hn => (z3 n hn).2
    have hle : ∀ n, hT h n ≠ none → hT h' n ≠ none := fun n hn => (z3 n hn).1
    obtain ⟨t2, a1, b1⟩ := hQ h' v' hQ' p l e s m args below meth c D dA B0 H0 C dom0 al0 al' T'.heap (locs ++ L) (cells + mcN) (slots + msN) ls hRel
      (fun n hn => ⟨hle n (hA n hn).1, by rw [he n (hA n hn).1]; exact (hA n hn).2⟩) (hS' st₀ t T' L h0 e1 z1 z2 hL) (by omega) (by omega) (fun q hq => okv_le hle (ho q hq)) (fun w hw => (List.mem_append.mp hw).elim (hok w) (fun z => okv_le hle (hv w z))) (by rw [rl_al ho he]; exact hl) T' rfl X'
    refine ⟨t2, stp t2 ?_, b1⟩
    have e9 : (v'.toList ++ st).map (rv al') = (v'.map (rv al')).toList ++ st.map (rv al) := by
      rw [List.map_append, rvs_al hv he]
      cases v' <;> rfl
    rw [e9] at a1
    exact a1
  · have htab : c.exceptionTable.toList = [] := by
      have := C.2.2.2.2.2.2.2.2.2
      rw [hM] at this
      exact List.map_eq_nil_iff.mp this
    obtain ⟨t2, a1, b1⟩ := vx_out (H := T'.heap) (c := c) (pc := pc) (E := E) (ce := ce) (q := q) (mc := mc) (ms := ms) (ls := ls) (rest := st.map (rv al)) (XC := AXc B0 D dA dom0 al0 Q) (Qc := AQc B0 D dA dom0 al0 Q) (free := fun q => B0 ≤ q) (locs := locs ++ L) (cells := cells + mcN) (slots := slots + msN) (p := p) (l := l) (e := e) (R := { frames := fr, cells := mc, slots := ms, locals := lo }) (s := s) (m := m) (args := args) (below := below) (meth := meth)
      (fun x hx => by rw [htab] at hx; cases hx) C.2.2.2.2.2.2.2.1 (by rw [e1]; exact hce) hcv hcl
      (fun u hu hvm => ⟨h', al', hX h' E hQ', by rw [hu, e1]; exact Nat.le_trans hS.1 (by rw [← h0]; exact z1), fun x hx => by
          have z5 := (hS' st₀ t T' L h0 e1 z1 z2 hL).2.1
          by_cases hxs : x < s.heap.size
          · rw [hu]; exact z5 x hxs (by omega)
          · exact absurd (Nat.lt_of_lt_of_le hx C.2.2.2.2.2.2.2.2.1.2.2.1) hxs,
        fun n hn => ⟨(z3 n (hA n hn).1).1, by rw [(z3 n (hA n hn).1).2]; exact (hA n hn).2⟩, by rw [hu, e1]; exact z4.moved (by rw [← e2]; exact X'.warmed.alike.symm.trans hvm)⟩)
      (hS' st₀ t T' L h0 e1 z1 z2 hL).2.2 (by omega) (by omega) T' rfl X'
    exact ⟨t2, hst.trans a1, b1⟩
/-- what a caller's call asks of the tables -/
def okV (N : MI) (n : Nat) : Prop := N.2.2.2.2 = [] ∧ Cond.instanceMethod N.1 ∈ gtbl ∧ Cond.selects N.1.cls N.1 N.1 ∈ gtbl ∧ Cond.initialized N.1.cls ∈ gtbl ∧ Cond.code N.1 N.2.1 N.2.2.1 N.2.2.2.1 ∈ gtbl ∧ N.1.cls ≠ "java/lang/invoke/MethodHandle" ∧ N.1.cls ≠ "java/lang/invoke/VarHandle" ∧ (parseMethodDescriptor N.1.desc).map (fun d => d.parameters.length) = some n
def okS (N : MI) (n : Nat) : Prop := N.2.2.2.2 = [] ∧ Cond.static N.1 ∈ gtbl ∧ Cond.initialized N.1.cls ∈ gtbl ∧ Cond.code N.1 N.2.1 N.2.2.1 N.2.2.2.1 ∈ gtbl ∧ N.1.cls ≠ "java/lang/invoke/MethodHandle" ∧ N.1.cls ≠ "java/lang/invoke/VarHandle" ∧ (parseMethodDescriptor N.1.desc).map (fun d => d.parameters.length) = some n
def okI (N : MI) (n : Nat) : Prop := N.2.2.2.2 = [] ∧ N.1.name = "<init>" ∧ N.2.2.2.1 = none ∧ Cond.instanceMethod N.1 ∈ gtbl ∧ Cond.initialized N.1.cls ∈ gtbl ∧ Cond.code N.1 N.2.1 N.2.2.1 N.2.2.2.1 ∈ gtbl ∧ N.1.cls ≠ "java/lang/invoke/MethodHandle" ∧ N.1.cls ≠ "java/lang/invoke/VarHandle" ∧ (parseMethodDescriptor N.1.desc).map (fun d => d.parameters.length) = some n
theorem wsM_code (h0 : N.2.2.2.2 = []) : wsM N = Cond.code N.1 N.2.1 N.2.2.1 N.2.2.2.1 :: gtbl := by unfold wsM; rw [h0]
theorem wsM_in (h0 : N.2.2.2.2 = []) (hc : Cond.code N.1 N.2.1 N.2.2.1 N.2.2.2.1 ∈ gtbl) : ∀ w ∈ wsM N, w ∈ gtbl := by
  rw [wsM_code h0]
  intro w hw
  rcases List.mem_cons.mp hw with rfl | z
  · exact hc
  · exact z
/-- how a call goes on -/
abbrev QK (f : AH → Option AV → Prop) (Q : AH → AO → Prop) : AH → AO → Prop := fun h' o => match o with
  | .inl v => f h' v
  | .inr E => Q h' (.inr E)
set_option maxHeartbeats 1000000 in
theorem AW.callV {idx n frN loN mcN msN : Nat} {o : Nm} {kc len : Nat} {as : List AV} {st0 : List AV} (hd : decode M.2.1 pc = .ok (.invokevirtual idx, 3)) (hM : M.2.2.2.2 = []) (hst : st0 = as.reverse ++ vr o :: st) (hlen : as.length = n) (hk : okV N n) (hlk : Cond.methodLink M.1.cls idx N.1 ∈ gtbl)
    (hT0 : hT h o = some (kc, len)) (hkc : Nat.blt kc 10 = true) (hcls : clR kc = N.1.cls) (hfr : Nat.ble (frN + 1) fr = true) (hlo : Nat.ble (8 + (N.2.2.1 + 11) + loN) lo = true) (hb1 : Nat.ble mcN bc = true) (hb2 : Nat.ble msN bs = true) (hw9 : Nat.ble (st.map (fun v => if cat2 v then 2 else 1)).sum 8 = true)
    (hC : AC N frN loN mcN msN h (vr o :: as) (QK (fun h' v => AW M fr lo mc ms Q (bc - mcN) (bs - msN) (pc + 3) h' loc (v.toList ++ st)) Q)) : AW M fr lo mc ms Q bc bs pc h loc st0 := by
  intro p l e s m args below meth c D dA B0 H0 C dom0 al0 al H locs cells slots ls hZ hA hS hc hs ho hv hl9
  have hw := Nat.le_of_ble_eq_true hw9
  subst hst
  obtain ⟨k0, k1, k2, k3, k4, k5, k6, k7⟩ := hk
  have hW := C.2.2.2.2.2.2.2.2.1
  have hts := C.2.2.2.2.2.2.1
  have b1 := Nat.le_of_ble_eq_true hb1
  have b2 := Nat.le_of_ble_eq_true hb2
  have hvs : okvs h as := fun v hm => hv v (List.mem_append_left _ (List.mem_reverse.mpr hm))
  have hvt : okvs h (vr o :: st) := fun v hm => hv v (List.mem_append_right _ hm)
  refine aw_run (Q' := QK (fun h' v => AW M fr lo mc ms Q (bc - mcN) (bs - msN) (pc + 3) h' loc (v.toList ++ st)) Q) C hM (fun h' v q => q) (fun h' E q => q) b1 b2 hA hS hc hs ho hvt.tl hl9
    (vx_runV (Ts := gtbl) (own := M.1.cls) (C := N.1.cls) (bytes := N.2.1) (maxL := N.2.2.1) (ret := N.2.2.2.1) (nL := M.2.2.1) (n := n) (b := al o) (As := as.map (rv al)) ⟨C.1, C.2.1, C.2.2.2.1, C.2.2.2.2.1, hts⟩ (hC l D dA B0 H0 al)
      (cwV (rm := { frames := frN, cells := mcN, slots := msN, locals := loN }) n hts (gI (fun w hw => by
        rcases List.mem_append.mp hw with z | z
        · simp only [List.mem_cons, List.not_mem_nil, or_false] at z
          rcases z with rfl | rfl | rfl | rfl
          · exact hlk
          · exact k1
          · exact k2
          · exact k3
        · exact wsM_in k0 k4 w z)) (wsM_code k0) rfl rfl ⟨rfl, k5, k6, k7⟩ ⟨Nat.le_of_ble_eq_true hfr, Nat.le_of_ble_eq_true hlo⟩)
      ⟨blind, ?_, fun U hU hWU => ⟨rfl, hW.moved hWU (by rw [hU]; exact hS.1) (fun q hq => by rw [hU]; exact hS.2.1 q (Nat.lt_of_lt_of_le hq hW.2.2.1) (by omega)), by rw [hU]; exact hZ.moved hWU.alike, .cons hvt.hd hvs⟩⟩
      rfl (by rw [List.length_map]; exact hlen) hl9.1 (by show List.map _ _ = _; rw [List.map_append, List.map_reverse]; rfl) ?_ hd ⟨by show cells + mcN ≤ mc; omega, by show slots + msN ≤ ms; omega⟩)
  · obtain ⟨cell, q1, q2, q3, -⟩ := hZ.obj hT0 (blt_lt hkc)
    have hKn := hW.1.1 kc _ (cl_at kc (blt_lt hkc))
    exact ⟨cell, q1, by rw [q3]; rfl, by rw [← hcls, q2]; exact hKn.2.1⟩
  · refine lv_room (Nat.le_trans (Nat.le_of_eq ?_) hw)
    rw [List.map_map]
    congr 1
    refine List.map_congr_left fun v _ => ?_
    show (rv al v).category = _
    rw [← rv_cat al v]
    rcases lv_cat (rv al v) with z | z <;> rw [z] <;> rfl
set_option maxHeartbeats 1000000 in
theorem AW.callS {idx n frN loN mcN msN : Nat} {as : List AV} {st0 : List AV} (hd : decode M.2.1 pc = .ok (.invokestatic idx, 3)) (hM : M.2.2.2.2 = []) (hst : st0 = as.reverse ++ st) (hlen : as.length = n) (hk : okS N n) (hlk : Cond.methodLink M.1.cls idx N.1 ∈ gtbl) (hsame : N.1.cls = M.1.cls)
    (hfr : Nat.ble (frN + 1) fr = true) (hlo : Nat.ble (8 + (N.2.2.1 + 11) + loN) lo = true) (hb1 : Nat.ble mcN bc = true) (hb2 : Nat.ble msN bs = true) (hw9 : Nat.ble (st.map (fun v => if cat2 v then 2 else 1)).sum 8 = true)
    (hC : AC N frN loN mcN msN h as (QK (fun h' v => AW M fr lo mc ms Q (bc - mcN) (bs - msN) (pc + 3) h' loc (v.toList ++ st)) Q)) : AW M fr lo mc ms Q bc bs pc h loc st0 := by
  intro p l e s m args below meth c D dA B0 H0 C dom0 al0 al H locs cells slots ls hZ hA hS hc hs ho hv hl9
  have hw := Nat.le_of_ble_eq_true hw9
  subst hst
  obtain ⟨k0, k1, k3, k4, k5, k6, k7⟩ := hk
  have hW := C.2.2.2.2.2.2.2.2.1
  have hts := C.2.2.2.2.2.2.1
  have b1 := Nat.le_of_ble_eq_true hb1
  have b2 := Nat.le_of_ble_eq_true hb2
  have hvs : okvs h as := fun v hm => hv v (List.mem_append_left _ (List.mem_reverse.mpr hm))
  have hvt : okvs h st := fun v hm => hv v (List.mem_append_right _ hm)
  refine aw_run (Q' := QK (fun h' v => AW M fr lo mc ms Q (bc - mcN) (bs - msN) (pc + 3) h' loc (v.toList ++ st)) Q) C hM (fun h' v q => q) (fun h' E q => q) b1 b2 hA hS hc hs ho hvt hl9
    (vx_runS (Ts := gtbl) (own := M.1.cls) (bytes := N.2.1) (maxL := N.2.2.1) (ret := N.2.2.2.1) (nL := M.2.2.1) (n := n) (As := as.map (rv al)) ⟨C.1, C.2.1, C.2.2.2.1, C.2.2.2.2.1, hts⟩ (hC l D dA B0 H0 al)
      (cwS (rm := { frames := frN, cells := mcN, slots := msN, locals := loN }) n hts (gI (fun w hw => by
        rcases List.mem_append.mp hw with z | z
        · simp only [List.mem_cons, List.not_mem_nil, or_false] at z
          rcases z with rfl | rfl | rfl
          · exact hlk
          · exact k1
          · rw [← hsame]; exact k3
        · exact wsM_in k0 k4 w z)) (wsM_code k0) rfl rfl ⟨hsame, k5, k6, k7⟩ ⟨Nat.le_of_ble_eq_true hfr, Nat.le_of_ble_eq_true hlo⟩)
      ⟨blind, fun U hU hWU => ⟨rfl, hW.moved hWU (by rw [hU]; exact hS.1) (fun q hq => by rw [hU]; exact hS.2.1 q (Nat.lt_of_lt_of_le hq hW.2.2.1) (by omega)), by rw [hU]; exact hZ.moved hWU.alike, hvs⟩⟩
      rfl (by rw [List.length_map]; exact hlen) hl9.1 (by show List.map _ _ = _; rw [List.map_append, List.map_reverse]) ?_ hd ⟨by show cells + mcN ≤ mc; omega, by show slots + msN ≤ ms; omega⟩)
  refine lv_room (Nat.le_trans (Nat.le_of_eq ?_) hw)
  rw [List.map_map]
  congr 1
  refine List.map_congr_left fun v _ => ?_
  show (rv al v).category = _
  rw [← rv_cat al v]
  rcases lv_cat (rv al v) with z | z <;> rw [z] <;> rfl
set_option maxHeartbeats 1000000 in
theorem AW.callSN {host : String} {idx n frN loN mcN msN : Nat} {as : List AV} {st0 : List AV} (hd : decode M.2.1 pc = .ok (.invokestatic idx, 3)) (hM : M.2.2.2.2 = []) (hst : st0 = as.reverse ++ st) (hlen : as.length = n) (hk : okS N n) (hlk : Cond.methodLinkNest M.1.cls idx N.1 host ∈ xtbl)
    (hfr : Nat.ble (frN + 1) fr = true) (hlo : Nat.ble (8 + (N.2.2.1 + 11) + loN) lo = true) (hb1 : Nat.ble mcN bc = true) (hb2 : Nat.ble msN bs = true) (hw9 : Nat.ble (st.map (fun v => if cat2 v then 2 else 1)).sum 8 = true)
    (hC : AC N frN loN mcN msN h as (QK (fun h' v => AW M fr lo mc ms Q (bc - mcN) (bs - msN) (pc + 3) h' loc (v.toList ++ st)) Q)) : AW M fr lo mc ms Q bc bs pc h loc st0 := by
  intro p l e s m args below meth c D dA B0 H0 C dom0 al0 al H locs cells slots ls hZ hA hS hc hs ho hv hl9
  have hw := Nat.le_of_ble_eq_true hw9
  subst hst
  obtain ⟨k0, k1, k3, k4, k5, k6, k7⟩ := hk
  have hW := C.2.2.2.2.2.2.2.2.1
  have hts := C.2.2.2.2.2.2.1
  have b1 := Nat.le_of_ble_eq_true hb1
  have b2 := Nat.le_of_ble_eq_true hb2
  have hvs : okvs h as := fun v hm => hv v (List.mem_append_left _ (List.mem_reverse.mpr hm))
  have hvt : okvs h st := fun v hm => hv v (List.mem_append_right _ hm)
  refine aw_run (Q' := QK (fun h' v => AW M fr lo mc ms Q (bc - mcN) (bs - msN) (pc + 3) h' loc (v.toList ++ st)) Q) C hM (fun h' v q => q) (fun h' E q => q) b1 b2 hA hS hc hs ho hvt hl9
    (vx_runSN (Ts := gtbl) (own := M.1.cls) (host := host) (bytes := N.2.1) (maxL := N.2.2.1) (ret := N.2.2.2.1) (nL := M.2.2.1) (n := n) (As := as.map (rv al)) ⟨C.1, C.2.1, C.2.2.2.1, C.2.2.2.2.1, hts⟩ (hC l D dA B0 H0 al)
      ⟨va_cnB (rm := { frames := frN, cells := mcN, slots := msN, locals := loN }) n hts (gI (wsM_in k0 k4)) (wsM_code k0) rfl rfl (hW.2.2.2.2.2.2.2.2 _ hlk) (hts _ k3) ⟨k5, k6, k7⟩ ⟨Nat.le_of_ble_eq_true hfr, Nat.le_of_ble_eq_true hlo⟩, hts _ k1, trivial⟩
      ⟨blind, fun U hU hWU => ⟨rfl, hW.moved hWU (by rw [hU]; exact hS.1) (fun q hq => by rw [hU]; exact hS.2.1 q (Nat.lt_of_lt_of_le hq hW.2.2.1) (by omega)), by rw [hU]; exact hZ.moved hWU.alike, hvs⟩⟩
      rfl (by rw [List.length_map]; exact hlen) hl9.1 (by show List.map _ _ = _; rw [List.map_append, List.map_reverse]) ?_ hd ⟨by show cells + mcN ≤ mc; omega, by show slots + msN ≤ ms; omega⟩)
  refine lv_room (Nat.le_trans (Nat.le_of_eq ?_) hw)
  rw [List.map_map]
  congr 1
  refine List.map_congr_left fun v _ => ?_
  show (rv al v).category = _
  rw [← rv_cat al v]
  rcases lv_cat (rv al v) with z | z <;> rw [z] <;> rfl
set_option maxHeartbeats 1000000 in
theorem AW.callI {idx n frN loN mcN msN : Nat} {o : Nm} {as : List AV} {st0 : List AV} (hd : decode M.2.1 pc = .ok (.invokespecial idx, 3)) (hM : M.2.2.2.2 = []) (hst : st0 = as.reverse ++ vr o :: st) (hlen : as.length = n) (hk : okI N n) (hlk : Cond.methodLink M.1.cls idx N.1 ∈ gtbl)
    (hfr : Nat.ble (frN + 1) fr = true) (hlo : Nat.ble (8 + (N.2.2.1 + 11) + loN) lo = true) (hb1 : Nat.ble mcN bc = true) (hb2 : Nat.ble msN bs = true) (hw9 : Nat.ble (st.map (fun v => if cat2 v then 2 else 1)).sum 8 = true)
    (hC : AC N frN loN mcN msN h (vr o :: as) (QK (fun h' v => AW M fr lo mc ms Q (bc - mcN) (bs - msN) (pc + 3) h' loc (v.toList ++ st)) Q)) : AW M fr lo mc ms Q bc bs pc h loc st0 := by
  intro p l e s m args below meth c D dA B0 H0 C dom0 al0 al H locs cells slots ls hZ hA hS hc hs ho hv hl9
  have hw := Nat.le_of_ble_eq_true hw9
  subst hst
  obtain ⟨k0, kn, kr, k1, k3, k4, k5, k6, k7⟩ := hk
  have hW := C.2.2.2.2.2.2.2.2.1
  have hts := C.2.2.2.2.2.2.1
  have b1 := Nat.le_of_ble_eq_true hb1
  have b2 := Nat.le_of_ble_eq_true hb2
  have hvs : okvs h as := fun v hm => hv v (List.mem_append_left _ (List.mem_reverse.mpr hm))
  have hvt : okvs h (vr o :: st) := fun v hm => hv v (List.mem_append_right _ hm)
  refine aw_run (Q' := QK (fun h' v => AW M fr lo mc ms Q (bc - mcN) (bs - msN) (pc + 3) h' loc (v.toList ++ st)) Q) C hM (fun h' v q => q) (fun h' E q => q) b1 b2 hA hS hc hs ho hvt.tl hl9
    (vx_runI (Ts := gtbl) (own := M.1.cls) (bytes := N.2.1) (maxL := N.2.2.1) (nL := M.2.2.1) (n := n) (b := al o) (As := as.map (rv al)) ⟨C.1, C.2.1, C.2.2.2.1, C.2.2.2.2.1, hts⟩ (hC l D dA B0 H0 al)
      (cwI (rm := { frames := frN, cells := mcN, slots := msN, locals := loN }) n hts (gI (wsM_in k0 k4)) (by rw [wsM_code k0, kr]) rfl rfl (hts _ k3) (hts _ hlk) (hts _ k1) kn ⟨k5, k6, k7⟩ ⟨Nat.le_of_ble_eq_true hfr, Nat.le_of_ble_eq_true hlo⟩)
      ⟨blind, fun U hU hWU => ⟨rfl, hW.moved hWU (by rw [hU]; exact hS.1) (fun q hq => by rw [hU]; exact hS.2.1 q (Nat.lt_of_lt_of_le hq hW.2.2.1) (by omega)), by rw [hU]; exact hZ.moved hWU.alike, .cons hvt.hd hvs⟩⟩
      rfl (by rw [List.length_map]; exact hlen) hl9.1 (by show List.map _ _ = _; rw [List.map_append, List.map_reverse]; rfl) ?_ hd ⟨by show cells + mcN ≤ mc; omega, by show slots + msN ≤ ms; omega⟩)
  refine lv_room (Nat.le_trans (Nat.le_of_eq ?_) hw)
  rw [List.map_map]
  congr 1
  refine List.map_congr_left fun v _ => ?_
  show (rv al v).category = _
  rw [← rv_cat al v]
  rcases lv_cat (rv al v) with z | z <;> rw [z] <;> rfl
/-- Object's constructor -/
theorem AW.objInit {idx : Nat} {o : Nm} (hd : decode M.2.1 pc = .ok (.invokespecial idx, 3)) (hl1 : Cond.methodLink M.1.cls idx objectInit ∈ gtbl) (hl2 : Cond.instanceMethod objectInit ∈ gtbl) (hl3 : Cond.code objectInit ⟨#[0xb1]⟩ 1 none ∈ gtbl) (hfr : Nat.ble 1 fr = true) (hlo : Nat.ble 20 lo = true) (hw9 : Nat.ble (st.map (fun v => if cat2 v then 2 else 1)).sum 8 = true)
    (k : AW M fr lo mc ms Q bc bs (pc + 3) h loc st) : AW M fr lo mc ms Q bc bs pc h loc (vr o :: st) := by
  intro p l e s m args below meth c D dA B0 H0 C dom0 al0 al H locs cells slots ls hZ hA hS hc hs ho hv hl9
  have hw := Nat.le_of_ble_eq_true hw9
  have hts := C.2.2.2.2.2.2.1
  have k' := k p l e s m args below meth c D dA B0 H0 C dom0 al0 al H locs cells slots ls hZ hA hS hc hs ho hv.tl hl9
  refine W.objInit C.1 C.2.1 C.2.2.2.2.1 (hts _ hl1) (hts _ hl2) (hts _ hl3) rfl (by show ls.size = _; rw [C.2.2.2.1]; exact hl9.1) rfl hd (Nat.le_of_ble_eq_true hfr) ?_ k'
  have e9 : ((st.map (rv al)).map fun v => v.category).sum = (st.map (fun v => if cat2 v then 2 else 1)).sum := by
    rw [List.map_map]
    congr 1
    refine List.map_congr_left fun v _ => ?_
    show (rv al v).category = _
    rw [← rv_cat al v]
    rcases lv_cat (rv al v) with z | z <;> rw [z] <;> rfl
  have := Nat.le_of_ble_eq_true hlo
  show 2 * 0 + ((st.map (rv al)).map fun v => v.category).sum + 12 ≤ lo
  omega
/-! ends -/
theorem ends {v : Option AV} (hq : Q h (.inl v)) {p : Program} {l : Launch} {m : MethodId} {args : Array Value} {meth : Method} {c : Code} {D : va_G} {dA : Nat → ClassId} {B0 : Nat} {H0 : Heap} (C : Ctx M p l s m args meth c D dA B0 H0)
    {dom0 : Nm → Prop} {al0 al : Nm → Nat} {locs : List Loc} (hZ : RelH s D dA B0 al h H) (hA : ∀ n, dom0 n → hT h n ≠ none ∧ al n = al0 n) (hS : va_S (fun q => B0 ≤ q) s.heap H locs) (hv : okvs h v.toList) {vv : Option Value} (hvv : vv = v.map (rv al)) :
    ∀ t : State, t.heap = H → s.WarmedH t.vm → AQc B0 D dA dom0 al0 Q args s (.returned vv) t := fun t ht hW =>
  ⟨v, h, al, by rw [hvv], hq, hv, by rw [ht]; exact hS.1, fun q hq => by rw [ht]; exact hS.2.1 q (Nat.lt_of_lt_of_le hq C.2.2.2.2.2.2.2.2.1.2.2.1) (by omega), hA, by rw [ht]; exact hZ.moved hW.alike⟩
theorem AW.iret {x : Int} (hd : decode M.2.1 pc = .ok (.ireturn, 1)) (hr : M.2.2.2.1 = some .int) (hq : Q h (.inl (some (vi x)))) : AW M fr lo mc ms Q bc bs pc h loc [vi x] := by
  intro p l e s m args below meth c D dA B0 H0 C dom0 al0 al H locs cells slots ls hZ hA hS hc hs ho hv hl9
  have hlocks := C.2.2.2.2.2.2.2.1
  exact W.widen (k := mc) (n := ms) (by omega) (by omega) (vx_ret (W.iret C.1 C.2.1 (C.2.2.1.trans hr) (ends hq C hZ hA hS (fun w hw => hv w hw) rfl) hS.2.2 hd))
theorem AW.zret {x : Int} (hd : decode M.2.1 pc = .ok (.ireturn, 1)) (hr : M.2.2.2.1 = some .boolean) (hb : x = 0 ∨ x = 1) (hq : Q h (.inl (some (vi x)))) : AW M fr lo mc ms Q bc bs pc h loc [vi x] := by
  intro p l e s m args below meth c D dA B0 H0 C dom0 al0 al H locs cells slots ls hZ hA hS hc hs ho hv hl9
  have hlocks := C.2.2.2.2.2.2.2.1
  exact W.widen (k := mc) (n := ms) (by omega) (by omega) (vx_ret (W.zret C.1 C.2.1 (C.2.2.1.trans hr) (fitI.nf (Or.inr ⟨rfl, hb⟩)).1 (ends hq C hZ hA hS (fun w hw => hv w hw) rfl) hS.2.2 hd))
theorem AW.lret {x : Int64} (hd : decode M.2.1 pc = .ok (.lreturn, 1)) (hr : M.2.2.2.1 = some .long) (hq : Q h (.inl (some (vl x)))) : AW M fr lo mc ms Q bc bs pc h loc [vl x] := by
  intro p l e s m args below meth c D dA B0 H0 C dom0 al0 al H locs cells slots ls hZ hA hS hc hs ho hv hl9
  have hlocks := C.2.2.2.2.2.2.2.1
  exact W.widen (k := mc) (n := ms) (by omega) (by omega) (vx_ret (W.lret C.1 C.2.1 (C.2.2.1.trans hr) (ends hq C hZ hA hS (fun w hw => hv w hw) rfl) hS.2.2 hd))
theorem AW.aret {o : Option Nm} {C9 : String} (hd : decode M.2.1 pc = .ok (.areturn, 1)) (hr : M.2.2.2.1 = some (.object C9)) (hq : Q h (.inl (some (vq o)))) : AW M fr lo mc ms Q bc bs pc h loc [vq o] := by
  intro p l e s m args below meth c D dA B0 H0 C dom0 al0 al H locs cells slots ls hZ hA hS hc hs ho hv hl9
  have hlocks := C.2.2.2.2.2.2.2.1
  exact W.widen (k := mc) (n := ms) (by omega) (by omega) (vx_ret (W.aret (v := va_rf (o.map al)) C.1 C.2.1 (C.2.2.1.trans hr) (Or.inl ⟨_, rfl⟩) (by cases o; exact Or.inl rfl; exact Or.inr ⟨_, rfl⟩) (ends hq C hZ hA hS (fun w hw => hv w hw) rfl) hS.2.2 hd))
theorem AW.vret (hd : decode M.2.1 pc = .ok (.return_, 1)) (hr : M.2.2.2.1 = none) (hq : Q h (.inl none)) : AW M fr lo mc ms Q bc bs pc h loc [] := by
  intro p l e s m args below meth c D dA B0 H0 C dom0 al0 al H locs cells slots ls hZ hA hS hc hs ho hv hl9
  have hlocks := C.2.2.2.2.2.2.2.1
  exact W.widen (k := mc) (n := ms) (by omega) (by omega) (vx_ret (W.vret C.1 C.2.1 (C.2.2.1.trans hr) (ends hq C hZ hA hS (fun w hw => by cases hw) rfl) hS.2.2 hd))
theorem AW.cret {x : Int} (hd : decode M.2.1 pc = .ok (.ireturn, 1)) (hr : M.2.2.2.1 = some .char) (hb : 0 ≤ x ∧ x < 65536) (hq : Q h (.inl (some (vi x)))) : AW M fr lo mc ms Q bc bs pc h loc [vi x] := by
  intro p l e s m args below meth c D dA B0 H0 C dom0 al0 al H locs cells slots ls hZ hA hS hc hs ho hv hl9
  have hlocks := C.2.2.2.2.2.2.2.1
  obtain ⟨n, rfl⟩ := Int.eq_ofNat_of_zero_le hb.1
  exact W.widen (k := mc) (n := ms) (by omega) (by omega) (vx_ret (W.zret C.1 C.2.1 (C.2.2.1.trans hr) (pk_charN (q := n) (by omega)).1 (ends hq C hZ hA hS (fun w hw => hv w hw) rfl) hS.2.2 hd))
end RUNS
