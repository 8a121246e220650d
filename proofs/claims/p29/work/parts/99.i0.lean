/-! ===== the law: a call with nine words below; what it asks at the end ===== -/
section I0
variable {p : Program} {l : Launch} {e : Env} {R : Room} {s : State} {m : MethodId} {args : Array Value} {below : List Frame} {meth : Method} {c : Code} {H : Heap} {locs : List Loc} {cells slots : Nat}
variable {y : MethodName} {bytes cc : ByteArray} {maxL nL mc ms n index : Nat} {ret : Option FieldType} {ws : List Cond} {rm : Room} {Pc : Array Value → State → Prop} {Qc : Array Value → State → Outcome → State → Prop} {XC : String → State → State → Prop} {free : Addr → Prop} {Ts : List Cond} {own C : String} {b : Addr} {As rest : List Value} {g : JFrame}
/-- vx_runS (part 01.exc), with nine words -/
theorem vx_runS9 (S : CallFix p m c cc nL s args Ts own) (hM : vx_Met l y ws rm Pc Qc XC mc ms free) (cw : CallB R s args own index y bytes maxL ret ws rm mc ms n ∧ (Cond.static y).before args s = true) (hlo9 : 9 + (maxL + 11) + rm.locals ≤ R.locals) (hp : PreS s H Pc As)
    (hg : g.method = m) (hn : As.length = n) (hsize : g.locals.size = nL) (hstack : g.stack = As.reverse ++ rest) (hW : 2 * g.monitorRoom + (rest.map fun v => v.category).sum ≤ 9) (hdg : decode cc g.pc = .ok (.invokestatic index, 3)) (hf : cells + mc ≤ R.cells ∧ slots + ms ≤ R.slots) :
    vx_Run p l e R s m args below meth c H locs cells slots mc ms g rest (Qc As.toArray) XC free := by
  have hK : vx_Back l R p e below s args y 3 9 (PreOf R mc ms Pc) (PostOf Qc mc ms free) (vx_Post XC mc ms free) := by
    obtain ⟨hrc, hrs, hfr, -, hws, hcw, -, hini, -⟩ := cw.1
    exact vx_back (bytes := bytes) (maxL := maxL) (ret := ret) hM hp.1 hrc hrs hfr hlo9 hws hcw (fun a' U hW => word_at hW (Or.inl (by first | rfl | simp [Cond.onTables, Cond.keeps, Cond.steady])) hini)
  obtain ⟨⟨-, -, -, -, -, -, hcode, hini, hy, hlen, hl⟩, hstt⟩ := cw
  obtain ⟨hx, hb, hml, ho, -⟩ := S
  intro T hT X
  rcases vx_callS X hx (bytes := bytes) (maxL := maxL) (ret := ret) ho hl hstt hini hcode hy hK hg (hsize.trans hml.symm) (argsL := As) (rest := rest) (fun sig h => hn.trans (hlen sig h)) hstack hW (by rw [hb]; exact hdg)
    (fun vm₁ hW₁ => ⟨hf.1, hf.2, hp.2 (T.setVm vm₁) hT hW₁⟩) with ⟨v, vm₁, ⟨U', l2, c2, s2⟩, hW₁, X', ⟨g', mk, t, L, e1, e2, hq, h1, hL, h2, h3⟩, st⟩ | ⟨q, vm₁, ⟨U', l2, c2, s2⟩, hW₁, X', ⟨g', mk, t, L, E, ce, e1, e2, hq, hce, hcv, hcl, h1, hL, h2, h3⟩, st⟩
  · dsimp only [Pt.U, Pt.locs, Pt.cells, Pt.slots] at X' e1 e2 h1 h2 h3 st
    subst h1; subst h2; subst h3
    exact Or.inl ⟨v, (T.setVm vm₁).calling g' mk As.toArray, t, U', L, hT, X', hL, e1, e2, hq, st⟩
  · dsimp only [Pt.U, Pt.locs, Pt.cells, Pt.slots] at X' e1 e2 h1 h2 h3 st hcl
    subst h1; subst h2; subst h3
    exact Or.inr ⟨q, (T.setVm vm₁).calling g' mk As.toArray, t, U', L, E, ce, hT, X', hL, e1, e2, hq, hce, hcv, vx_cls hW₁ hcl, st⟩
end I0
section I1
variable {M N : MI} {fr lo mc ms bc bs pc : Nat} {Q : AH → AO → Prop} {h g : AH} {loc : AL} {st : List AV} {Z Y : ZT} {c b L : Nat}
set_option maxHeartbeats 1000000 in
theorem AW.callS9 {idx n frN loN mcN msN : Nat} {as : List AV} {st0 : List AV} (hd : decode M.2.1 pc = .ok (.invokestatic idx, 3)) (hM : M.2.2.2.2 = []) (hst : st0 = as.reverse ++ st) (hlen : as.length = n) (hk : okS N n) (hlk : Cond.methodLink M.1.cls idx N.1 ∈ gtbl) (hsame : N.1.cls = M.1.cls)
    (hfr : Nat.ble (frN + 1) fr = true) (hlo : Nat.ble (9 + (N.2.2.1 + 11) + loN) lo = true) (hb1 : Nat.ble mcN bc = true) (hb2 : Nat.ble msN bs = true) (hw9 : Nat.ble (st.map (fun v => if cat2 v then 2 else 1)).sum 9 = true)
    (hC : AC N frN loN mcN msN h as (QK (fun h' v => AW M fr lo mc ms Q (bc - mcN) (bs - msN) (pc + 3) h' loc (v.toList ++ st)) Q)) : AW M fr lo mc ms Q bc bs pc h loc st0 := by
  intro p l e s m args below meth c D dA B0 H0 C dom0 al0 al H locs cells slots ls hZ hA hS hc hs ho hv hl9
  have hw := Nat.le_of_ble_eq_true hw9
  have hlo' := Nat.le_of_ble_eq_true hlo
  subst hst
  obtain ⟨k0, k1, k3, k4, k5, k6, k7⟩ := hk
  have hW := C.2.2.2.2.2.2.2.2.1
  have hts := C.2.2.2.2.2.2.1
  have b1 := Nat.le_of_ble_eq_true hb1
  have b2 := Nat.le_of_ble_eq_true hb2
  have hvs : okvs h as := fun v hm => hv v (List.mem_append_left _ (List.mem_reverse.mpr hm))
  have hvt : okvs h st := fun v hm => hv v (List.mem_append_right _ hm)
  refine aw_run (Q' := QK (fun h' v => AW M fr lo mc ms Q (bc - mcN) (bs - msN) (pc + 3) h' loc (v.toList ++ st)) Q) C hM (fun h' v q => q) (fun h' E q => q) b1 b2 hA hS hc hs ho hvt hl9
    (vx_runS9 (Ts := gtbl) (own := M.1.cls) (bytes := N.2.1) (maxL := N.2.2.1) (ret := N.2.2.2.1) (nL := M.2.2.1) (n := n) (As := as.map (rv al)) ⟨C.1, C.2.1, C.2.2.2.1, C.2.2.2.2.1, hts⟩ (hC l D dA B0 H0 al)
      (cwS (rm := { frames := frN, cells := mcN, slots := msN, locals := loN }) n hts (gI (fun w hw => by
        rcases List.mem_append.mp hw with z | z
        · simp only [List.mem_cons, List.not_mem_nil, or_false] at z
          rcases z with rfl | rfl | rfl
          · exact hlk
          · exact k1
          · rw [← hsame]; exact k3
        · exact wsM_in k0 k4 w z)) (wsM_code k0) rfl rfl ⟨hsame, k5, k6, k7⟩ ⟨Nat.le_of_ble_eq_true hfr, by show 8 + (N.2.2.1 + 11) + loN ≤ lo; omega⟩) hlo'
      ⟨blind, fun U hU hWU => ⟨rfl, hW.moved hWU (by rw [hU]; exact hS.1) (fun q hq => by rw [hU]; exact hS.2.1 q (Nat.lt_of_lt_of_le hq hW.2.2.1) (by omega)), by rw [hU]; exact hZ.moved hWU.alike, hvs⟩⟩
      rfl (by rw [List.length_map]; exact hlen) hl9.1 (by show List.map _ _ = _; rw [List.map_append, List.map_reverse]) ?_ hd ⟨by show cells + mcN ≤ mc; omega, by show slots + msN ≤ ms; omega⟩)
  have e0 : (List.map (fun v => v.category) (List.map (rv al) st)).sum = (st.map (fun v => if cat2 v then 2 else 1)).sum := by
    rw [List.map_map]
    congr 1
    refine List.map_congr_left fun v _ => ?_
    show (rv al v).category = _
    rw [← rv_cat al v]
    rcases lv_cat (rv al v) with z | z <;> rw [z] <;> rfl
  show 2 * 0 + _ ≤ 9
  rw [e0, Nat.mul_zero, Nat.zero_add]
  exact hw
/-! the last questions -/
theorem IV.atX (J : IV L h Z c b) {s n : Int} (hs : ¬ (0 ≤ s ∧ s < 1)) : zatH Z s n = -1 := by
  unfold zatH
  rw [if_neg (by rw [J.z0]; exact hs)]
theorem q_addX (J : IV L h Z c b) {s n kd v nd : Int} (hs : ¬ (0 ≤ s ∧ s < 1)) (hnd : nd = 0 ∨ nd = 1) (k : Q h (.inl (some (vi (-300))))) : AC mL_does fL_does loL_does 8 40 h [vr mF, vi 0, vi s, vi n, vi kd, vi v, vi nd] Q := by
  have en : (if ¬ nd = 1 then (0 : Int) else 1) = nd := by split <;> omega
  refine kL_does_add J.F ?_
  rw [en]
  have e : zcAdd Z s n kd v = 1 := cd3_1 (by rw [J.z0]; exact hs)
  exact sX7_add J.S J.I.1 hnd (fun _ => ⟨-300, by decide, k⟩) (fun z => by rw [e] at z; cases z) (fun z => by rw [e] at z; cases z) (fun z => by rw [e] at z; cases z)
theorem q_renX (J : IV L h Z c b) {s n o x4 x5 : Int} (hs : ¬ (0 ≤ s ∧ s < 1)) (k : Q h (.inl (some (vi (-300))))) : AC mL_does fL_does loL_does 8 40 h [vr mF, vi 1, vi s, vi n, vi o, vi x4, vi x5] Q := by
  refine kL_does_rename J.F ?_
  have e : zcRen Z s n o = 1 := cd3_1 (J.atX hs)
  exact sX7_rename J.S J.I.1 (fun _ => ⟨-300, by decide, k⟩) (fun z => by rw [e] at z; cases z) (fun z => by rw [e] at z; cases z) (fun z => by rw [e] at z; cases z)
theorem q_droX (J : IV L h Z c b) {s n x3 x4 x5 : Int} (hs : ¬ (0 ≤ s ∧ s < 1)) (k : Q h (.inl (some (vi (-300))))) : AC mL_does fL_does loL_does 8 40 h [vr mF, vi 5, vi s, vi n, vi x3, vi x4, vi x5] Q := by
  refine kL_does_drop J.F ?_
  have e : zcDro Z s n = 1 := cd2_1 (J.atX hs)
  exact sX7_drop J.S J.I.1 J.z13 (fun _ => ⟨-300, by decide, k⟩) (fun z => by rw [e] at z; cases z) (fun z => by rw [e] at z; cases z) (fun z => by rw [e] at z; cases z)
theorem q_movX (J : IV L h Z c b) {s v x3 x4 x5 : Int} (hs : ¬ (0 ≤ s ∧ s < 1)) (k : Q h (.inl (some (vi (-300))))) : AC mL_does fL_does loL_does 4 24 h [vr mF, vi 9, vi s, vi v, vi x3, vi x4, vi x5] Q := by
  refine kL_does_mover J.F ?_
  have e : zcVer Z s v (Z 28 0 = 8) = 1 := cd2_1 (fun z => hs (by rw [J.z0] at z; exact z.1))
  exact sX7_mover J.S (fun _ => ⟨-300, by decide, k⟩) (fun z => by rw [e] at z; cases z) (fun z => by rw [e] at z; cases z)
theorem zf_26 (K : QS Z) : zfind Z 0 (Z 1 0) 26 = -1 := by
  by_cases e : zfind Z 0 (Z 1 0) 26 = -1
  · exact e
  · obtain ⟨a, ha⟩ := Int.eq_ofNat_of_zero_le K.b1.1
    rw [ha] at e
    exact absurd (zf_x e).2.2 (by decide)
end I1
