/-! ===== WALKS OVER NAMED CELLS ===== -/
/-- a method: its name, code, locals, answer, handlers -/
abbrev MI : Type := MethodName × ByteArray × Nat × Option FieldType × List (Nat × Nat × Nat × Nat)
abbrev AO : Type := Option AV ⊕ String
def gtbl : List Cond := lw_tbl.filter goodWord
theorem gt_in {w : Cond} (h : w ∈ lw_tbl) (g : goodWord w = true) : w ∈ gtbl := List.mem_filter.mpr ⟨h, g⟩
/-- the String constants of the exceptions, by class, entry, text -/
def strs : List (String × Nat × String) := lw_tbl.filterMap (fun w => match w with | .stringRef c k t => some (c, k, t) | _ => none)
/-- words of the tables that a call carries on by laws of their own -/
def isX : Cond → Bool
  | .arrayOver (.object _) => true
  | .arrayOver (.array _) => true
  | .methodLinkNest _ _ _ _ => true
  | .castable _ _ => true
  | .declares _ => true
  | _ => false
def xtbl : List Cond := lw_tbl.filter isX
theorem xt_at (w : Cond) (i : Nat) (h : tables_1[i]? = some w) (g : isX w = true) : w ∈ xtbl := List.mem_filter.mpr ⟨List.mem_append_right _ (List.mem_of_getElem? h), g⟩
theorem isX_warm {s U : State} {w : Cond} (hW : s.WarmedH U.vm) (hx : isX w = true) (h : w.before #[] s = true) : w.before #[] U = true := by
  cases w with
  | arrayOver t => cases t with
    | object n => exact Cond.arrayOver_alike hW.alike h
    | array t => exact Jvm.Stand.arrayOver_alikeB hW.alike h
    | _ => cases hx
  | methodLinkNest a b c d => exact va_Nw.warmM hW h
  | castable a b => exact va_Nw.warmC hW h
  | declares a => exact va_Nw.warmD hW h
  | _ => cases hx
/-- exceptions and what they aren't -/
def ncs : List (String × String) := [("java/lang/IllegalArgumentException", "java/lang/IndexOutOfBoundsException"), ("java/lang/IllegalStateException", "java/lang/IndexOutOfBoundsException"), ("java/lang/IllegalStateException", "java/lang/IllegalArgumentException")]
/-- the words of the steps, as String constants of the class: their places, texts, lengths, letters -/
def wix (i : Nat) : Nat := 426 + 2 * i
def wtx (i : Nat) : String := ["add", "rename", "turn", "split", "join", "drop", "need"].getD i ""
def wln : List Nat := [3, 6, 4, 5, 4, 4, 4]
def wby : List (List Int32) := [[97, 100, 100], [114, 101, 110, 97, 109, 101], [116, 117, 114, 110], [115, 112, 108, 105, 116], [106, 111, 105, 110], [100, 114, 111, 112], [110, 101, 101, 100]]
/-- private methods of a builder's superclass, which the builder's class selects -/
def prv : List MethodName := [yJ5_ensureCapacityInternal_d00df, yJ5_putStringAt_47b60, yJ5_inflateIfNeededFor_a7421]
theorem sel_warm {y : MethodName} {C : String} {s U : State} {a a' : Array Value} (hW : s.WarmedH U.vm) (h : (Cond.selects C y y).before a s = true) : (Cond.selects C y y).before a' U = true :=
  word_at hW (good_of_word rfl) h
def Wst (dA : Nat → ClassId) (B0 : Nat) (U : State) : Prop :=
  (∀ i, i < 7 → vk_R RX7 (wix i) (wtx i) (dA (100 + i)) U) ∧ vk_S 7 wln wby (fun i => dA (100 + i)) (fun i => dA (110 + i)) (fun q => B0 ≤ q) U U.heap ∧ va_Z "java/lang/String" "COMPACT_STRINGS" "Z" (.int 1) (fun q => B0 ≤ q) U U.heap ∧ va_Zq "jdk/internal/util/Preconditions" "SIOOBE_FORMATTER" "Ljava/util/function/BiFunction;" (fun q => B0 ≤ q) U U.heap ∧ ∀ y ∈ prv, (Cond.selects RJ4 y y).before #[] U = true
theorem Wst.moved {dA : Nat → ClassId} {B0 : Nat} {s U : State} (hW : Wst dA B0 s) (h : s.WarmedH U.vm) (hq : ∀ q, q < B0 → U.heap[q]? = s.heap[q]?) : Wst dA B0 U := by
  obtain ⟨h1, h2, h3, h4, h5⟩ := hW
  exact ⟨fun i hi => (h1 i hi).warm h, (h2.moved h.alike).kept (fun a _ ha => hq a (Nat.not_le.mp ha)), (h3.moved h.alike).kept (fun a _ ha => hq a (Nat.not_le.mp ha)), (h4.moved h.alike).kept (fun a _ ha => hq a (Nat.not_le.mp ha)), fun y hy => sel_warm h (h5 y hy)⟩
def Wd (D : va_G) (dA : Nat → ClassId) (B0 : Nat) (H0 : Heap) (l : Launch) (U : State) : Prop :=
  va_K D vwCl (tys dA) U ∧ l.stackTraces = false ∧ B0 ≤ U.heap.size ∧ (∀ q, q < B0 → U.heap[q]? = H0[q]?) ∧ vx_Zq Bundle.tN "UNASSIGNED_STACK" Bundle.steD (fun q => B0 ≤ q) U U.heap ∧ vx_Zq Bundle.tN "SUPPRESSED_SENTINEL" Bundle.listD (fun q => B0 ≤ q) U U.heap ∧
  (∀ q ∈ strs, ∃ sa, vk_R q.1 q.2.1 q.2.2 sa U) ∧ ((∀ q ∈ ncs, va_Nc q.1 q.2 U) ∧ Wst dA B0 U) ∧ ∀ w ∈ xtbl, w.before #[] U = true
theorem Wd.moved {D : va_G} {dA : Nat → ClassId} {B0 : Nat} {H0 : Heap} {l : Launch} {s U : State} (hW : Wd D dA B0 H0 l s) (h : s.WarmedH U.vm) (hz : s.heap.size ≤ U.heap.size) (hq : ∀ q, q < B0 → U.heap[q]? = s.heap[q]?) : Wd D dA B0 H0 l U := by
  obtain ⟨h1, h2, h3, h4, h5, h6, h7, h8, h9⟩ := hW
  refine ⟨h1.moved h.alike, h2, Nat.le_trans h3 hz, fun q hl => by rw [hq q hl, h4 q hl], (h5.moved h.alike).kept (fun a _ ha => hq a (Nat.not_le.mp ha)), (h6.moved h.alike).kept (fun a _ ha => hq a (Nat.not_le.mp ha)), fun q hm => ?_, ⟨fun q hm => (h8.1 q hm).moved h.alike, h8.2.moved h hq⟩, fun w hw => isX_warm h (List.mem_filter.mp hw).2 (h9 w hw)⟩
  obtain ⟨sa, k⟩ := h7 q hm
  exact ⟨sa, k.warm h⟩
/-- what a method leaves -/
def APX (B0 : Nat) (D : va_G) (dA : Nat → ClassId) (dom0 : Nm → Prop) (al0 : Nm → Nat) (st t : State) (h' : AH) (al' : Nm → Nat) : Prop :=
  st.heap.size ≤ t.heap.size ∧ (∀ q, q < B0 → t.heap[q]? = st.heap[q]?) ∧ (∀ n, dom0 n → hT h' n ≠ none ∧ al' n = al0 n) ∧ RelH t D dA B0 al' h' t.heap
def AQc (B0 : Nat) (D : va_G) (dA : Nat → ClassId) (dom0 : Nm → Prop) (al0 : Nm → Nat) (Q : AH → AO → Prop) : Array Value → State → Outcome → State → Prop := fun _ st o t =>
  ∃ (v : Option AV) (h' : AH) (al' : Nm → Nat), o = .returned (v.map (rv al')) ∧ Q h' (.inl v) ∧ okvs h' v.toList ∧ APX B0 D dA dom0 al0 st t h' al'
def AXc (B0 : Nat) (D : va_G) (dA : Nat → ClassId) (dom0 : Nm → Prop) (al0 : Nm → Nat) (Q : AH → AO → Prop) : String → State → State → Prop := fun E st t =>
  ∃ (h' : AH) (al' : Nm → Nat), Q h' (.inr E) ∧ APX B0 D dA dom0 al0 st t h' al'
/-- inside a method -/
def Ctx (M : MI) (p : Program) (l : Launch) (s : State) (m : MethodId) (args : Array Value) (meth : Method) (c : Code) (D : va_G) (dA : Nat → ClassId) (B0 : Nat) (H0 : Heap) : Prop :=
  p.tables.exec = Jvm.exec ∧ c.code = M.2.1 ∧ meth.sig.returnType = M.2.2.2.1 ∧ c.maxLocals = M.2.2.1 ∧ s.vm.findClass M.1.cls = some m.cls ∧ meth.name = M.1.name ∧ (∀ w ∈ gtbl, w.before args s = true) ∧ meth.locks = false ∧ Wd D dA B0 H0 l s ∧
  c.exceptionTable.toList.map (fun h => (h.startPc, h.endPc, h.handlerPc, h.catchType)) = M.2.2.2.2
def AW (M : MI) (fr lo mc ms : Nat) (Q : AH → AO → Prop) (bc bs : Nat) (pc : Nat) (h : AH) (loc : AL) (st : List AV) : Prop :=
  ∀ (p : Program) (l : Launch) (e : Env) (s : State) (m : MethodId) (args : Array Value) (below : List Frame) (meth : Method) (c : Code) (D : va_G) (dA : Nat → ClassId) (B0 : Nat) (H0 : Heap), Ctx M p l s m args meth c D dA B0 H0 →
  ∀ (dom0 : Nm → Prop) (al0 al : Nm → Nat) (H : Heap) (locs : List Loc) (cells slots : Nat) (ls : Array Slot), RelH s D dA B0 al h H → (∀ n, dom0 n → hT h n ≠ none ∧ al n = al0 n) → va_S (fun q => B0 ≤ q) s.heap H locs →
    cells + bc ≤ mc → slots + bs ≤ ms → okl h loc → okvs h st → lv_has ls M.2.2.1 (rl al loc) →
    W p l e { frames := fr, cells := mc, slots := ms, locals := lo } s m args below meth c H locs cells slots (vx_MQ below (AQc B0 D dA dom0 al0 Q) (AXc B0 D dA dom0 al0 Q) args s mc ms (fun q => B0 ≤ q)) (F0 m pc ls (st.map (rv al)))
/-- the words of a method -/
def wsM (M : MI) : List Cond := (match M.2.2.2.2 with | [] => Cond.code M.1 M.2.1 M.2.2.1 M.2.2.2.1 | hh => Cond.codeWith M.1 M.2.1 M.2.2.1 M.2.2.2.1 hh) :: gtbl
/-- a method's contract: called on the heap h with the values vs it ends with Q -/
def AC (M : MI) (fr lo mc ms : Nat) (h : AH) (vs : List AV) (Q : AH → AO → Prop) : Prop :=
  ∀ (l : Launch) (D : va_G) (dA : Nat → ClassId) (B0 : Nat) (H0 : Heap) (al : Nm → Nat),
    vx_Met l M.1 (wsM M) { frames := fr, cells := mc, slots := ms, locals := lo }
      (fun a U => a = (vs.map (rv al)).toArray ∧ Wd D dA B0 H0 l U ∧ RelH U D dA B0 al h U.heap ∧ okvs h vs)
      (AQc B0 D dA (fun n => hT h n ≠ none) al Q) (AXc B0 D dA (fun n => hT h n ≠ none) al Q) mc ms (fun q => B0 ≤ q)
/-- the locals at the start -/
def largs : Nat → List AV → AL
  | _, [] => []
  | i, v :: vs => (i, v) :: largs (if cat2 v then i + 2 else i + 1) vs
theorem rl_largs (al : Nm → Nat) : ∀ (vs : List AV) (i : Nat), rl al (largs i vs) = lv_args i (vs.map (rv al))
  | [], _ => rfl
  | v :: vs, i => by
    show (i, rv al v) :: rl al (largs (if cat2 v then i + 2 else i + 1) vs) = (i, rv al v) :: lv_args (if (rv al v).category = 2 then i + 2 else i + 1) (vs.map (rv al))
    rw [rl_largs al vs, show (if (rv al v).category = 2 then i + 2 else i + 1) = (if cat2 v then i + 2 else i + 1) from by rw [← rv_cat al v]; simp]
theorem okl_largs {h : AH} : ∀ (vs : List AV) (i : Nat), okvs h vs → okl h (largs i vs)
  | [], _, _ => fun q hq => by cases hq
  | v :: vs, i, k => fun q hq => by
    rcases List.mem_cons.mp hq with rfl | z
    · exact k.hd
    · exact okl_largs vs _ k.tl q z
/-- a value's places among the locals -/
def wid : List AV → Nat
  | [] => 0
  | v :: vs => (if cat2 v then 2 else 1) + wid vs
theorem lg_sl_cons (v : Value) (vs : List Value) : (lg_sl (v :: vs)).length = (if v.category = 2 then 2 else 1) + (lg_sl vs).length := by
  unfold lg_sl
  rw [List.flatMap_cons, List.length_append]
  congr 1
  split <;> rfl
theorem lg_sl_len (al : Nm → Nat) : ∀ vs : List AV, (lg_sl (vs.map (rv al))).length = wid vs
  | [] => rfl
  | v :: vs => by
    rw [List.map_cons, lg_sl_cons, lg_sl_len al vs]
    show _ = (if cat2 v then 2 else 1) + wid vs
    rw [← rv_cat al v]
    simp
set_option maxHeartbeats 1000000 in
/-- a contract out of the walk of its body -/
theorem AC.mk {y : MethodName} {cc : ByteArray} {nL : Nat} {ret : Option FieldType} {fr lo mc ms : Nat} {h : AH} {vs : List AV} {Q : AH → AO → Prop} (hy : plainName y.cls = true) (hw : wid vs ≤ nL)
    (k : AW (y, cc, nL, ret, []) fr lo mc ms Q mc ms 0 h (largs 0 vs) []) : AC (y, cc, nL, ret, []) fr lo mc ms h vs Q := by
  intro l D dA B0 H0 al
  refine vx_ofW (cc := cc) (maxL := nL) (ret := ret) (ws' := gtbl) hy rfl ?_
  intro p e s m args below meth c s₁ B hml hex hP
  obtain ⟨rfl, hW, hR, hok⟩ := hP
  have hts : ∀ w ∈ wsM (y, cc, nL, ret, []), w.before (vs.map (rv al)).toArray s = true := atoms_spec (ws := wsM (y, cc, nL, ret, [])) B.pre
  have hl := lv_entry (vs.map (rv al)) (n := nL) (by rw [lg_sl_len]; exact hw)
  rw [lg_entry_eq]
  generalize ((lg_sl (vs.map (rv al)) ++ List.replicate (nL - (lg_sl (vs.map (rv al))).length) Slot.unset).toArray) = ls at hl ⊢
  rw [← rl_largs] at hl
  refine k p l e s m _ below meth c D dA B0 H0 ⟨B.exec, B.bytes, B.returns, hml, findClass_of_methodNamed B.named, (name_of_methodNamed B.named B.method).1, fun w hw => hts w (List.mem_cons_of_mem _ hw), B.notSynchronized, hW, ?_⟩ _ al al s.heap [] 0 0 ls hR (fun n hn => ⟨hn, rfl⟩) va_S.rf (Nat.le_of_eq (Nat.zero_add _)) (Nat.le_of_eq (Nat.zero_add _)) (okl_largs vs 0 hok) okvs.nil hl
  show c.exceptionTable.toList.map _ = []
  cases hz : c.exceptionTable.toList with
  | nil => rfl
  | cons a r => exact absurd (hex a (by rw [hz]; exact List.mem_cons_self)) id
