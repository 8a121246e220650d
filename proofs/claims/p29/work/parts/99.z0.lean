/-! THE CLAIM OUT OF ONE WALK OF THE LAW'S BODY. Your part is whole_start (and what it stands on); all else here is the same for every law, but numbers. -/
def R_law : String := "FieldMigratorLaw"
def lw_P (b : Addr) (xs : List Int32) (args : Array Value) (s : State) : Prop := args = #[.ref b] ∧ s.IntsAt b xs ∧ xs.length ≤ 260 ∧ (Jvm.Cond.and given_1 narrow_1).before args s = true
def lw_Q (_ : Array Value) (s : State) (o : Outcome) (t : State) : Prop := o = .returned (some (.int 1)) ∧ Framed s o t [] room_1.cells room_1.slots
def lw_Z (below : List Frame) (a : Array Value) (s : State) : State → Prop := fun t => ∃ o, t.status = .running ∧ Ended t below o ∧ lw_Q a s o t
/-- what holds at the law's entry: the machine, the code, the tables' words, the script, what the Statement gives of the start; the method's name, no handlers -/
def lw_At (p : Program) (s : State) (m : MethodId) (meth : Method) (c : Code) (b L : Nat) (xs : Nat → Int32) : Prop :=
  p.tables.exec = Jvm.exec ∧ c.code = code ∧ meth.sig.returnType = ret ∧ c.maxLocals = 15 ∧ s.vm.findClass R_law = some m.cls ∧ (∀ w ∈ lw_tbl, w.before #[Value.ref b] s = true) ∧ va_X b L xs s s.heap ∧ b < s.heap.size ∧ meth.locks = false ∧ (Jvm.Cond.and given_1 narrow_1).before #[Value.ref b] s = true ∧ meth.name = "law" ∧ c.exceptionTable.toList = []
set_option maxHeartbeats 4000000 in
/-- from the entry, for every script of at most 260 ints, the law comes to its end with true -/
theorem whole_start {p : Program} {e : Env} {s : State} {m : MethodId} {below : List Frame} {meth : Method} {c : Code} (l : Launch) (hflags : l.flags = flags0) {b L : Nat} {xs : Nat → Int32} (hL : L ≤ 260) (C0 : lw_At p s m meth c b L xs) : W p l e room_1 s m #[Value.ref b] below meth c s.heap [] 0 0 (lw_Z below #[Value.ref b] s) (entryFrame m ([Value.ref b] : List Value).toArray 15) := by
  obtain ⟨c1, c2, c3, c4, c5, hts, hX, hb, c9, hgv, c11, c12⟩ := C0
  have hs : ∀ c ∈ gv, c.before #[Value.ref b] s = true := flat_of_before _ hgv
  obtain ⟨dA, S, hA⟩ := sw_all hs hts hX
  obtain ⟨D, hW⟩ := wd_all (l := l) hflags hs hts S hA
  have hR := rel_0 (D := D) S hX hb
  have C : Ctx mL_law p l s m #[Value.ref b] meth c D dA s.heap.size s.heap := ⟨c1, c2, c3, c4, c5, c11, fun w hw => hts w (List.mem_filter.mp hw).1, c9, hW, by rw [c12]; rfl⟩
  have hl := lv_entry [Value.ref b] (n := 15) (Nat.le_of_ble_eq_true rfl)
  rw [lg_entry_eq]
  generalize ((lg_sl [Value.ref b] ++ List.replicate (15 - (lg_sl [Value.ref b]).length) Slot.unset).toArray) = ls at hl ⊢
  have hl2 : lv_has ls 15 (rl (al0 b dA) (largs 0 [vr nS])) := by
    rw [rl_largs]
    exact hl
  have hTS : hT (h00 L xs) nS = some (40, L) := h0T_s
  have hw0 : ∀ i, i < 7 → hT (h00 L xs) (nWs i) = some (41 + i, 0) ∧ hT (h00 L xs) (nWb i) = some (51 + i, wln.getD i 0) := fun i hi => ⟨h0T_w (L := L) hi, h0T_b (L := L) hi⟩
  have hn0 : ∀ n : Nm, n.1 < 98 → hT (h00 L xs) n = none := fun n hn => by
    show h0T L n = none
    by_cases z : h0T L n = none
    · exact z
    · rcases h0T_x z with rfl | ⟨i, hi, rfl | rfl⟩
      · exact absurd (show (99 : Nat) < 98 from hn) (by decide)
      · exact absurd (show (98 : Nat) < 98 from hn) (by decide)
      · exact absurd (show (98 : Nat) < 98 from hn) (by decide)
  have k0 : AW mL_law fL_law loL_law room_1.cells room_1.slots (fun _ o => o = .inl (some (vi 1))) room_1.cells room_1.slots 0 (h00 L xs) (largs 0 [vr nS]) [] := AW.less (by decide) (by decide) (kL_law hTS (by omega) hw0 hn0 (fun _ => rfl))
  have k := k0 p l e s m #[Value.ref b] below meth c D dA s.heap.size s.heap C (fun _ => False) (al0 b dA) (al0 b dA) s.heap [] 0 0 ls hR (fun n hn => hn.elim) va_S.rf (Nat.le_of_eq (Nat.zero_add _)) (Nat.le_of_eq (Nat.zero_add _))
    (okl_largs [vr nS] 0 (fun v hv => by rw [List.mem_singleton.mp hv]; intro n z; cases z; rw [hTS]; exact fun z => by cases z)) okvs.nil hl2
  intro T hT9 X
  obtain ⟨t, a1, o, b1, b2, b3⟩ := k T hT9 X
  refine ⟨t, a1, o, b1, b2, ?_⟩
  rcases b3 with ⟨⟨v, h', al', ho, hq, -⟩, L9, hF, hL9⟩ | ⟨q, -, E, ce, L9, ⟨h', al', hq, -⟩, -⟩
  · cases hq
    obtain ⟨f1, f2, f3⟩ := hF
    refine ⟨by rw [ho]; rfl, f1, f2, ?_⟩
    exact State.sameButNew.drop_fresh (L := []) (J := L9) f3 hL9
  · cases hq
