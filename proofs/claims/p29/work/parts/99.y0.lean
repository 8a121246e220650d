/-! ===== the start: what the tables and the Statement say of it ===== -/
section LY0
variable {s : State} {args : Array Value}
theorem xt_any {w : Cond} (hx : isX w = true) (h : w.before args s = true) : w.before #[] s = true := by
  cases w with
  | arrayOver t => exact h
  | methodLinkNest a b c d => exact va_Nw.of rfl h
  | castable a b => exact va_Nw.of rfl h
  | declares a => exact va_Nw.of rfl h
  | _ => cases hx
/-- a private method of a class that is no interface -/
theorem sel_priv {y z : MethodName} {C : String} {a' : Array Value} (hz : (Cond.selects C z z).before args s = true) (hyz : y.cls = z.cls) (hy : y.cls ≠ "java/lang/invoke/MethodHandle" ∧ y.cls ≠ "java/lang/invoke/VarHandle") (hp : (Cond.privateMethod y).before args s = true) (hi : (Cond.instanceMethod y).before args s = true) : (Cond.selects C y y).before a' s = true := by
  obtain ⟨c, r, m, hc, -, hm, -, mk, hk, hni⟩ := Cond.selects_spec hz
  obtain ⟨my, methM, hnamed, hmethM, -, -⟩ := Cond.instanceMethod_spec hi
  have hfound : s.methodFound? y.cls y.name y.desc = some my := State.methodFound?_of_named hnamed hy
  have hcls : my.cls = m.cls := Option.some.inj ((findClass_of_methodNamed hnamed).symm.trans (by rw [hyz]; exact findClass_of_methodNamed hm))
  have hsel : selectMethod {} s.vm c my = .method my := selectMethod_private hmethM (Cond.privateMethod_at hp my methM hnamed hmethM)
  simp only [Cond.before, Cond.holds, Cond.value, hc, hfound, hnamed, hsel, hcls, hk]
  simp
  exact hni
theorem tb_at (hts : ∀ w ∈ lw_tbl, w.before args s = true) {w : Cond} (i : Nat) (h : tables_1[i]? = some w) : w.before args s = true := hts w (List.mem_append_right _ (List.mem_of_getElem? h))
/-- the private methods of a builder's superclass -/
theorem prv_ok (hts : ∀ w ∈ lw_tbl, w.before args s = true) : ∀ y ∈ prv, (Cond.selects RJ4 y y).before #[] s = true := by
  have hz : (Cond.selects RJ4 ⟨"java/lang/AbstractStringBuilder", "isLatin1", "()Z"⟩ ⟨"java/lang/AbstractStringBuilder", "isLatin1", "()Z"⟩).before args s = true := tb_at hts 737 (by decide +kernel)
  intro y hy
  unfold prv at hy
  simp only [List.mem_cons, List.not_mem_nil, or_false] at hy
  rcases hy with rfl | rfl | rfl
  · exact sel_priv hz rfl ⟨by decide +kernel, by decide +kernel⟩ (tb_at hts 704 (by decide +kernel)) (tb_at hts 705 (by decide +kernel))
  · exact sel_priv hz rfl ⟨by decide +kernel, by decide +kernel⟩ (tb_at hts 775 (by decide +kernel)) (tb_at hts 776 (by decide +kernel))
  · exact sel_priv hz rfl ⟨by decide +kernel, by decide +kernel⟩ (tb_at hts 779 (by decide +kernel)) (tb_at hts 780 (by decide +kernel))
/-- the String constants -/
theorem str_ok {c t : String} {k : Nat} (h : (Cond.stringRef c k t).before args s = true) : ∃ a, vk_R c k t a s := by
  cases hc : s.vm.findClass c with
  | none => simp [Cond.before, Cond.holds, Cond.value, hc] at h
  | some cur =>
    obtain ⟨_, _, _, a, -, -, -, -, -, he⟩ := Cond.stringRef_spec hc h
    exact ⟨a, vk_R.of h he⟩
theorem strs_ok (hts : ∀ w ∈ lw_tbl, w.before args s = true) : ∀ q ∈ strs, ∃ sa, vk_R q.1 q.2.1 q.2.2 sa s := by
  intro q hq
  obtain ⟨w, hw, e⟩ := List.mem_filterMap.mp hq
  cases w with
  | stringRef c k t =>
    cases e
    exact str_ok (hts _ hw)
  | _ => cases e
/-! arrays, classes -/
theorem ra_o {C : String} (h : (Cond.arrayOver (.object C)).before args s = true) : ∃ c, ArrOfT s c (.object C) ∧ va_RA s c (.object C) := by
  obtain ⟨comp, c, k, h1, -, h3, h4, h5⟩ := Cond.arrayOver_spec h
  exact ⟨c, fun n z => ⟨(fun k e => by cases e), k, h3, comp, h4⟩, k, comp, h3, h4, h1, h5⟩
theorem ra_a {t : FieldType} (h : (Cond.arrayOver (.array t)).before args s = true) : ∃ c, ArrOfT s c (.array t) ∧ va_RA s c (.array t) := by
  obtain ⟨comp, c, k, -, h3, h4, h5⟩ := Cond.arrayOver_specA h
  exact ⟨c, fun n z => ⟨(fun k e => by cases e), k, h3, comp, h4⟩, h5⟩
theorem ra_p {t : FieldType} (h : (Cond.arrayClass t).before args s = true) (hn : ∀ c, va_RA s c t = (s.vm.findClass ("[" ++ t.toString) = some c)) : ∃ c, ArrOfT s c t ∧ va_RA s c t := by
  obtain ⟨c, k, comp, h1, h2, h3⟩ := Cond.arrayClass_spec h
  exact ⟨c, fun n z => ⟨(fun k e => by cases e), k, h2, comp, h3⟩, by rw [hn]; exact h1⟩
theorem ra_all (hts : ∀ w ∈ lw_tbl, w.before args s = true) : ∀ t, ∃ c, t < 11 → ArrOfT s c (ety t) ∧ va_RA s c (ety t)
  | 0 => (ra_p (tb_at hts 68 (by decide +kernel)) (fun _ => rfl)).imp fun _ h _ => h
  | 1 => (ra_p (tb_at hts 69 (by decide +kernel)) (fun _ => rfl)).imp fun _ h _ => h
  | 2 => (ra_p (tb_at hts 226 (by decide +kernel)) (fun _ => rfl)).imp fun _ h _ => h
  | 3 => (ra_o (tb_at hts 33 (by decide +kernel))).imp fun _ h _ => h
  | 4 => (ra_o (tb_at hts 35 (by decide +kernel))).imp fun _ h _ => h
  | 5 => (ra_o (tb_at hts 37 (by decide +kernel))).imp fun _ h _ => h
  | 6 => (ra_o (tb_at hts 39 (by decide +kernel))).imp fun _ h _ => h
  | 7 => (ra_o (tb_at hts 41 (by decide +kernel))).imp fun _ h _ => h
  | 8 => (ra_o (tb_at hts 183 (by decide +kernel))).imp fun _ h _ => h
  | 9 => (ra_a (tb_at hts 181 (by decide +kernel))).imp fun _ h _ => h
  | 10 => (ra_p (tb_at hts 174 (by decide +kernel)) (fun _ => rfl)).imp fun _ h _ => h
  | n + 11 => ⟨0, fun h => absurd h (by omega)⟩
theorem cl_all (hg : ∀ w ∈ gtbl, w.before args s = true) : ∀ k, ∃ q : ClassId × (Nat → Nat), k < 10 → u_Kn s (clR k) (clT k) (clN k) q.1 q.2
  | 0 => by obtain ⟨c, i, h⟩ := u_known hg inC0 (hg _ insJ4); exact ⟨(c, i), fun _ => h⟩
  | 1 => by obtain ⟨c, i, h⟩ := u_known hg inC1 (hg _ insX1); exact ⟨(c, i), fun _ => h⟩
  | 2 => by obtain ⟨c, i, h⟩ := u_known hg inC2 (hg _ insX1); exact ⟨(c, i), fun _ => h⟩
  | 3 => by obtain ⟨c, i, h⟩ := u_known hg inC3 (hg _ insX2); exact ⟨(c, i), fun _ => h⟩
  | 4 => by obtain ⟨c, i, h⟩ := u_known hg inC4 (hg _ insX3); exact ⟨(c, i), fun _ => h⟩
  | 5 => by obtain ⟨c, i, h⟩ := u_known hg inC5 (hg _ insX4); exact ⟨(c, i), fun _ => h⟩
  | 6 => by obtain ⟨c, i, h⟩ := u_known hg inC6 (hg _ insX5); exact ⟨(c, i), fun _ => h⟩
  | 7 => by obtain ⟨c, i, h⟩ := u_known hg inC7 (hg _ insX6); exact ⟨(c, i), fun _ => h⟩
  | 8 => by obtain ⟨c, i, h⟩ := u_known hg inC8 (hg _ insX7); exact ⟨(c, i), fun _ => h⟩
  | 9 => by obtain ⟨c, i, h⟩ := u_known hg inC9 (hg _ insX1); exact ⟨(c, i), fun _ => h⟩
  | n + 10 => ⟨(0, fun _ => 0), fun h => absurd h (by omega)⟩
/-! the words -/
abbrev gv : List Cond := flatC (Jvm.Cond.and given_1 narrow_1)
def tW (i : Nat) : Term := .string RX7 (wix i)
def tV (i : Nat) : Term := .field (tW i) "java/lang/String" "value" "[B"
def fxb : List Nat := [957, 964, 974, 982, 991, 999, 1007]
theorem gv_at {w : Cond} (i : Nat) (h : gv[i]? = some w) : w ∈ gv := List.mem_of_getElem? h
theorem fx_ex : ∀ i, i < 7 → gv[fxb.getD i 0]? = some (Cond.exactly (tW i) "java/lang/String") := by decide +kernel
theorem fx_co : ∀ i, i < 7 → gv[fxb.getD i 0 + 1]? = some (Cond.eq (.field (tW i) "java/lang/String" "coder" "B") (.int 0)) := by decide +kernel
theorem fx_ar : ∀ i, i < 7 → gv[fxb.getD i 0 + 2]? = some (Cond.arrayOf (tV i) .byte) := by decide +kernel
theorem fx_le : ∀ i, i < 7 → gv[fxb.getD i 0 + 3]? = some (Cond.eq (.length (tV i)) (.int (Int32.ofNat (wln.getD i 0)))) := by decide +kernel
theorem fx_el : ∀ i, i < 7 → ∀ j, j < wln.getD i 0 → gv[fxb.getD i 0 + 4 + j]? = some (Cond.eq (.elem (tV i) (.int (Int32.ofNat j))) (.int ((wby.getD i []).getD j 0))) := by decide +kernel
theorem fx_eb : ∀ i, i < 7 → gv[1056 + i]? = some (Cond.exactly (tV i) "[B") := by decide +kernel
theorem fl_nc : ∀ q ∈ ncs, Cond.not (.castable q.1 q.2) ∈ gv := by
  intro q hq
  unfold ncs at hq
  simp only [List.mem_cons, List.not_mem_nil, or_false] at hq
  rcases hq with rfl | rfl | rfl
  · exact gv_at 13 (by decide +kernel)
  · exact gv_at 15 (by decide +kernel)
  · exact gv_at 25 (by decide +kernel)
theorem fl_s1 : Cond.isRef (.static "java/lang/Throwable" "UNASSIGNED_STACK" "[Ljava/lang/StackTraceElement;") ∈ gv := gv_at 4 (by decide +kernel)
theorem fl_s2 : Cond.isRef (.static "java/lang/Throwable" "SUPPRESSED_SENTINEL" "Ljava/util/List;") ∈ gv := gv_at 5 (by decide +kernel)
theorem fl_s3 : Cond.eq (.static "java/lang/String" "COMPACT_STRINGS" "Z") (.int 1) ∈ gv := gv_at 6 (by decide +kernel)
theorem fl_s4 : Cond.isRef (.static "jdk/internal/util/Preconditions" "SIOOBE_FORMATTER" "Ljava/util/function/BiFunction;") ∈ gv := gv_at 7 (by decide +kernel)
theorem tb_sr : ∀ i, i < 7 → tables_1[685 + i]? = some (Cond.stringRef RX7 (wix i) (wtx i)) := by decide +kernel
theorem wd_ij : ∀ i, i < 7 → ∀ j, j < 7 → wln.getD i 0 = wln.getD j 0 → (wby.getD i []).getD 0 0 = (wby.getD j []).getD 0 0 → i = j := by decide +kernel
theorem wln_0 : ∀ i, i < 7 → 0 < wln.getD i 0 := by decide +kernel
theorem of_ij : ∀ i, i < 7 → ∀ j, j < 7 → Int32.ofNat i = Int32.ofNat j → i = j := by decide +kernel
end LY0
