/-! ===== the start: the String constants' cells ===== -/
section LY1
variable {s : State} {args : Array Value}
abbrev nA (s : State) : Nat → Prop := fun q => s.heap.size ≤ q
theorem nA_o {s : State} : ∀ a : Nat, a < s.heap.size → ¬ nA s a := fun a h z => absurd h (Nat.not_lt.mpr z)
/-- a word's String at a, its bytes at v -/
def WF (s : State) (i a v : Nat) : Prop := va_O "java/lang/String" a (nA s) s s.heap ∧ va_OF "java/lang/String" "coder" "B" (.int 0) a (nA s) s s.heap ∧ va_OF "java/lang/String" "value" "[B" (.ref v) a (nA s) s s.heap ∧ va_T .byte v (wln.getD i 0) (fun j => .int ((wby.getD i []).getD j 0)) (nA s) s s.heap
theorem of_det {o n d : String} {v v' : Value} {t : Nat} {A : Nat → Prop} {H : Heap} (h : va_OF o n d v t A s H) (h' : va_OF o n d v' t A s H) : v = v' := by
  obtain ⟨cf, k, i, f, cell, a1, a2, a3, a4, a5, a6⟩ := h
  obtain ⟨cf', k', i', f', cell', b1, b2, b3, b4, b5, b6⟩ := h'
  cases a1.symm.trans b1
  cases a3.symm.trans b3
  exact Option.some.inj (a5.symm.trans b5)
theorem wf_one (hs : ∀ c ∈ gv, c.before args s = true) : ∀ i : Nat, ∃ q : Nat × Nat, i < 7 → (tW i).eval args s none [] s = some (.ref q.1) ∧ (tV i).eval args s none [] s = some (.ref q.2) ∧ WF s i q.1 q.2 := by
  intro i
  by_cases hi : i < 7
  · have z1 : ∀ k : Nat, k < 1 → k = 0 := fun k h => by omega
    obtain ⟨aK, aV, hS, hE⟩ := vk_Sof (N := 1) (tm := fun _ => tW i) (len := [wln.getD i 0]) (byt := [wby.getD i []]) (A := nA s) (s := s) (args := args) (fun k hk => by rw [z1 k hk]; have := wln_b (i := i); exact Nat.lt_of_lt_of_le (show wln.getD i 0 < 7 from this) (by decide)) (fun _ _ => hs _ (gv_at _ (fx_ex i hi))) (fun _ _ => hs _ (gv_at _ (fx_co i hi)))
      (fun _ _ => hs _ (gv_at _ (fx_ar i hi))) (fun k hk => by rw [z1 k hk]; exact hs _ (gv_at _ (fx_le i hi))) (fun k hk j hj => by rw [z1 k hk] at hj ⊢; exact hs _ (gv_at _ (fx_el i hi j hj))) (fun a b h1 h2 hn => absurd ((z1 a h1).trans (z1 b h2).symm) hn) nA_o
    have F := hS.1 0 (by decide)
    have hK := hE 0 (by decide)
    obtain ⟨a9, c9, cell9, k9, e1, -⟩ := Cond.exactly_spec (hs _ (gv_at _ (fx_eb i hi)))
    have d9 := of_det (vk_OFof (A := nA s) hK e1 nA_o) F.2.2.1
    exact ⟨(aK 0, aV 0), fun _ => ⟨hK, by rw [e1, d9], F⟩⟩
  · exact ⟨(0, 0), fun h => absurd h hi⟩
theorem wf_vv {i j a a' v : Nat} (hi : i < 7) (hj : j < 7) (F : WF s i a v) (G : WF s j a' v) : i = j := by
  obtain ⟨c1, x1, x2, x3, x4, x5, x6, x7⟩ := F.2.2.2
  obtain ⟨c2, y1, y2, y3, y4, y5, y6, y7⟩ := G.2.2.2
  cases x1.symm.trans y1
  have wi : ∀ i, i < 7 → wln.getD i 0 < 7 := fun i _ => wln_b
  have el := of_ij _ (wi i hi) _ (wi j hj) (x5.symm.trans y5)
  have e0 := (x6 0 (wln_0 i hi)).symm.trans (y6 0 (wln_0 j hj))
  exact wd_ij i hi j hj el (Value.int.inj (Option.some.inj e0))
theorem wf_kk {i j a v v' : Nat} (hi : i < 7) (hj : j < 7) (F : WF s i a v) (G : WF s j a v') : i = j := by
  have e := of_det F.2.2.1 G.2.2.1
  cases e
  exact wf_vv hi hj F G
theorem wf_kv {i j a v v' : Nat} (hs : ∀ c ∈ gv, c.before args s = true) (hj : j < 7) (F : WF s i a v) (he : (tV j).eval args s none [] s = some (.ref a)) : False := by
  obtain ⟨cell, x1, -, x3, -⟩ := F.1
  obtain ⟨a9, c9, cell9, k9, e1, e2, e3, -, -, e6, -⟩ := Cond.exactly_spec (hs _ (gv_at _ (fx_eb j hj)))
  cases Value.ref.inj (Option.some.inj (he.symm.trans e1))
  cases x1.symm.trans e3
  rw [← e6] at e2
  obtain ⟨k1, g1, g2⟩ := Vm.findClass_spec x3
  obtain ⟨k2, g3, g4⟩ := Vm.findClass_spec e2
  cases g1.symm.trans g3
  exact absurd (g2.symm.trans g4) (by decide +kernel)
theorem wf_bk {b L i a v : Nat} {xs : Nat → Int32} (hX : va_X b L xs s s.heap) (F : WF s i a v) (e : b = a) : False := by
  subst e
  obtain ⟨cf, k, q, f, cell, a1, a2, a3, a4, a5, a6⟩ := F.2.2.1
  obtain ⟨scr, b1, b2, b3, b4, b5⟩ := hX
  cases a3.symm.trans b1
  have hl : f.slot < L := by rw [← b4]; exact (Array.getElem?_eq_some_iff.mp a5).1
  have := (b5 _ hl).symm.trans a5
  cases this
theorem wf_bv {b L i a v : Nat} {xs : Nat → Int32} (hX : va_X b L xs s s.heap) (F : WF s i a v) (e : b = v) : False := by
  subst e
  obtain ⟨c1, x1, x2, x3, x4, x5, x6, x7⟩ := F.2.2.2
  obtain ⟨scr, b1, b2, b3, b4, b5⟩ := hX
  cases x1.symm.trans b1
  obtain ⟨-, k1, p1, m1, p2⟩ := x2
  obtain ⟨-, k2, r1, m2, r2⟩ := b2
  cases p1.symm.trans r1
  have := p2.symm.trans r2
  cases this
/-- the cells told of at the start -/
def SW (s : State) (b : Nat) (dA : Nat → ClassId) : Prop := (∀ i, i < 7 → WF s i (dA (100 + i)) (dA (110 + i))) ∧ (∀ i j, i < 7 → j < 7 → ¬ dA (100 + i) = dA (110 + j)) ∧ (∀ i, i < 7 → ¬ b = dA (100 + i) ∧ ¬ b = dA (110 + i)) ∧ ∀ i, i < 7 → (tW i).eval args s none [] s = some (.ref (dA (100 + i)))
theorem sw_all {b L : Nat} {xs : Nat → Int32} (hs : ∀ c ∈ gv, c.before args s = true) (hts : ∀ w ∈ lw_tbl, w.before args s = true) (hX : va_X b L xs s s.heap) : ∃ dA : Nat → ClassId, SW (args := args) s b dA ∧ ∀ t, t < 11 → ArrOfT s (dA t) (ety t) ∧ va_RA s (dA t) (ety t) := by
  obtain ⟨cA, hcA⟩ := Classical.axiomOfChoice (ra_all hts)
  obtain ⟨ad, had⟩ := Classical.axiomOfChoice (wf_one hs)
  refine ⟨fun t => if t < 11 then cA t else if t < 110 then (ad (t - 100)).1 else (ad (t - 110)).2, ?_, fun t ht => by dsimp only; rw [if_pos ht]; exact hcA t ht⟩
  have e1 : ∀ i, i < 7 → (if 100 + i < 11 then cA (100 + i) else if 100 + i < 110 then (ad (100 + i - 100)).1 else (ad (100 + i - 110)).2) = (ad i).1 := fun i hi => by rw [if_neg (by omega), if_pos (by omega), Nat.add_sub_cancel_left]
  have e2 : ∀ i, i < 7 → (if 110 + i < 11 then cA (110 + i) else if 110 + i < 110 then (ad (110 + i - 100)).1 else (ad (110 + i - 110)).2) = (ad i).2 := fun i hi => by rw [if_neg (by omega), if_neg (by omega), Nat.add_sub_cancel_left]
  refine ⟨fun i hi => ?_, fun i j hi hj => ?_, fun i hi => ?_, fun i hi => ?_⟩
  · show WF s i (if 100 + i < 11 then cA (100 + i) else if 100 + i < 110 then (ad (100 + i - 100)).1 else (ad (100 + i - 110)).2) (if 110 + i < 11 then cA (110 + i) else if 110 + i < 110 then (ad (110 + i - 100)).1 else (ad (110 + i - 110)).2)
    rw [e1 i hi, e2 i hi]
    exact (had i hi).2.2
  · show ¬ (if 100 + i < 11 then cA (100 + i) else if 100 + i < 110 then (ad (100 + i - 100)).1 else (ad (100 + i - 110)).2) = (if 110 + j < 11 then cA (110 + j) else if 110 + j < 110 then (ad (110 + j - 100)).1 else (ad (110 + j - 110)).2)
    rw [e1 i hi, e2 j hj]
    exact fun z => wf_kv (v' := 0) hs hj (had i hi).2.2 (by rw [z]; exact (had j hj).2.1)
  · show (¬ b = (if 100 + i < 11 then cA (100 + i) else if 100 + i < 110 then (ad (100 + i - 100)).1 else (ad (100 + i - 110)).2)) ∧ ¬ b = (if 110 + i < 11 then cA (110 + i) else if 110 + i < 110 then (ad (110 + i - 100)).1 else (ad (110 + i - 110)).2)
    rw [e1 i hi, e2 i hi]
    exact ⟨fun z => wf_bk hX (had i hi).2.2 z, fun z => wf_bv hX (had i hi).2.2 z⟩
  · show (tW i).eval args s none [] s = some (.ref (if 100 + i < 11 then cA (100 + i) else if 100 + i < 110 then (ad (100 + i - 100)).1 else (ad (100 + i - 110)).2))
    rw [e1 i hi]
    exact (had i hi).1
theorem wd_all {b : Nat} {l : Launch} {dA : Nat → ClassId} (hflags : l.flags = flags0) (hs : ∀ c ∈ gv, c.before args s = true) (hts : ∀ w ∈ lw_tbl, w.before args s = true) (S : SW (args := args) s b dA) (hA : ∀ t, t < 11 → ArrOfT s (dA t) (ety t) ∧ va_RA s (dA t) (ety t)) : ∃ D : va_G, Wd D dA s.heap.size s.heap l s := by
  have hg : ∀ w ∈ gtbl, w.before args s = true := fun w hw => hts w (List.mem_filter.mp hw).1
  obtain ⟨q, hq⟩ := Classical.axiomOfChoice (cl_all hg)
  refine ⟨(fun k => (q k).1, fun k => (q k).2), ⟨fun c r hc => ?_, fun k r hk => ?_⟩, ?_, Nat.le_refl _, fun _ _ => rfl, vx_Zqof (tb_at hts 134 (by decide +kernel)) (tb_at hts 3 (by decide +kernel)) (hs _ fl_s1) nA_o, vx_Zqof (tb_at hts 136 (by decide +kernel)) (tb_at hts 3 (by decide +kernel)) (hs _ fl_s2) nA_o, strs_ok hts, ⟨fun r hr => va_Nc.of (hs _ (fl_nc r hr)), ?_⟩, fun w hw => xt_any (List.mem_filter.mp hw).2 (hts w (List.mem_filter.mp hw).1)⟩
  · have hl : c < 10 := (List.getElem?_eq_some_iff.mp hc).1
    rw [cl_at c hl] at hc
    cases hc
    exact hq c hl
  · have hl : k < 11 := by have := (List.getElem?_eq_some_iff.mp hk).1; simpa [tys] using this
    rw [tys_at dA k hl] at hk
    cases hk
    exact hA k hl
  · unfold Launch.stackTraces
    rw [hflags]
    decide +kernel
  · refine ⟨fun i hi => vk_R.of (tb_at hts _ (tb_sr i hi)) (S.2.2.2 i hi), ⟨fun i hi => S.1 i hi, fun i j hi hj e => wf_kk hi hj (S.1 i hi) (by rw [show dA (100 + i) = dA (100 + j) from e]; exact S.1 j hj)⟩, va_Zof (tb_at hts 662 (by decide +kernel)) (tb_at hts 10 (by decide +kernel)) (va_eqi (hs _ fl_s3)) nA_o, va_Zqof (tb_at hts 752 (by decide +kernel)) (tb_at hts 16 (by decide +kernel)) (hs _ fl_s4) nA_o, prv_ok hts⟩
end LY1
