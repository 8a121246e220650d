/-! ===== an array of arrays: the rule ===== -/
section L1
variable {M : MI} {fr lo mc ms bc bs pc : Nat} {Q : AH → AO → Prop} {h : AH} {loc : AL} {st : List AV}
theorem AW.mnew {idx N K : Nat} {x y : Int} (n : Nm) (r : Nat → Nm) (hn : hT h n = none) (hr : ∀ j, j < N → hT h (r j) = none) (hrn : ∀ j, ¬ r j = n) (inj : ∀ i j, r i = r j → i = j) (hd : decode M.2.1 pc = .ok (.multianewarray idx 2, 4)) (hw : Cond.classLink M.1.cls idx "[[I" ∈ gtbl)
    (hx : x = (N : Int)) (hy : y = (K : Int)) (hNb : N < 1000) (hKb : K < 1000) (hb1 : Nat.ble (1 + N) bc = true) (hb2 : Nat.ble (N + N * K) bs = true)
    (kk : AW M fr lo mc ms Q (bc - (1 + N)) (bs - (N + N * K)) (pc + 4) (mN h n r 9 N K N) loc (vr n :: st)) : AW M fr lo mc ms Q bc bs pc h loc (vi y :: vi x :: st) := by
  intro p l e s m args below meth c D dA B0 H0 C dom0 al0 al H locs cells slots ls hZ hA hS hc hs ho hv hl9
  have hW := C.2.2.2.2.2.2.2.2.1
  have hts := C.2.2.2.2.2.2.1
  have b1 := Nat.le_of_ble_eq_true hb1
  have b2 := Nat.le_of_ble_eq_true hb2
  have iy : inR y := hv.hd
  have ix : inR x := hv.tl.hd
  have cx : (Int32.ofInt x).toNatClampNeg = N := by rw [i32_cl ix, hx]; rfl
  have cy : (Int32.ofInt y).toNatClampNeg = K := by rw [i32_cl iy, hy]; rfl
  have es : "[" ++ (FieldType.array FieldType.int).toString = "[[I" := by decide +kernel
  intro T hTT Xs
  obtain ⟨vm₁, cA, comp, -, fA, fC, -, -, X', step⟩ := Xs.multianewarray2F C.1 C.2.2.2.2.1 (own := M.1.cls) (index := idx) (ty := .int) (by rw [es]; exact hts _ hw) (hW.2.2.2.2.2.2.2.2 _ aov_int) (hts _ arc_int) (g := F0 m pc ls (.int (Int32.ofInt y) :: .int (Int32.ofInt x) :: st.map (rv al))) rfl (by rw [C.2.1]; exact hd) rfl
    (by rw [i32_ltz ix]; omega) (by rw [i32_ltz iy]; omega) (by rw [cx]; omega) (by rw [cy]; show K * 4 ≤ 536870912; omega) (by rw [cy]; omega) rfl rfl (by rw [cx]; show cells + (1 + N) ≤ mc; omega) (by rw [cx, cy]; show slots + (N + N * K) ≤ ms; omega)
  rw [cx, cy] at X' step
  have h9 := (hW.1.2 9 _ (tys_at dA 9 (by decide))).2
  have h0 := (hW.1.2 0 _ (tys_at dA 0 (by decide))).2
  have eA : cA = dA 9 := Option.some.inj (fA.symm.trans h9)
  have eC : comp = dA 0 := Option.some.inj (fC.symm.trans h0)
  subst eA
  subst eC
  have hTh : (T.setVm vm₁).heap = H := hTT
  have R0 : RelH s D dA B0 al h (T.setVm vm₁).heap := by rw [hTh]; exact hZ
  obtain ⟨al', R', k1, k2⟩ := RelH.mfill (N := N) (K := K) (t := 9) R0 (by rw [hTh]; exact Nat.le_trans hW.2.2.1 hS.1) (by decide) rfl hn hr hrn inj N (Nat.le_refl _)
  obtain ⟨f1, f2, -, -⟩ := Jvm.Free.Multi.fill_facts (T.setVm vm₁) (dA 9) (dA 0) N K (defaultValue .int) N
  have fo := fun (q : Nat) (hq : q < (T.setVm vm₁).heap.size) => Jvm.Free.Multi.fill_old (T.setVm vm₁) (dA 9) (dA 0) N K (defaultValue .int) (a := q) hq N
  generalize hF : Jvm.Free.Multi.fill (T.setVm vm₁) (dA 9) (dA 0) N K (defaultValue .int) N = F at *
  rw [hTh] at f1 fo k2
  have hle : ∀ m, hT h m ≠ none → hT (mN h n r 9 N K N) m ≠ none := fun m hm => by
    rw [mN_o (fun z => hm (by rw [z]; exact hn)) N (fun j hj z => hm (by rw [z]; exact hr j hj))]; exact hm
  have k' := kk p l e s m args below meth c D dA B0 H0 C dom0 al0 al' F.heap locs (cells + 1 + N) (slots + N + N * K) ls R'
    (fun m hm => ⟨hle m (hA m hm).1, by rw [k1 m (hA m hm).1]; exact (hA m hm).2⟩) ⟨by rw [f1]; have := hS.1; omega, fun q q1 q2 => (fo q (Nat.lt_of_lt_of_le q1 hS.1)).trans (hS.2.1 q q1 q2), hS.2.2⟩ (by omega) (by omega)
    (fun q hm => okv_le hle (ho q hm)) (.cons (fun m z => by cases z; rw [mN_n hrn N]; exact fun z => by cases z) (fun v hm => okv_le hle (hv v (List.mem_cons_of_mem _ (List.mem_cons_of_mem _ hm))))) (by rw [rl_al ho k1]; exact hl9)
  rw [List.map_cons, rvs_al (fun v hm => hv v (List.mem_cons_of_mem _ (List.mem_cons_of_mem _ hm))) k1] at k'
  have e9 : rv al' (vr n) = .ref T.heap.size := by show va_rf (some (al' n)) = _; rw [k2, hTT]; rfl
  rw [e9] at k'
  obtain ⟨t, a1, b1'⟩ := k' F rfl X'
  exact ⟨t, step t a1, b1'⟩
end L1
