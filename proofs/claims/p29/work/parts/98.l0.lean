/-! ===== an array of arrays ===== -/
section L0
variable {M : MI} {fr lo mc ms bc bs pc : Nat} {Q : AH → AO → Prop} {h : AH} {loc : AL} {st : List AV} {s : State} {D : va_G} {dA : Nat → ClassId} {B0 : Nat} {al : Nm → Nat} {n : Nm} {r : Nat → Nm} {t N K : Nat}
def mN (h : AH) (n : Nm) (r : Nat → Nm) (t N K : Nat) : Nat → AH
  | 0 => aN h n (20 + t) N
  | i + 1 => sR (aN (mN h n r t N K i) (r i) 20 K) n i (some (r i))
theorem mN_n (hrn : ∀ j, ¬ r j = n) : ∀ i, hT (mN h n r t N K i) n = some (20 + t, N)
  | 0 => by show hT (aN h n (20 + t) N) n = _; rw [hT_aN, if_pos rfl]
  | i + 1 => by show hT (aN (mN h n r t N K i) (r i) 20 K) n = _; rw [hT_aN, if_neg (fun z => hrn i z.symm)]; exact mN_n hrn i
theorem mN_o {m : Nm} (hm : ¬ m = n) : ∀ i, (∀ j, j < i → ¬ m = r j) → hT (mN h n r t N K i) m = hT h m
  | 0, _ => by show hT (aN h n (20 + t) N) m = _; rw [hT_aN, if_neg hm]
  | i + 1, hj => by show hT (aN (mN h n r t N K i) (r i) 20 K) m = _; rw [hT_aN, if_neg (hj i (by omega))]; exact mN_o hm i (fun j h => hj j (by omega))
theorem RelH.mfill {S0 : State} (R : RelH s D dA B0 al h S0.heap) (hB : B0 ≤ S0.heap.size) (ht : t < 11) (hty : fco (ety t) = 2) (hn : hT h n = none) (hr : ∀ j, j < N → hT h (r j) = none) (hrn : ∀ j, ¬ r j = n) (inj : ∀ i j, r i = r j → i = j) :
    ∀ i, i ≤ N → ∃ al' : Nm → Nat, RelH s D dA B0 al' (mN h n r t N K i) (Jvm.Free.Multi.fill S0 (dA t) (dA 0) N K (defaultValue .int) i).heap ∧ (∀ m, hT h m ≠ none → al' m = al m) ∧ al' n = S0.heap.size
  | 0, _ => by
    refine ⟨_, R.new (n := n) (k := 20 + t) (len := N) hn ?_ (fun q hq => Jvm.Free.Multi.fill_old S0 (dA t) (dA 0) N K _ hq 0), fun m hm => if_neg (fun z => hm (by rw [z]; exact hn)), if_pos rfl⟩
    unfold relC
    rw [hT_aN, if_pos rfl]
    dsimp only
    rw [if_neg (by omega), if_pos (by omega), Nat.add_sub_cancel_left, if_pos rfl, (Jvm.Free.Multi.fill_facts S0 (dA t) (dA 0) N K _ 0).2.1]
    refine ⟨hB, by omega, ?_⟩
    show some ({ cls := dA t, slots := Array.replicate N .null, vm := .none } : Cell) = _
    rw [arrV_new]
    congr 2
    funext j
    unfold aval
    rw [pv_new, hty]
    rfl
  | i + 1, hi => by
    obtain ⟨al', R', k1, k2⟩ := RelH.mfill R hB ht hty hn hr hrn inj i (by omega)
    obtain ⟨f1, f2, -, -⟩ := Jvm.Free.Multi.fill_facts S0 (dA t) (dA 0) N K (defaultValue .int) i
    have hri : hT (mN h n r t N K i) (r i) = none := by
      rw [mN_o (hrn i) i (fun j hj z => by have := inj i j z; omega)]; exact hr i (by omega)
    have hTn := mN_n (h := h) (r := r) (t := t) (N := N) (K := K) hrn i
    have hlt : S0.heap.size < (Jvm.Free.Multi.fill S0 (dA t) (dA 0) N K (defaultValue .int) i).heap.size := by omega
    have R1 : RelH s D dA B0 (fun m => if m = r i then (Jvm.Free.Multi.fill S0 (dA t) (dA 0) N K (defaultValue .int) i).heap.size else al' m) (aN (mN h n r t N K i) (r i) 20 K) ((Jvm.Free.Multi.fill S0 (dA t) (dA 0) N K (defaultValue .int) i).pushCell (Jvm.Free.Multi.innerC (dA 0) K (defaultValue .int))).heap := by
      refine R'.new (n := r i) (k := 20) (len := K) hri ?_ (fun q hq => State.heap_pushCell_of_lt _ _ hq)
      unfold relC
      rw [hT_aN, if_pos rfl]
      dsimp only
      rw [if_neg (by omega), if_pos (by omega), if_pos rfl, State.heap_pushCell_size]
      refine ⟨by omega, by omega, ?_⟩
      show some ({ cls := dA 0, slots := Array.replicate K (defaultValue .int), vm := .none } : Cell) = _
      rw [arrV_new]
      congr 2
      funext j
      unfold aval
      rw [pv_new]
      rfl
    have hTn1 : hT (aN (mN h n r t N K i) (r i) 20 K) n = some (20 + t, N) := by rw [hT_aN, if_neg (fun z => hrn i z.symm)]; exact hTn
    have aln : (if n = r i then (Jvm.Free.Multi.fill S0 (dA t) (dA 0) N K (defaultValue .int) i).heap.size else al' n) = S0.heap.size := by rw [if_neg (fun z => hrn i z.symm)]; exact k2
    have b1 : ((Jvm.Free.Multi.fill S0 (dA t) (dA 0) N K (defaultValue .int) i).pushCell (Jvm.Free.Multi.innerC (dA 0) K (defaultValue .int))).heap[S0.heap.size]? = some (Jvm.Free.Multi.outerC (dA t) N S0.heap.size i) := by rw [State.heap_pushCell_of_lt (h := hlt)]; exact f2
    have ea := R1.arr hTn1 ht
    rw [aln, b1] at ea
    refine ⟨_, R1.astR (j := i) (o := some (r i)) hTn1 ht (fun m z => by cases z; rw [hT_aN, if_pos rfl]; exact fun z => by cases z) hty ?_ (fun q hq => ?_), fun m hm => ?_, aln⟩
    · (try dsimp only)
      rw [aln, ← Option.some.inj ea]
      show (((Jvm.Free.Multi.fill S0 (dA t) (dA 0) N K (defaultValue .int) i).pushCell (Jvm.Free.Multi.innerC (dA 0) K (defaultValue .int))).setCell S0.heap.size (Jvm.Free.Multi.outerC (dA t) N S0.heap.size (i + 1))).heap[S0.heap.size]? = _
      rw [State.heap_setCell_self b1]
      show some ((Jvm.Free.Multi.outerC (dA t) N S0.heap.size i).setSlot i (.ref (S0.heap.size + 1 + i))) = _
      rw [Option.map_some, if_pos rfl, f1]
      rfl
    · (try dsimp only at hq)
      rw [aln] at hq
      exact State.heap_setCell_other (fun z => hq z.symm)
    · (try dsimp only)
      rw [if_neg (fun z => hm (by rw [z]; exact hr i (by omega)))]
      exact k1 m hm
end L0
