/-! ===== THE LAYER OF NAMED CELLS: a heap is a function of names; ints are numbers ===== -/
abbrev Nm : Type := Nat × Nat × Nat
abbrev AV : Type := Int ⊕ (Int64 ⊕ Option Nm)
abbrev vi (x : Int) : AV := Sum.inl x
abbrev vl (x : Int64) : AV := Sum.inr (Sum.inl x)
abbrev vq (o : Option Nm) : AV := Sum.inr (Sum.inr o)
abbrev vr (n : Nm) : AV := Sum.inr (Sum.inr (some n))
abbrev AH : Type := (Nm → Option (Nat × Nat)) × (Nm → Nat → Int) × (Nm → Nat → Int64) × (Nm → Nat → Option Nm)
def hT (h : AH) : Nm → Option (Nat × Nat) := h.1
def hI (h : AH) : Nm → Nat → Int := h.2.1
def hL (h : AH) : Nm → Nat → Int64 := h.2.2.1
def hR (h : AH) : Nm → Nat → Option Nm := h.2.2.2
def sI (h : AH) (n : Nm) (i : Nat) (v : Int) : AH := (h.1, (fun n' i' => if n' = n ∧ i' = i then v else h.2.1 n' i'), h.2.2.1, h.2.2.2)
def sL (h : AH) (n : Nm) (i : Nat) (v : Int64) : AH := (h.1, h.2.1, (fun n' i' => if n' = n ∧ i' = i then v else h.2.2.1 n' i'), h.2.2.2)
def sR (h : AH) (n : Nm) (i : Nat) (v : Option Nm) : AH := (h.1, h.2.1, h.2.2.1, (fun n' i' => if n' = n ∧ i' = i then v else h.2.2.2 n' i'))
/-- a new cell, blank -/
def aN (h : AH) (n : Nm) (k len : Nat) : AH := ((fun n' => if n' = n then some (k, len) else h.1 n'), (fun n' i' => if n' = n then 0 else h.2.1 n' i'), (fun n' i' => if n' = n then 0 else h.2.2.1 n' i'), (fun n' i' => if n' = n then none else h.2.2.2 n' i'))
theorem hT_sI (h : AH) (n : Nm) (i : Nat) (v : Int) : hT (sI h n i v) = hT h := rfl
theorem hL_sI (h : AH) (n : Nm) (i : Nat) (v : Int) : hL (sI h n i v) = hL h := rfl
theorem hR_sI (h : AH) (n : Nm) (i : Nat) (v : Int) : hR (sI h n i v) = hR h := rfl
theorem hI_sI (h : AH) (n : Nm) (i : Nat) (v : Int) (n' : Nm) (i' : Nat) : hI (sI h n i v) n' i' = if n' = n ∧ i' = i then v else hI h n' i' := rfl
theorem hT_sL (h : AH) (n : Nm) (i : Nat) (v : Int64) : hT (sL h n i v) = hT h := rfl
theorem hI_sL (h : AH) (n : Nm) (i : Nat) (v : Int64) : hI (sL h n i v) = hI h := rfl
theorem hR_sL (h : AH) (n : Nm) (i : Nat) (v : Int64) : hR (sL h n i v) = hR h := rfl
theorem hL_sL (h : AH) (n : Nm) (i : Nat) (v : Int64) (n' : Nm) (i' : Nat) : hL (sL h n i v) n' i' = if n' = n ∧ i' = i then v else hL h n' i' := rfl
theorem hT_sR (h : AH) (n : Nm) (i : Nat) (v : Option Nm) : hT (sR h n i v) = hT h := rfl
theorem hI_sR (h : AH) (n : Nm) (i : Nat) (v : Option Nm) : hI (sR h n i v) = hI h := rfl
theorem hL_sR (h : AH) (n : Nm) (i : Nat) (v : Option Nm) : hL (sR h n i v) = hL h := rfl
theorem hR_sR (h : AH) (n : Nm) (i : Nat) (v : Option Nm) (n' : Nm) (i' : Nat) : hR (sR h n i v) n' i' = if n' = n ∧ i' = i then v else hR h n' i' := rfl
theorem hT_aN (h : AH) (n : Nm) (k len : Nat) (n' : Nm) : hT (aN h n k len) n' = if n' = n then some (k, len) else hT h n' := rfl
theorem hI_aN (h : AH) (n : Nm) (k len : Nat) (n' : Nm) (i' : Nat) : hI (aN h n k len) n' i' = if n' = n then 0 else hI h n' i' := rfl
theorem hL_aN (h : AH) (n : Nm) (k len : Nat) (n' : Nm) (i' : Nat) : hL (aN h n k len) n' i' = if n' = n then 0 else hL h n' i' := rfl
theorem hR_aN (h : AH) (n : Nm) (k len : Nat) (n' : Nm) (i' : Nat) : hR (aN h n k len) n' i' = if n' = n then none else hR h n' i' := rfl
/-! numbers -/
def inR (x : Int) : Prop := -2147483648 ≤ x ∧ x < 2147483648
def wr (x : Int) : Int := Int.bmod x 4294967296
theorem i32_back {x : Int} (h : inR x) : (Int32.ofInt x).toInt = x := Int32.toInt_ofInt_of_le h.1 h.2
theorem i32_wr (x : Int) : Int32.ofInt (wr x) = Int32.ofInt x := by
  apply Int32.toInt_inj.mp
  rw [Int32.toInt_ofInt, Int32.toInt_ofInt]
  exact Int.bmod_bmod
theorem inR_i32 (x : Int32) : inR x.toInt := ⟨x.le_toInt, x.toInt_lt⟩
theorem wr_i32 (x : Int) : wr x = (Int32.ofInt x).toInt := by
  rw [Int32.toInt_ofInt]; rfl
theorem inR_wr (x : Int) : inR (wr x) := by rw [wr_i32]; exact inR_i32 _
theorem wr_id {x : Int} (h : inR x) : wr x = x := by rw [wr_i32]; exact i32_back h
theorem i32_eq {x y : Int} (hx : inR x) (hy : inR y) : Int32.ofInt x = Int32.ofInt y ↔ x = y := by
  constructor
  · intro h
    have := congrArg Int32.toInt h
    rwa [i32_back hx, i32_back hy] at this
  · rintro rfl; rfl
theorem i32_lt {x y : Int} (hx : inR x) (hy : inR y) : Int32.ofInt x < Int32.ofInt y ↔ x < y := by
  rw [Int32.lt_iff_toInt_lt, i32_back hx, i32_back hy]
theorem i32_le {x y : Int} (hx : inR x) (hy : inR y) : Int32.ofInt x ≤ Int32.ofInt y ↔ x ≤ y := by
  rw [Int32.le_iff_toInt_le, i32_back hx, i32_back hy]
theorem i32_cl {x : Int} (hx : inR x) : (Int32.ofInt x).toNatClampNeg = x.toNat := by
  show (Int32.ofInt x).toInt.toNat = _
  rw [i32_back hx]
theorem i32_div {x y : Int} (hx : inR x) (hy : inR y) (h : 0 < y) : Int32.ofInt x / Int32.ofInt y = Int32.ofInt (x.tdiv y) := by
  apply Int32.toInt_inj.mp
  rw [Int32.toInt_div_of_ne_right, i32_back hx, i32_back hy, i32_back]
  · refine ⟨?_, ?_⟩
    · have := hx.1
      by_cases h0 : 0 ≤ x
      · have := Int.tdiv_nonneg h0 (Int.le_of_lt h); omega
      · have h1 : (-x).tdiv y ≤ -x := Int.tdiv_le_self _ (by omega)
        rw [Int.neg_tdiv] at h1; omega
    · have := hx.2
      by_cases h0 : 0 ≤ x
      · have := Int.tdiv_le_self y h0; omega
      · have h1 : 0 ≤ (-x).tdiv y := Int.tdiv_nonneg (by omega) (Int.le_of_lt h)
        rw [Int.neg_tdiv] at h1; omega
  · intro e
    have := congrArg Int32.toInt e
    rw [i32_back hy] at this
    have h2 : (-1 : Int32).toInt = -1 := by decide
    omega
theorem inR_tdiv {x y : Int} (hx : inR x) (h : 0 < y) : inR (x.tdiv y) := by
  refine ⟨?_, ?_⟩
  · have := hx.1
    by_cases h0 : 0 ≤ x
    · have := Int.tdiv_nonneg h0 (Int.le_of_lt h); omega
    · have h1 : (-x).tdiv y ≤ -x := Int.tdiv_le_self _ (by omega)
      rw [Int.neg_tdiv] at h1; omega
  · have := hx.2
    by_cases h0 : 0 ≤ x
    · have := Int.tdiv_le_self y h0; omega
    · have h1 : 0 ≤ (-x).tdiv y := Int.tdiv_nonneg (by omega) (Int.le_of_lt h)
      rw [Int.neg_tdiv] at h1; omega
theorem i32_rem {x y : Int} (hx : inR x) (hy : inR y) (h : 0 < y) : Int32.ofInt x - Int32.ofInt x / Int32.ofInt y * Int32.ofInt y = Int32.ofInt (x.tmod y) := by
  rw [i32_div hx hy h, ← Int32.ofInt_mul, ← Int32.ofInt_sub, Int.tmod_def, Int.mul_comm]
theorem inR_tmod {x y : Int} (hx : inR x) (hy : inR y) (h : 0 < y) : inR (x.tmod y) := by
  by_cases h0 : 0 ≤ x
  · have h1 := Int.tmod_nonneg y h0
    have h2 := Int.tmod_lt_of_pos x h
    have h3 := hy.2
    exact ⟨by omega, by omega⟩
  · have h1 := Int.tmod_nonneg y (show 0 ≤ -x by omega)
    have h2 := Int.tmod_lt_of_pos (-x) h
    rw [Int.neg_tmod] at h1 h2
    have h3 := hy.2
    exact ⟨by omega, by omega⟩
/-! values -/
def rI (x : Int) : Value := .int (Int32.ofInt x)
def rv (al : Nm → Nat) : AV → Value
  | .inl x => .int (Int32.ofInt x)
  | .inr (.inl x) => .long x
  | .inr (.inr o) => va_rf (o.map al)
def cat2 : AV → Bool
  | .inr (.inl _) => true
  | _ => false
/-- fit to be held: a number in its range, a name that is there -/
def okv (h : AH) : AV → Prop
  | .inl x => inR x
  | .inr (.inl _) => True
  | .inr (.inr o) => ∀ n, o = some n → hT h n ≠ none
def okvs (h : AH) (vs : List AV) : Prop := ∀ v ∈ vs, okv h v
theorem okvs.hd {h : AH} {v : AV} {vs : List AV} (k : okvs h (v :: vs)) : okv h v := k v List.mem_cons_self
theorem okvs.tl {h : AH} {v : AV} {vs : List AV} (k : okvs h (v :: vs)) : okvs h vs := fun w hw => k w (List.mem_cons_of_mem _ hw)
theorem okvs.cons {h : AH} {v : AV} {vs : List AV} (k1 : okv h v) (k : okvs h vs) : okvs h (v :: vs) := fun w hw => by
  rcases List.mem_cons.mp hw with rfl | q
  · exact k1
  · exact k w q
theorem okvs.nil {h : AH} : okvs h [] := fun w hw => by cases hw
/-! locals -/
abbrev AL : Type := List (Nat × AV)
def lput (i : Nat) (v : AV) (l : AL) : AL := (i, v) :: l.filter (fun q => !(q.1 == i) && !(q.1 + 1 == i && cat2 q.2))
def lput2 (i : Nat) (v : AV) (l : AL) : AL := (i, v) :: l.filter (fun q => !(q.1 == i) && (!(q.1 == i + 1) && !(q.1 + 1 == i && cat2 q.2)))
def okl (h : AH) (l : AL) : Prop := ∀ q ∈ l, okv h q.2
def rl (al : Nm → Nat) (l : AL) : List (Nat × Value) := l.map (fun q => (q.1, rv al q.2))
theorem rv_cat (al : Nm → Nat) (v : AV) : ((rv al v).category == 2) = cat2 v := by
  rcases v with x | x | o
  · rfl
  · rfl
  · cases o <;> rfl
theorem rl_filter (al : Nm → Nat) (l : AL) (f : Nat → Bool → Bool) : (rl al l).filter (fun q => f q.1 (q.2.category == 2)) = rl al (l.filter (fun q => f q.1 (cat2 q.2))) := by
  induction l with
  | nil => rfl
  | cons a l ih =>
    show List.filter _ ((a.1, rv al a.2) :: rl al l) = _
    rw [List.filter_cons, List.filter_cons]
    show (if f a.1 ((rv al a.2).category == 2) = true then _ else _) = _
    rw [rv_cat, ih]
    split <;> rfl
/-! classes, fields, arrays -/
def fty (k : Nat) : Nat → FieldType := match k with
  | 1 => tyX1
  | 2 => tyX1
  | 3 => tyX2
  | 4 => tyX3
  | 5 => tyX4
  | 6 => tyX5
  | 7 => tyX6
  | 8 => tyX7
  | 9 => tyX1
  | _ => tyJ4
def clR (k : Nat) : String := match k with
  | 1 => RX1
  | 2 => RX1
  | 3 => RX2
  | 4 => RX3
  | 5 => RX4
  | 6 => RX5
  | 7 => RX6
  | 8 => RX7
  | 9 => RX1
  | _ => RJ4
def clT (k : Nat) : u_T := match k with
  | 1 => TX1
  | 2 => TX1
  | 3 => TX2
  | 4 => TX3
  | 5 => TX4
  | 6 => TX5
  | 7 => TX6
  | 8 => TX7
  | 9 => TX1
  | _ => TJ4
def clN (k : Nat) : Nat := match k with
  | 1 => 4
  | 2 => 4
  | 3 => 3
  | 4 => 3
  | 5 => 13
  | 6 => 5
  | 7 => 4
  | 8 => 11
  | 9 => 4
  | _ => 4
theorem cl_at : ∀ k, k < 10 → vwCl[k]? = some (clR k, clT k, clN k)
  | 0, _ => rfl
  | 1, _ => rfl
  | 2, _ => rfl
  | 3, _ => rfl
  | 4, _ => rfl
  | 5, _ => rfl
  | 6, _ => rfl
  | 7, _ => rfl
  | 8, _ => rfl
  | 9, _ => rfl
  | n + 10, h => absurd h (by omega)
theorem cl_nm : ∀ k, k < 10 → ∀ a, a < clN k → ∀ b, b < clN k → a ≠ b → (clT k a).2.1 ≠ (clT k b).2.1
  | 0, _ => nmJ4
  | 1, _ => nmX1
  | 2, _ => nmX1
  | 3, _ => nmX2
  | 4, _ => nmX3
  | 5, _ => nmX4
  | 6, _ => nmX5
  | 7, _ => nmX6
  | 8, _ => nmX7
  | 9, _ => nmX1
  | n + 10, h => absurd h (by omega)
theorem cl_ty : ∀ k, k < 10 → ∀ j, j < clN k → parseFieldDescriptor (clT k j).2.2.1 = some (fty k j)
  | 0, _ => tyJ4_ok
  | 1, _ => tyX1_ok
  | 2, _ => tyX1_ok
  | 3, _ => tyX2_ok
  | 4, _ => tyX3_ok
  | 5, _ => tyX4_ok
  | 6, _ => tyX5_ok
  | 7, _ => tyX6_ok
  | 8, _ => tyX7_ok
  | 9, _ => tyX1_ok
  | n + 10, h => absurd h (by omega)
def fco : FieldType → Nat
  | .long => 1
  | .object _ => 2
  | .array _ => 2
  | _ => 0
def ety (t : Nat) : FieldType := match t with
  | 0 => .int
  | 1 => .boolean
  | 2 => .long
  | 3 => .object "FieldMigrator$Schema"
  | 4 => .object "FieldMigrator$Form"
  | 5 => .object "FieldMigrator$Row"
  | 6 => .object "FieldMigrator$Mover"
  | 7 => .object "FieldMigrator$Move"
  | 8 => .object "FieldMigrator$Step"
  | 9 => .array .int
  | _ => .byte
/-- what a place of a cell holds, by its type -/
def pv (al : Nm → Nat) (h : AH) (n : Nm) (c : Nat) (j : Nat) : Value := match c with
  | 0 => rI (hI h n j)
  | 1 => .long (hL h n j)
  | _ => va_rf ((hR h n j).map al)
def fval (al : Nm → Nat) (h : AH) (n : Nm) (k : Nat) : Nat → Value := fun j => pv al h n (fco (fty k j)) j
def aval (al : Nm → Nat) (h : AH) (n : Nm) (t : Nat) : Nat → Value := fun j => pv al h n (fco (ety t)) j
def tys (dA : Nat → ClassId) : List (ClassId × FieldType) := (List.range 11).map (fun t => (dA t, ety t))
theorem tys_at (dA : Nat → ClassId) : ∀ t, t < 11 → (tys dA)[t]? = some (dA t, ety t) := by
  intro t ht
  simp [tys, ht]
/-- the cell of a name -/
def relC (s : State) (D : va_G) (dA : Nat → ClassId) (B0 : Nat) (al : Nm → Nat) (h : AH) (H : Heap) (n : Nm) : Prop :=
  match hT h n with
  | none => True
  | some (k, len) =>
    if k < 10 then B0 ≤ al n ∧ t_OB (al n) (D.1 k) (clN k) (D.2 k) H (fval al h n k)
    else if k < 31 then B0 ≤ al n ∧ 20 ≤ k ∧ H[al n]? = some (arrV (dA (k - 20)) len (aval al h n (k - 20)))
    else al n < B0 ∧ (if k < 41 then va_X (al n) len (fun j => Int32.ofInt (hI h n j)) s H else (al n = dA (k + 59) ∧ ∃ cl : Cell, H[al n]? = some cl))
def RelH (s : State) (D : va_G) (dA : Nat → ClassId) (B0 : Nat) (al : Nm → Nat) (h : AH) (H : Heap) : Prop :=
  (∀ n, relC s D dA B0 al h H n) ∧ (∀ n m, hT h n ≠ none → hT h m ≠ none → al n = al m → n = m) ∧ (∀ n i, inR (hI h n i)) ∧ (∀ n i m, hR h n i = some m → hT h m ≠ none)
theorem pv_congr {al : Nm → Nat} {h h' : AH} {n : Nm} (hi : ∀ j, hI h' n j = hI h n j) (hl : ∀ j, hL h' n j = hL h n j) (hr : ∀ j, hR h' n j = hR h n j) (c j : Nat) : pv al h' n c j = pv al h n c j := by
  unfold pv
  rcases c with _ | _ | c
  · show rI _ = rI _; rw [hi]
  · show Value.long _ = Value.long _; rw [hl]
  · show va_rf _ = va_rf _; rw [hr]
/-- what stays at the other names -/
theorem relC.kept {s : State} {D : va_G} {dA : Nat → ClassId} {B0 : Nat} {al : Nm → Nat} {h h' : AH} {H H' : Heap} {m : Nm} (hc : relC s D dA B0 al h H m) (ht : hT h' m = hT h m)
    (hi : ∀ j, hI h' m j = hI h m j) (hl : ∀ j, hL h' m j = hL h m j) (hr : ∀ j, hR h' m j = hR h m j) (hq : hT h m ≠ none → H'[al m]? = H[al m]?) : relC s D dA B0 al h' H' m := by
  unfold relC at hc ⊢
  rw [ht]
  cases hm : hT h m with
  | none => trivial
  | some q =>
    obtain ⟨k, len⟩ := q
    rw [hm] at hc
    have hq := hq (by rw [hm]; exact fun z => by cases z)
    dsimp only at hc ⊢
    by_cases k10 : k < 10
    · rw [if_pos k10] at hc ⊢
      obtain ⟨h1, h2⟩ := hc
      refine ⟨h1, (h2.kept hq).to fun j _ => ?_⟩
      exact (pv_congr hi hl hr _ _).symm
    · rw [if_neg k10] at hc ⊢
      by_cases k31 : k < 31
      · rw [if_pos k31] at hc ⊢
        obtain ⟨h1, h2, h3⟩ := hc
        refine ⟨h1, h2, ?_⟩
        rw [hq, h3]
        congr 2
        funext j
        exact (pv_congr hi hl hr _ _).symm
      · rw [if_neg k31] at hc ⊢
        obtain ⟨h1, h2⟩ := hc
        refine ⟨h1, ?_⟩
        by_cases k41 : k < 41
        · rw [if_pos k41] at h2 ⊢
          have e : (fun j => Int32.ofInt (hI h' m j)) = (fun j => Int32.ofInt (hI h m j)) := funext fun j => by rw [hi]
          rw [e]
          exact h2.kept hq
        · rw [if_neg k41] at h2 ⊢
          obtain ⟨h3, cl, h4⟩ := h2
          exact ⟨h3, cl, by rw [hq]; exact h4⟩
/-- one cell is written -/
theorem RelH.upd {s : State} {D : va_G} {dA : Nat → ClassId} {B0 : Nat} {al : Nm → Nat} {h h' : AH} {H H' : Heap} {n : Nm} (R : RelH s D dA B0 al h H) (ht : hT h' = hT h) (hn : hT h n ≠ none)
    (hi : ∀ m, m ≠ n → ∀ j, hI h' m j = hI h m j) (hl : ∀ m, m ≠ n → ∀ j, hL h' m j = hL h m j) (hr : ∀ m, m ≠ n → ∀ j, hR h' m j = hR h m j)
    (hc : relC s D dA B0 al h' H' n) (hq : ∀ q, q ≠ al n → H'[q]? = H[q]?) (hri : ∀ i, inR (hI h' n i)) (hrr : ∀ i m, hR h' n i = some m → hT h m ≠ none) : RelH s D dA B0 al h' H' := by
  obtain ⟨R1, R2, R3, R4⟩ := R
  refine ⟨fun m => ?_, fun a b ha hb e => R2 a b (by rw [← ht]; exact ha) (by rw [← ht]; exact hb) e, fun m i => ?_, fun m i q h1 => ?_⟩
  · by_cases e : m = n
    · subst e; exact hc
    · exact (R1 m).kept (by rw [ht]) (hi m e) (hl m e) (hr m e) (fun hm => hq _ (fun z => e (R2 m n hm hn z)))
  · by_cases e : m = n
    · subst e; exact hri i
    · rw [hi m e]; exact R3 m i
  · rw [ht]
    by_cases e : m = n
    · subst e; exact hrr i q h1
    · rw [hr m e] at h1; exact R4 m i q h1
theorem RelH.low {s : State} {D : va_G} {dA : Nat → ClassId} {B0 : Nat} {al : Nm → Nat} {h : AH} {H : Heap} (R : RelH s D dA B0 al h H) {n : Nm} {k len : Nat} (hn : hT h n = some (k, len)) (hk : k < 31) : B0 ≤ al n := by
  have := R.1 n
  unfold relC at this
  rw [hn] at this
  dsimp only at this
  split at this
  · exact this.1
  · exact this.1
theorem RelH.obj {s : State} {D : va_G} {dA : Nat → ClassId} {B0 : Nat} {al : Nm → Nat} {h : AH} {H : Heap} (R : RelH s D dA B0 al h H) {n : Nm} {k len : Nat} (hn : hT h n = some (k, len)) (hk : k < 10) : t_OB (al n) (D.1 k) (clN k) (D.2 k) H (fval al h n k) := by
  have := R.1 n
  unfold relC at this
  rw [hn] at this
  dsimp only at this
  rw [if_pos hk] at this
  exact this.2
theorem RelH.arr {s : State} {D : va_G} {dA : Nat → ClassId} {B0 : Nat} {al : Nm → Nat} {h : AH} {H : Heap} (R : RelH s D dA B0 al h H) {n : Nm} {t len : Nat} (hn : hT h n = some (20 + t, len)) (hk : t < 11) : H[al n]? = some (arrV (dA t) len (aval al h n t)) := by
  have := R.1 n
  unfold relC at this
  rw [hn] at this
  dsimp only at this
  rw [if_neg (by omega), if_pos (by omega)] at this
  have h3 := this.2.2
  rwa [Nat.add_sub_cancel_left] at h3
theorem RelH.scr {s : State} {D : va_G} {dA : Nat → ClassId} {B0 : Nat} {al : Nm → Nat} {h : AH} {H : Heap} (R : RelH s D dA B0 al h H) {n : Nm} {len : Nat} (hn : hT h n = some (40, len)) : va_X (al n) len (fun j => Int32.ofInt (hI h n j)) s H := by
  have := R.1 n
  unfold relC at this
  rw [hn] at this
  dsimp only at this
  rw [if_neg (by omega), if_neg (by omega), if_pos (by omega)] at this
  exact this.2
theorem RelH.str {s : State} {D : va_G} {dA : Nat → ClassId} {B0 : Nat} {al : Nm → Nat} {h : AH} {H : Heap} (R : RelH s D dA B0 al h H) {n : Nm} {k len : Nat} (hn : hT h n = some (k, len)) (hk : 41 ≤ k) : al n = dA (k + 59) := by
  have := R.1 n
  unfold relC at this
  rw [hn] at this
  dsimp only at this
  rw [if_neg (by omega), if_neg (by omega), if_neg (by omega)] at this
  exact this.2.1
theorem RelH.lt {s : State} {D : va_G} {dA : Nat → ClassId} {B0 : Nat} {al : Nm → Nat} {h : AH} {H : Heap} (R : RelH s D dA B0 al h H) {n : Nm} (hn : hT h n ≠ none) : al n < H.size := by
  have := R.1 n
  unfold relC at this
  cases hm : hT h n with
  | none => exact absurd hm hn
  | some q =>
    obtain ⟨k, len⟩ := q
    rw [hm] at this
    dsimp only at this
    split at this
    · obtain ⟨_, cell, h2, -⟩ := this
      exact (Array.getElem?_eq_some_iff.mp h2).1
    · split at this
      · exact (Array.getElem?_eq_some_iff.mp this.2.2).1
      · obtain ⟨_, h3⟩ := this
        split at h3
        · obtain ⟨scr, h2, -⟩ := h3
          exact (Array.getElem?_eq_some_iff.mp h2).1
        · obtain ⟨-, cl, h4⟩ := h3
          exact (Array.getElem?_eq_some_iff.mp h4).1
theorem RelH.moved {s U : State} {D : va_G} {dA : Nat → ClassId} {B0 : Nat} {al : Nm → Nat} {h : AH} {H : Heap} (R : RelH s D dA B0 al h H) (hvm : s.vm.Alike U.vm) : RelH U D dA B0 al h H := by
  refine ⟨fun n => ?_, R.2⟩
  have h1 := R.1 n
  unfold relC at h1 ⊢
  cases hm : hT h n with
  | none => trivial
  | some q =>
    obtain ⟨k, len⟩ := q
    rw [hm] at h1
    dsimp only at h1 ⊢
    by_cases k10 : k < 10
    · rw [if_pos k10] at h1 ⊢; exact h1
    · rw [if_neg k10] at h1 ⊢
      by_cases k31 : k < 31
      · rw [if_pos k31] at h1 ⊢; exact h1
      · rw [if_neg k31] at h1 ⊢
        refine ⟨h1.1, ?_⟩
        have h2 := h1.2
        by_cases k41 : k < 41
        · rw [if_pos k41] at h2 ⊢; exact h2.moved hvm
        · rw [if_neg k41] at h2 ⊢; exact h2
/-- a new cell, at the heap's end -/
theorem RelH.new {s : State} {D : va_G} {dA : Nat → ClassId} {B0 : Nat} {al : Nm → Nat} {h : AH} {H H' : Heap} {n : Nm} {k len : Nat} (R : RelH s D dA B0 al h H) (hn : hT h n = none)
    (hc : relC s D dA B0 (fun m => if m = n then H.size else al m) (aN h n k len) H' n) (hq : ∀ q, q < H.size → H'[q]? = H[q]?) : RelH s D dA B0 (fun m => if m = n then H.size else al m) (aN h n k len) H' := by
  have hd : ∀ m i, hR h m i ≠ some n := fun m i z => R.2.2.2 m i n z hn
  have hlt : ∀ m, hT h m ≠ none → al m < H.size := fun m hm => R.lt hm
  have hpv : ∀ m, m ≠ n → ∀ c j, pv (fun m => if m = n then H.size else al m) (aN h n k len) m c j = pv al h m c j := by
    intro m e c j
    unfold pv
    rcases c with _ | _ | c
    · show rI _ = rI _; rw [hI_aN, if_neg e]
    · show Value.long _ = Value.long _; rw [hL_aN, if_neg e]
    · show va_rf _ = va_rf _
      rw [hR_aN, if_neg e]
      cases hz : hR h m j with
      | none => rfl
      | some z =>
        have : z ≠ n := fun w => hd m j (by rw [hz, w])
        show va_rf (some (if z = n then H.size else al z)) = va_rf (some (al z))
        rw [if_neg this]
  refine ⟨fun m => ?_, fun a b ha hb e => ?_, fun m i => ?_, fun m i q h1 => ?_⟩
  · by_cases e : m = n
    · subst e; exact hc
    · have h1 := R.1 m
      unfold relC at h1 ⊢
      rw [hT_aN, if_neg e]
      cases hm : hT h m with
      | none => trivial
      | some q =>
        obtain ⟨k2, l2⟩ := q
        have hl := hlt m (by rw [hm]; exact fun z => by cases z)
        rw [hm] at h1
        dsimp only at h1 ⊢
        rw [if_neg e]
        by_cases k10 : k2 < 10
        · rw [if_pos k10] at h1 ⊢
          exact ⟨h1.1, (h1.2.kept (hq _ hl)).to fun j _ => (hpv m e _ _).symm⟩
        · rw [if_neg k10] at h1 ⊢
          by_cases k31 : k2 < 31
          · rw [if_pos k31] at h1 ⊢
            refine ⟨h1.1, h1.2.1, ?_⟩
            rw [hq _ hl, h1.2.2]
            congr 2
            funext j
            exact (hpv m e _ _).symm
          · rw [if_neg k31] at h1 ⊢
            refine ⟨h1.1, ?_⟩
            have h2 := h1.2
            by_cases k41 : k2 < 41
            · rw [if_pos k41] at h2 ⊢
              have e2 : (fun j => Int32.ofInt (hI (aN h n k len) m j)) = (fun j => Int32.ofInt (hI h m j)) := funext fun j => by rw [hI_aN, if_neg e]
              rw [e2]
              exact h2.kept (hq _ hl)
            · rw [if_neg k41] at h2 ⊢
              obtain ⟨h3, cl, h4⟩ := h2
              exact ⟨h3, cl, by rw [hq _ hl]; exact h4⟩
  · rw [hT_aN] at ha hb
    dsimp only at e
    by_cases ea : a = n <;> by_cases eb : b = n
    · rw [ea, eb]
    · rw [if_neg eb] at hb
      rw [if_pos ea, if_neg eb] at e
      have := hlt b hb
      omega
    · rw [if_neg ea] at ha
      rw [if_neg ea, if_pos eb] at e
      have := hlt a ha
      omega
    · rw [if_neg ea] at ha
      rw [if_neg eb] at hb
      rw [if_neg ea, if_neg eb] at e
      exact R.2.1 a b ha hb e
  · rw [hI_aN]
    split
    · exact ⟨by omega, by omega⟩
    · exact R.2.2.1 m i
  · rw [hR_aN] at h1
    rw [hT_aN]
    split at h1
    · cases h1
    · split
      · exact fun z => by cases z
      · exact R.2.2.2 m i q h1
