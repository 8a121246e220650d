/-! ===== the class: carrying, told by one heap ===== -/
section C16
variable {Q : AH → AO → Prop} {h H g : AH} {s p a b : Nat} {u v l0 l1 t0 t1 r0 r1 : Int}
theorem Scr.kpt {f x : Int} (c : Scr s H g) : Scr s (cpt H a b f x) (cpt g a b f x) := by
  unfold cpt; split
  · exact c.sw
  · exact c
theorem Scr.kaw {e x y : Int} (c : Scr s H g) : Scr s (caw H a b e x y) (caw g a b e x y) := by
  unfold caw; exact c.sw.sw.sw
def ccput (s p a b : Nat) (u v l0 l1 t0 t1 : Int) (H : AH) (r0 r1 : Int) : AH :=
  cpt (cpt (if ctl0 H s p v (nu u) r0 r1 = l0 ∧ ctl1 H s p v (nu u) r0 = l1 then H else caw H a b (2 * v + nu u) l0 l1) a b t0 r0) a b t1 r1
theorem cfin_i (k : ∀ g, Scr s (ccput s p a b u v l0 l1 t0 t1 H r0 r1) g → Q g (.inl none)) : cfin Q s p a b u v l0 l1 t0 t1 H r0 r1 := by
  intro g sg
  refine k _ (Scr.kpt (Scr.kpt ?_))
  split
  · exact sg
  · exact sg.kaw
def cbox (s p a b : Nat) (u v l0 l1 : Int) (H : AH) : AH × Int × Int :=
  if hI H (a, b, 2) (2 * v + u).toNat = 0 then (H, ctl0 H s p v u l0 l1, ctl1 H s p v u l0)
  else if (ctl0 (sI H (a, b, 2) (2 * v + u).toNat 0) s p v (nu u) (hI H (a, b, 3) (2 * (2 * v + u)).toNat) (hI H (a, b, 3) (2 * (2 * v + u) + 1).toNat) = l0 ∧ ctl1 (sI H (a, b, 2) (2 * v + u).toNat 0) s p v (nu u) (hI H (a, b, 3) (2 * (2 * v + u)).toNat) = l1) then (sI H (a, b, 2) (2 * v + u).toNat 0, hI H (a, b, 3) (2 * (2 * v + u)).toNat, hI H (a, b, 3) (2 * (2 * v + u) + 1).toNat)
  else (sI (sI H (a, b, 2) (2 * v + u).toNat 0) (a, b, 0) 1 (wr (hI H (a, b, 0) 1 + 1)), ctl0 H s p v u l0 l1, ctl1 H s p v u l0)
theorem ccar_i (k : ∀ g, Scr s (ccput s p a b u v l0 l1 t0 t1 (cbox s p a b u v l0 l1 H).1 (cbox s p a b u v l0 l1 H).2.1 (cbox s p a b u v l0 l1 H).2.2) g → Q g (.inl none)) : ccar Q s p a b u v l0 l1 t0 t1 H := by
  refine ⟨fun z => ?_, fun z c => ?_, fun z c => ?_⟩
  · unfold cbox at k; rw [if_pos z] at k; exact cfin_i k
  · unfold cbox at k; rw [if_neg z, if_pos c] at k; exact cfin_i k
  · unfold cbox at k; rw [if_neg z, if_neg c] at k; exact cfin_i k
/-- the heap behind a carrying, but for the scratch pairs -/
def ccl (h : AH) (s p a b : Nat) (u v : Int) : AH :=
  if hI h (5, p, 0) 0 = 1 then sI h (a, b, 0) 0 (if u = 0 then v - 1 else v)
  else ccput s p a b u v (cvl h a b (if u = 0 then hI h (7, p, 0) 0 else hI h (6, p, 0) 0)) (cvl h a b (if u = 0 then hI h (7, p, 0) 1 else hI h (6, p, 0) 1)) (if u = 0 then hI h (6, p, 0) 0 else hI h (7, p, 0) 0) (if u = 0 then hI h (6, p, 0) 1 else hI h (7, p, 0) 1)
    (cbox s p a b u v (cvl h a b (if u = 0 then hI h (7, p, 0) 0 else hI h (6, p, 0) 0)) (cvl h a b (if u = 0 then hI h (7, p, 0) 1 else hI h (6, p, 0) 1)) (sI h (a, b, 0) 0 (if u = 0 then v - 1 else v))).1
    (cbox s p a b u v (cvl h a b (if u = 0 then hI h (7, p, 0) 0 else hI h (6, p, 0) 0)) (cvl h a b (if u = 0 then hI h (7, p, 0) 1 else hI h (6, p, 0) 1)) (sI h (a, b, 0) 0 (if u = 0 then v - 1 else v))).2.1
    (cbox s p a b u v (cvl h a b (if u = 0 then hI h (7, p, 0) 0 else hI h (6, p, 0) 0)) (cvl h a b (if u = 0 then hI h (7, p, 0) 1 else hI h (6, p, 0) 1)) (sI h (a, b, 0) 0 (if u = 0 then v - 1 else v))).2.2
theorem kX4_carry (W : SchW h s) (B : SB h s) (P : StpW h p) (S : StaW h a b) (hu : u = 0 ∨ u = 1) (hv : 1 ≤ v ∧ v ≤ hI h (4, s, 0) 0) (hp : hR h (4, s, 5) v.toNat = some (5, p, 0)) (ev : hI h (a, b, 0) 0 = if u = 0 then v else v - 1) (h4 : Nat.beq 4 a = false) (ha4 : Nat.beq a 4 = false) (h5 : Nat.beq 5 a = false) (h6 : Nat.beq 6 a = false) (h7 : Nat.beq 7 a = false)
    (k : ∀ g, Scr s (ccl h s p a b u v) g → Q g (.inl none)) : AC mX4_carry fX4_carry loX4_carry 0 0 h [vr (4, s, 0), vr (a, b, 0), vi u] Q := by
  rcases hu with hu | hu
  · subst hu
    refine kX4_carry0 W B P S hv hp ev h4 ha4 h5 h6 h7 (fun z => ?_) (fun z => ?_)
    · unfold ccl at k; rw [if_pos z] at k; exact k _ Scr.rfl'
    · unfold ccl at k; rw [if_neg z] at k; exact ccar_i k
  · subst hu
    refine kX4_carry1 W B P S hv hp ev h4 ha4 h5 h6 h7 (fun z => ?_) (fun z => ?_)
    · unfold ccl at k; rw [if_pos z] at k; exact k _ Scr.rfl'
    · unfold ccl at k; rw [if_neg z] at k; exact ccar_i k
end C16
