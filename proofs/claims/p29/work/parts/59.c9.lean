/-! ===== the class: but for a schema's scratch pairs ===== -/
section C9
variable {h h' h2 : AH} {s : Nat}
/-- a scratch pair of the schema s -/
def scn (s : Nat) (n : Nm) : Prop := n.1 = 4 ∧ n.2.1 = s ∧ 7 ≤ n.2.2 ∧ n.2.2 ≤ 10
/-- the same heap but for the scratch pairs -/
def Scr (s : Nat) (h h' : AH) : Prop := hT h' = hT h ∧ hL h' = hL h ∧ hR h' = hR h ∧ ∀ n i, ¬ scn s n → hI h' n i = hI h n i
theorem Scr.rfl' : Scr s h h := ⟨rfl, rfl, rfl, fun _ _ _ => rfl⟩
theorem Scr.trans (a : Scr s h h') (b : Scr s h' h2) : Scr s h h2 := ⟨b.1.trans a.1, b.2.1.trans a.2.1, b.2.2.1.trans a.2.2.1, fun n i hn => (b.2.2.2 n i hn).trans (a.2.2.2 n i hn)⟩
theorem Scr.w {n : Nm} {i : Nat} {v : Int} (a : Scr s h h') (hn : scn s n) : Scr s h (sI h' n i v) :=
  ⟨a.1, a.2.1, a.2.2.1, fun m j hm => by
    have q : ¬ (m = n ∧ j = i) := fun e => hm (e.1.symm ▸ hn)
    rw [hI_sI, if_neg q]
    exact a.2.2.2 m j hm⟩
theorem Scr.sw {n : Nm} {i : Nat} {v : Int} (a : Scr s h h') : Scr s (sI h n i v) (sI h' n i v) :=
  ⟨a.1, a.2.1, a.2.2.1, fun m j hm => by
    rw [hI_sI, hI_sI]
    split
    · rfl
    · exact a.2.2.2 m j hm⟩
theorem Scr.I {n : Nm} {i : Nat} {x : Int} (a : Scr s h h') (hn : ¬ scn s n) (k : hI h n i = x) : hI h' n i = x := (a.2.2.2 n i hn).trans k
theorem scn_0 {n : Nm} (hn : Nat.ble n.2.2 6 = true) : ¬ scn s n := fun z => by have := Nat.le_of_ble_eq_true hn; have := z.2.2; omega
theorem scn_1 {n : Nm} (hn : Nat.beq n.1 4 = false) : ¬ scn s n := fun z => by rw [z.1] at hn; exact absurd hn (by decide)
theorem scn_v {v : Nat} : ¬ scn s (4, s, 100 + v) := fun z => by have := z.2.2.2; dsimp only at this; omega
theorem Scr.W (a : Scr s h h') (W : SchW h s) : SchW h' s := by unfold SchW; rw [a.1, a.2.2.1]; exact W
theorem Scr.St {x y : Nat} (a : Scr s h h') (W : StaW h x y) : StaW h' x y := by unfold StaW; rw [a.1, a.2.2.1]; exact W
theorem Scr.P {p : Nat} (a : Scr s h h') (W : StpW h p) : StpW h' p := by unfold StpW; rw [a.1, a.2.2.1]; exact W
theorem Scr.hPB {p : Nat} (a : Scr s h h') (B : PB h p) : PB h' p := by
  unfold PB
  rw [a.2.2.2 (6, p, 0) 0 (scn_1 rfl), a.2.2.2 (6, p, 0) 1 (scn_1 rfl), a.2.2.2 (7, p, 0) 0 (scn_1 rfl), a.2.2.2 (7, p, 0) 1 (scn_1 rfl)]
  exact B
theorem Scr.hSB (a : Scr s h h') (B : SB h s) : SB h' s := by
  unfold SB
  rw [a.2.2.2 (4, s, 0) 0 (scn_0 rfl), a.2.2.2 (4, s, 0) 1 (scn_0 rfl), a.2.2.2 (4, s, 0) 2 (scn_0 rfl)]
  exact B
theorem Scr.hcdf (a : Scr s h h') {f : Int} : cdf h' s f = cdf h s f := by
  unfold cdf
  rw [a.2.2.2 (4, s, 0) 2 (scn_0 rfl), a.2.2.2 (4, s, 2) _ (scn_0 rfl)]
theorem Scr.hckd (a : Scr s h h') {f : Int} : ckd h' s f = ckd h s f := by
  unfold ckd
  rw [a.2.2.2 (4, s, 0) 2 (scn_0 rfl), a.2.2.2 (4, s, 1) _ (scn_0 rfl)]
theorem Scr.hcnd (a : Scr s h h') {v f : Int} : cnd h' s v f = cnd h s v f := by
  unfold cnd
  rw [a.2.2.2 (4, s, 0) 2 (scn_0 rfl), a.2.2.2 (4, s, 0) 0 (scn_0 rfl), a.2.1]
theorem Scr.hctA0 (a : Scr s h h') {p : Nat} {u g0 g1 : Int} : ctA0 h' s p u g0 g1 = ctA0 h s p u g0 g1 := by
  unfold ctA0 cfro cTo
  rw [a.2.2.2 (5, p, 0) 0 (scn_1 rfl), a.2.2.2 (5, p, 0) 3 (scn_1 rfl), a.2.2.2 (6, p, 0) 0 (scn_1 rfl), a.2.2.2 (7, p, 0) 0 (scn_1 rfl)]
  simp only [a.hcdf, a.hckd]
theorem Scr.hctA1 (a : Scr s h h') {p : Nat} {u g0 : Int} : ctA1 h' p u g0 = ctA1 h p u g0 := by
  unfold ctA1
  rw [a.2.2.2 (5, p, 0) 0 (scn_1 rfl), a.2.2.2 (5, p, 0) 3 (scn_1 rfl)]
theorem Scr.hctl0 (a : Scr s h h') {p : Nat} {v u g0 g1 : Int} : ctl0 h' s p v u g0 g1 = ctl0 h s p v u g0 g1 := by
  unfold ctl0 cne
  rw [a.hctA0, a.2.2.2 (6, p, 0) 0 (scn_1 rfl), a.2.2.2 (7, p, 0) 0 (scn_1 rfl)]
  simp only [a.hcdf, a.hcnd]
theorem Scr.hctl1 (a : Scr s h h') {p : Nat} {v u g0 : Int} : ctl1 h' s p v u g0 = ctl1 h s p v u g0 := by
  unfold ctl1 cne
  rw [a.hctA1, a.2.2.2 (6, p, 0) 1 (scn_1 rfl), a.2.2.2 (7, p, 0) 1 (scn_1 rfl)]
  simp only [a.hcdf, a.hcnd]
end C9
