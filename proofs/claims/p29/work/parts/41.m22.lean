/-! ===== the model: text ===== -/
section M22
variable {Q : AH → AO → Prop} {h : AH} {Z : ZT}
def swAll (P : Nat → Nat → Prop) : Nat → List Nat → Prop
  | _, [] => True
  | j, t :: ts => P j t ∧ swAll P (j + 1) ts
theorem swAll_get {P : Nat → Nat → Prop} : ∀ (ts : List Nat) (j0 j t : Nat), swAll P j0 ts → ts[j]? = some t → P (j0 + j) t
  | [], _, _, _, _, e => by simp at e
  | a :: ts, j0, 0, t, k, e => by
    simp at e; subst e; exact k.1
  | a :: ts, j0, j + 1, t, k, e => by
    have := swAll_get ts (j0 + 1) j t k.2 (by simpa using e)
    rw [show j0 + (j + 1) = j0 + 1 + j by omega]; exact this
theorem AW.tsw {M : MI} {fr lo mc ms bc bs pc : Nat} {Q : AH → AO → Prop} {h : AH} {loc : AL} {st : List AV} {x dflt lo9 hi9 : Int} {offs : Array Int} {len : Nat} (ts : List Nat) {td : Nat} (hd : decode M.2.1 pc = .ok (.tableswitch dflt lo9 hi9 offs, len)) (hts : (offs.toList == ts.map (fun t : Nat => (t : Int) - (pc : Int))) = true)
    (htd : Nat.beq (pc + dflt.toNat) (td + (-dflt).toNat) = true) (hlen : (hi9 - lo9 + 1 == (offs.size : Int)) = true) (kin : swAll (fun j tgt => x = lo9 + (j : Int) → AW M fr lo mc ms Q bc bs tgt h loc st) 0 ts) (kout : (x < lo9 ∨ hi9 < x) → AW M fr lo mc ms Q bc bs td h loc st) : AW M fr lo mc ms Q bc bs pc h loc (vi x :: st) := by
  have e := eq_of_beq hts
  refine AW.tswitch hd ?_ htd kout hlen ?_
  · intro j o tgt ho hx _ ht
    rw [← Array.getElem?_toList, e, List.getElem?_map] at ho
    cases q : ts[j]? with
    | none => rw [q] at ho; simp at ho
    | some t =>
      rw [q] at ho
      simp at ho
      have := swAll_get ts 0 j t kin q
      rw [Nat.zero_add] at this
      rw [show tgt = t by omega]
      exact this hx
  · rw [e, List.all_map]
    refine List.all_eq_true.mpr (fun t _ => ?_)
    simp only [Function.comp, decide_eq_true_eq]
    omega
theorem AW.rng {M : MI} {fr lo mc ms bc bs pc : Nat} {Q : AH → AO → Prop} {h : AH} {loc : AL} {st : List AV} {x : Int} (k : inR x → AW M fr lo mc ms Q bc bs pc h loc (vi x :: st)) : AW M fr lo mc ms Q bc bs pc h loc (vi x :: st) := by
  intro p l e s m args below meth c D dA B0 H0 C dom0 al0 al H locs cells slots ls hR hA hS hc hs ho hv hl
  exact k hv.hd p l e s m args below meth c D dA B0 H0 C dom0 al0 al H locs cells slots ls hR hA hS hc hs ho hv hl
def zl0 (i : Int) : Int := (if i = 0 then 97 else if i < 3 then 100 else 32)
def zl1 (i : Int) : Int := (if i = 0 then 114 else if i = 1 then 101 else if i = 5 then 101 else if i = 2 then 110 else if i = 3 then 97 else if i = 4 then 109 else 32)
def zl2 (i : Int) : Int := (if i = 0 then 116 else if i = 1 then 117 else if i = 2 then 114 else if i = 3 then 110 else 32)
def zl3 (i : Int) : Int := (if i = 0 then 115 else if i = 1 then 112 else if i = 2 then 108 else if i = 3 then 105 else if i = 4 then 116 else 32)
def zl4 (i : Int) : Int := (if i = 0 then 106 else if i = 1 then 111 else if i = 2 then 105 else if i = 3 then 110 else 32)
def zl5 (i : Int) : Int := (if i = 0 then 100 else if i = 1 then 114 else if i = 2 then 111 else if i = 3 then 112 else 32)
def zl6 (i : Int) : Int := (if i = 0 then 110 else if i = 1 then 101 else if i = 2 then 101 else if i = 3 then 100 else 32)
def zlet (w i : Int) : Int := if w = 0 then zl0 i else if w = 1 then zl1 i else if w = 2 then zl2 i else if w = 3 then zl3 i else if w = 4 then zl4 i else if w = 5 then zl5 i else zl6 i
theorem zlet_0 {w i : Int} (e : w = 0) : zlet w i = zl0 i := by unfold zlet; rw [if_pos e]
theorem zlet_1 {w i : Int} (e : w = 1) : zlet w i = zl1 i := by unfold zlet; rw [if_neg (by omega), if_pos e]
theorem zlet_2 {w i : Int} (e : w = 2) : zlet w i = zl2 i := by unfold zlet; rw [if_neg (by omega), if_neg (by omega), if_pos e]
theorem zlet_3 {w i : Int} (e : w = 3) : zlet w i = zl3 i := by unfold zlet; rw [if_neg (by omega), if_neg (by omega), if_neg (by omega), if_pos e]
theorem zlet_4 {w i : Int} (e : w = 4) : zlet w i = zl4 i := by unfold zlet; rw [if_neg (by omega), if_neg (by omega), if_neg (by omega), if_neg (by omega), if_pos e]
theorem zlet_5 {w i : Int} (e : w = 5) : zlet w i = zl5 i := by unfold zlet; rw [if_neg (by omega), if_neg (by omega), if_neg (by omega), if_neg (by omega), if_neg (by omega), if_pos e]
theorem zlet_6 {w i : Int} (e : w < 0 ∨ 5 < w) : zlet w i = zl6 i := by unfold zlet; rw [if_neg (by omega), if_neg (by omega), if_neg (by omega), if_neg (by omega), if_neg (by omega), if_neg (by omega)]
def zlen (w : Int) : Int := if w = 0 then 3 else if w = 1 then 6 else if w = 3 then 5 else 4
/-- how many fields a step has in front, and behind -/
def zfn (Z : ZT) (p : Int) : Int := (if zfr Z p 0 = -1 then 0 else 1) + (if zfr Z p 1 = -1 then 0 else 1)
def zbn (Z : ZT) (p : Int) : Int := (if zbe Z p 0 = -1 then 0 else 1) + (if zbe Z p 1 = -1 then 0 else 1)
def zsg2 (Z : ZT) (s a p d : Int) : Int :=
  if d < 0 then 62
  else if d < 2 * zbn Z p then (if d.tmod 2 = 0 then 32 else 97 + Z 5 (48 * (24 * s + a) + zbe Z p (d.tdiv 2)).toNat)
  else 0
def zsg1 (Z : ZT) (s a p d : Int) : Int :=
  if d < 2 * zfn Z p then (if d.tmod 2 = 0 then 32 else 97 + Z 5 (48 * (24 * s + (a - 1)) + zfr Z p (d.tdiv 2)).toNat)
  else zsg2 Z s a p (d - (2 * zfn Z p + 1))
def zsgn (Z : ZT) (s a i : Int) : Int :=
  if i < 0 then 0 else if i - zlen (Z 7 (24 * s + a).toNat) < 0 then zlet (Z 7 (24 * s + a).toNat) i
  else zsg1 Z s a (24 * s + a) (i - zlen (Z 7 (24 * s + a).toNat))
theorem zlen_rng {w : Int} : 3 ≤ zlen w ∧ zlen w ≤ 6 := by unfold zlen; (repeat' split) <;> omega
/-- names lie in -1 to 25 -/
def BN (Z : ZT) : Prop := ∀ i, -1 ≤ Z 5 i ∧ Z 5 i ≤ 25
/-- a step's second field is there only where its first is -/
def stF (Z : ZT) (p : Int) : Prop := (zfr Z p 0 = -1 → zfr Z p 1 = -1) ∧ (zbe Z p 0 = -1 → zbe Z p 1 = -1)
theorem zfr_ix {p d : Int} (hd : 0 ≤ d) (s : stF Z p) (h2 : ¬ d.tmod 2 = 0) (hl : d < 2 * zfn Z p) : (d.tdiv 2 = 0 ∨ d.tdiv 2 = 1) ∧ ¬ zfr Z p (d.tdiv 2) = -1 := by
  rw [Int.tdiv_eq_ediv_of_nonneg hd]
  rw [Int.tmod_eq_emod_of_nonneg hd] at h2
  have s1 := s.1
  have hn : zfn Z p ≤ 2 := by unfold zfn; (repeat' split) <;> omega
  have hc : d / 2 = 0 ∨ d / 2 = 1 := by omega
  refine ⟨hc, ?_⟩
  unfold zfn at hl
  rcases hc with e | e <;> rw [e] <;> intro q
  · rw [if_pos q, if_pos (s1 q)] at hl; omega
  · rw [if_pos q] at hl; (split at hl) <;> omega
theorem zbe_ix {p d : Int} (hd : 0 ≤ d) (s : stF Z p) (h2 : ¬ d.tmod 2 = 0) (hl : d < 2 * zbn Z p) : (d.tdiv 2 = 0 ∨ d.tdiv 2 = 1) ∧ ¬ zbe Z p (d.tdiv 2) = -1 := by
  rw [Int.tdiv_eq_ediv_of_nonneg hd]
  rw [Int.tmod_eq_emod_of_nonneg hd] at h2
  have s1 := s.2
  have hn : zbn Z p ≤ 2 := by unfold zbn; (repeat' split) <;> omega
  have hc : d / 2 = 0 ∨ d / 2 = 1 := by omega
  refine ⟨hc, ?_⟩
  unfold zbn at hl
  rcases hc with e | e <;> rw [e] <;> intro q
  · rw [if_pos q, if_pos (s1 q)] at hl; omega
  · rw [if_pos q] at hl; (split at hl) <;> omega
theorem zfn_rng {p : Int} : 0 ≤ zfn Z p ∧ zfn Z p ≤ 2 := by unfold zfn; (repeat' split) <;> omega
theorem zbn_rng {p : Int} : 0 ≤ zbn Z p ∧ zbn Z p ≤ 2 := by unfold zbn; (repeat' split) <;> omega
end M22
