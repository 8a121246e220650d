/-! reads with an equation -/
section READS
variable {M : MI} {fr lo mc ms bc bs pc : Nat} {Q : AH → AO → Prop} {h : AH} {loc : AL} {st : List AV} {Z : ZT}
theorem zs_ne {j i j' i' : Nat} {v x : Int} (hj : Nat.beq j' j = false) (k : Z j' i' = x) : zs Z j i v j' i' = x := by
  unfold zs
  rw [if_neg, k]
  rintro ⟨e, -⟩
  subst e
  simp at hj
theorem zs_eq {j i i' : Nat} {v x : Int} (hi : i' = i) (k : v = x) : zs Z j i v j i' = x := by
  unfold zs
  rw [if_pos ⟨rfl, hi⟩, k]
theorem zs_miss {j i i' : Nat} {v x : Int} (hi : i' ≠ i) (k : Z j i' = x) : zs Z j i v j i' = x := by
  unfold zs
  rw [if_neg (fun e => hi e.2), k]
theorem AW.mldE {i x : Int} {j : Nat} (W : WfM h) (hd : decode M.2.1 pc = .ok (.iaload, 1)) (hj : (Nat.blt j 49 && !isSc j) = true) (hm : mkd j = 20) (hb : 0 ≤ i ∧ i < (mlen j : Int)) (hx : Z j i.toNat = x)
    (k : AW M fr lo mc ms Q bc bs (pc + 1) (mput h Z) loc (vi x :: st)) : AW M fr lo mc ms Q bc bs pc (mput h Z) loc (vi i :: vr (2, j, 0) :: st) := AW.mld W hd hj hm hb (by rw [hx]; exact k)
theorem AW.mldZE {i x : Int} {j : Nat} (W : WfM h) (hd : decode M.2.1 pc = .ok (.baload, 1)) (hj : (Nat.blt j 49 && !isSc j) = true) (hm : mkd j = 21) (hb : 0 ≤ i ∧ i < (mlen j : Int)) (hx : Z j i.toNat = x)
    (k : AW M fr lo mc ms Q bc bs (pc + 1) (mput h Z) loc (vi x :: st)) : AW M fr lo mc ms Q bc bs pc (mput h Z) loc (vi i :: vr (2, j, 0) :: st) := AW.mldZ W hd hj hm hb (by rw [hx]; exact k)
theorem AW.mZ {Z' : ZT} (e : Z = Z') (k : AW M fr lo mc ms Q bc bs pc (mput h Z') loc st) : AW M fr lo mc ms Q bc bs pc (mput h Z) loc st := by subst e; exact k
theorem AW.top {x y : Int} (e : x = y) (k : AW M fr lo mc ms Q bc bs pc h loc (vi y :: st)) : AW M fr lo mc ms Q bc bs pc h loc (vi x :: st) := by subst e; exact k
theorem finZ {Z' : ZT} {x y : Int} (k : Q (mput h Z) (.inl (some (vi x)))) (hh : Z' = Z) (hx : y = x) : Q (mput h Z') (.inl (some (vi y))) := by subst hh; subst hx; exact k
theorem finZ0 {Z' : ZT} (k : Q (mput h Z) (.inl none)) (hh : Z' = Z) : Q (mput h Z') (.inl none) := by subst hh; exact k
end READS
