/-! ===== the model: split, join ===== -/
section M4
variable {Q : AH → AO → Prop} {h : AH} {Z : ZT}
def zcSpl (Z : ZT) (s n o1 o2 d : Int) : Int := cd3 (zatH Z s n = -1) (¬ ((0 ≤ o1 ∧ o1 ≤ 25) ∧ (0 ≤ o2 ∧ o2 ≤ 25) ∧ ¬ o1 = o2 ∧ 2 ≤ d ∧ d ≤ 100)) (zfre Z s (zatH Z s n) = 0 ∨ (zatH Z s o1 ≠ -1 ∧ zatH Z s o1 ≠ zatH Z s n) ∨ (zatH Z s o2 ≠ -1 ∧ zatH Z s o2 ≠ zatH Z s n))
def zSpl (Z : ZT) (s n o1 o2 d : Int) : ZT :=
  let a := Z 1 s.toNat + 1
  let f := zatH Z s n
  let nf := Z 2 s.toNat
  let p := 24 * s + a
  let v := Z 4 (48 * s + f).toNat
  let nd := Z 6 (48 * (24 * s + Z 1 s.toNat) + f).toNat
  zs (zmak (zs (zmak (zs (zs (zs (zbeg (zs Z 48 0 0) s a nf 3) 5 (48 * (24 * s + a) + f).toNat (-1)) 10 p.toNat d) 8 (2 * p).toNat f) s a nf o1 0 (v.tdiv d) nd) 9 (2 * p).toNat nf) s a (nf + 1) o2 0 (v.tmod d) nd) 9 (2 * p + 1).toNat (nf + 1)
def zcJoi (Z : ZT) (s o1 o2 n d : Int) : Int := cd3 (zatH Z s o1 = -1 ∨ zatH Z s o2 = -1) (¬ ((0 ≤ n ∧ n ≤ 25) ∧ (2 ≤ d ∧ d ≤ 100) ∧ ¬ zatH Z s o1 = zatH Z s o2)) (zfre Z s (zatH Z s o1) = 0 ∨ zfre Z s (zatH Z s o2) = 0 ∨ ((zatH Z s n ≠ -1 ∧ zatH Z s n ≠ zatH Z s o1) ∧ (zatH Z s n ≠ -1 ∧ zatH Z s n ≠ zatH Z s o2)))
def zJoi (Z : ZT) (s o1 o2 n d : Int) : ZT :=
  let a := Z 1 s.toNat + 1
  let f := zatH Z s o1
  let g := zatH Z s o2
  let nf := Z 2 s.toNat
  let p := 24 * s + a
  let nd := bz (¬ Z 6 (48 * (24 * s + Z 1 s.toNat) + f).toNat = 0 ∨ ¬ Z 6 (48 * (24 * s + Z 1 s.toNat) + g).toNat = 0)
  zs (zmak (zs (zs (zs (zs (zs (zbeg (zs Z 48 0 0) s a nf 4) 5 (48 * (24 * s + a) + f).toNat (-1)) 5 (48 * (24 * s + a) + g).toNat (-1)) 10 p.toNat d) 8 (2 * p).toNat f) 8 (2 * p + 1).toNat g) s a nf n 0 (zjoi (Z 4 (48 * s + f).toNat) (Z 4 (48 * s + g).toNat) d) nd) 9 (2 * p).toNat nf
end M4
