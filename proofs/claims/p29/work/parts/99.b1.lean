/-! ===== a move of a row, in the model: bounds ===== -/
section B1
variable {h g G : AH} {Z Y : ZT} {rl rz a : Nat} {u : Int}
/-- a field on a side, none over a rename -/
def zo (Z : ZT) (a : Nat) (u j : Int) : Int := if Z 7 a = 1 then -1 else zsd Z a u j
theorem zon0_n : zon Z (24 * 0 + (a : Int)) u 0 = zo Z a u 0 := by
  unfold zon zo zsd
  rw [ixp, zbe0_n, zfr0_n]; rfl
theorem zon1_n : zon Z (24 * 0 + (a : Int)) u 1 = zo Z a u 1 := by
  unfold zon zo zsd
  rw [ixp, zbe1_n, zfr1_n]; rfl
theorem zo_r (K : QS Z) (h1 : 1 ≤ a) (ha : (a : Int) ≤ Z 1 0) (u j : Int) (hj : j = 0 ∨ j = 1) : -1 ≤ zo Z a u j ∧ zo Z a u j < Z 2 0 := by
  obtain ⟨⟨q1, q2, q3, q4⟩, -⟩ := K.p h1 ha
  have b2 := K.b2
  unfold zo zsd
  rcases hj with rfl | rfl
  · show -1 ≤ (if _ then _ else if _ then Z 9 (2 * a) else Z 8 (2 * a)) ∧ (if _ then _ else if _ then Z 9 (2 * a) else Z 8 (2 * a)) < _
    (repeat' split) <;> omega
  · show -1 ≤ (if _ then _ else if _ then Z 9 (2 * a + 1) else Z 8 (2 * a + 1)) ∧ (if _ then _ else if _ then Z 9 (2 * a + 1) else Z 8 (2 * a + 1)) < _
    (repeat' split) <;> omega
theorem nnd_sb (K : QS Z) {v : Nat} {f x : Int} (hf : -1 ≤ f ∧ f < Z 2 0) (h1 : f = -1 → x = -1) (h2 : 0 ≤ f → x ≤ zmost (Z 3 f.toNat)) (h3 : -1 ≤ x) : sb Z f (nnd Z v f x) := by
  unfold nnd sb
  by_cases e : f = -1
  · rw [if_neg (fun z => z.2.1 e), if_pos e, h1 e]; omega
  · have := K.kd (f := f.toNat) (by omega)
    have := h2 (by omega)
    rw [if_neg e]
    split <;> omega
theorem ztur_m {v f t : Int} (hf : 0 ≤ f ∧ f ≤ 2) (ht : 0 ≤ t ∧ t ≤ 2) (hn : ¬ f = t) (hv : -1 ≤ v ∧ v ≤ zmost f) : ztur v f t ≤ zmost t := by
  have hb := zmost_b f
  have e : wr (10 * v) = 10 * v := wr_id ⟨by omega, by omega⟩
  unfold ztur bz zmost at *
  rw [e]
  by_cases e1 : v = -1
  · rw [if_pos (Or.inl e1), e1]; (repeat' split) <;> omega
  · have e2 : v.tdiv 10 = v / 10 := tdv (by omega)
    rw [e2]
    have f3 : f = 0 ∨ f = 1 ∨ f = 2 := by omega
    have t3 : t = 0 ∨ t = 1 ∨ t = 2 := by omega
    rcases f3 with rfl | rfl | rfl <;> rcases t3 with rfl | rfl | rfl <;> simp at hv hn ⊢ <;> (repeat' split) <;> omega
theorem tmod_le {x d : Int} (hx : 0 ≤ x) (hd : 0 < d) : x.tmod d ≤ x := by
  rw [tmd hx]
  by_cases c : x < d
  · rw [Int.emod_eq_of_lt hx c]; omega
  · have := Int.emod_lt_of_pos x hd; omega
theorem sb.m {f x : Int} (k : sb Z f x) (hf : 0 ≤ f) : x ≤ zmost (Z 3 f.toNat) := by
  have := k.2
  rw [if_neg (by omega)] at this
  exact this
set_option maxHeartbeats 4000000 in
/-- the ways keep the bounds -/
theorem sb_G (K : QS Z) (h1 : 1 ≤ a) (ha : (a : Int) ≤ Z 1 0) (hu : u = 0 ∨ u = 1) {x y : Int} (sx : sb Z (zo Z a u 0) x) (sy : sb Z (zo Z a u 1) y) : sb Z (zo Z a (nu u) 0) (zG0 Z u 0 (a : Int) x y) ∧ sb Z (zo Z a (nu u) 1) (zG1 Z u 0 (a : Int) x) := by
  have bx := sx.b
  have bY := sy.b
  have R0 := nr0_b K h1 ha bx bY (u := u)
  have R1 := nr1_b K h1 ha hu bx
  obtain ⟨⟨q1, q2, q3, q4⟩, s, -⟩ := K.p h1 ha
  have b2 := K.b2
  have w7 := (zw_b K h1 ha).1
  obtain ⟨x10, x3, x4⟩ := K.x h1 ha
  have r0 := zo_r K h1 ha (nu u) 0 (Or.inl rfl)
  have r1 := zo_r K h1 ha (nu u) 1 (Or.inr rfl)
  rw [zG0_n K h1 ha hu, zG1_n K h1 ha hu]
  unfold StK at s
  dsimp only at s
  by_cases hw1 : Z 7 a = 1
  · have e0 : zo Z a (nu u) 0 = -1 := by unfold zo; rw [if_pos hw1]
    have e1 : zo Z a (nu u) 1 = -1 := by unfold zo; rw [if_pos hw1]
    have z1 : zsd Z a (nu u) 1 = -1 := by
      unfold nu
      rcases hu with rfl | rfl
      · rw [if_pos rfl, zsd_11]; omega
      · rw [if_neg (by decide), zsd_01]; omega
    have n1 : nr1 Z a u x = -1 := by
      unfold nr1
      rw [if_neg]
      rintro ⟨c, -⟩
      split at c <;> omega
    rw [if_pos hw1, e0, e1, z1, n1]
    have : nnd Z (nve a u) (-1) (-1) = -1 := by unfold nnd; rw [if_neg (fun z => z.2.1 rfl)]
    rw [this]
    exact ⟨⟨by omega, by rw [if_pos rfl]; omega⟩, ⟨by omega, by rw [if_pos rfl]; omega⟩⟩
  · rw [if_neg hw1]
    have z0 : zo Z a (nu u) 0 = zsd Z a (nu u) 0 := by unfold zo; rw [if_neg hw1]
    have z1 : zo Z a (nu u) 1 = zsd Z a (nu u) 1 := by unfold zo; rw [if_neg hw1]
    have y0 : zo Z a u 0 = zsd Z a u 0 := by unfold zo; rw [if_neg hw1]
    have y1 : zo Z a u 1 = zsd Z a u 1 := by unfold zo; rw [if_neg hw1]
    rw [y0] at sx
    rw [y1] at sy
    rw [z0] at r0 ⊢
    rw [z1] at r1 ⊢
    have m0 : zmost 0 = 9999 := rfl
    have dv : ∀ d : Int, 1 ≤ d → 0 ≤ x → x.tdiv d ≤ x := fun d hd hx => Int.tdiv_le_self d hx
    have dm : ∀ d : Int, 1 ≤ d → 0 ≤ x → x.tmod d ≤ x := fun d hd hx => tmod_le hx (by omega)
    have h7 : Z 7 a = 0 ∨ Z 7 a = 2 ∨ Z 7 a = 3 ∨ Z 7 a = 4 ∨ Z 7 a = 5 ∨ Z 7 a = 6 := by omega
    rcases hu with rfl | rfl
    · rw [show nu (0 : Int) = 1 from rfl] at *
      rw [zsd_00] at sx
      rw [zsd_10] at r0 ⊢
      rw [zsd_11] at r1 ⊢
      rcases h7 with hw | hw | hw | hw | hw | hw
      · have n0 : nr0 Z a 0 x y = (-1) := by unfold nr0; rw [hw]; rfl
        have n1 : nr1 Z a 0 x = (if (0 : Int) = 4 ∧ ¬ x = -1 then x.tmod (Z 10 a) else -1) := by unfold nr1; rw [hw]; rfl
        refine ⟨nnd_sb K r0 (fun z => ?_) (fun z => ?_) R0, nnd_sb K r1 (fun z => ?_) (fun z => ?_) R1⟩
        · first | (exfalso; omega) | (rw [n0])
        · first | (exfalso; omega) | (rw [n0]; have := zmost_b (Z 3 (Z 8 (2 * a)).toNat); omega)
        · rw [n1]; first | (exfalso; omega) | (rw [if_neg (fun z => absurd z.1 (by decide))])
        · rw [n1, if_neg (fun z => absurd z.1 (by decide))]; have := zmost_b (Z 3 (Z 8 (2 * a + 1)).toNat); omega
      · have n0 : nr0 Z a 0 x y = (ztur x (zkof Z 0 (Z 9 (2 * a))) (zkof Z 0 (Z 8 (2 * a)))) := by unfold nr0; rw [hw]; rfl
        have n1 : nr1 Z a 0 x = (if (2 : Int) = 4 ∧ ¬ x = -1 then x.tmod (Z 10 a) else -1) := by unfold nr1; rw [hw]; rfl
        refine ⟨nnd_sb K r0 (fun z => ?_) (fun z => ?_) R0, nnd_sb K r1 (fun z => ?_) (fun z => ?_) R1⟩
        · first | (exfalso; omega) | (rw [n0])
        · rw [n0, zkof_n, zkof_n, if_neg (by omega), if_neg (by omega)]; have := sx.m (by omega); have k1 := K.kd (f := (Z 9 (2 * a)).toNat) (by omega); have k2 := K.kd (f := (Z 8 (2 * a)).toNat) (by omega); exact ztur_m k1.2 k2.2 (by omega) ⟨by omega, this⟩
        · rw [n1]; first | (exfalso; omega) | (rw [if_neg (fun z => absurd z.1 (by decide))])
        · rw [n1, if_neg (fun z => absurd z.1 (by decide))]; have := zmost_b (Z 3 (Z 8 (2 * a + 1)).toNat); omega
      · have n0 : nr0 Z a 0 x y = (zjoi x y (Z 10 a)) := by unfold nr0; rw [hw]; rfl
        have n1 : nr1 Z a 0 x = (if (3 : Int) = 4 ∧ ¬ x = -1 then x.tmod (Z 10 a) else -1) := by unfold nr1; rw [hw]; rfl
        have hd := x10 (by omega)
        have d1 := dv (Z 10 a) hd.1
        have d2 := dm (Z 10 a) hd.1
        have k3 := x3 hw
        refine ⟨nnd_sb K r0 (fun z => ?_) (fun z => ?_) R0, nnd_sb K r1 (fun z => ?_) (fun z => ?_) R1⟩
        · first | (exfalso; omega) | (rw [n0])
        · rw [n0, k3.1, m0]; exact (zjoi_b bx bY (by omega)).2
        · rw [n1]; first | (exfalso; omega) | (rw [if_neg (fun z => absurd z.1 (by decide))])
        · rw [n1, if_neg (fun z => absurd z.1 (by decide))]; have := zmost_b (Z 3 (Z 8 (2 * a + 1)).toNat); omega
      · have n0 : nr0 Z a 0 x y = (if x = -1 then -1 else x.tdiv (Z 10 a)) := by unfold nr0; rw [hw]; rfl
        have n1 : nr1 Z a 0 x = (if (4 : Int) = 4 ∧ ¬ x = -1 then x.tmod (Z 10 a) else -1) := by unfold nr1; rw [hw]; rfl
        have hd := x10 (by omega)
        have d1 := dv (Z 10 a) hd.1
        have d2 := dm (Z 10 a) hd.1
        have k3 := x4 hw
        refine ⟨nnd_sb K r0 (fun z => ?_) (fun z => ?_) R0, nnd_sb K r1 (fun z => ?_) (fun z => ?_) R1⟩
        · first | (exfalso; omega) | (rw [n0])
        · rw [n0, k3.1, m0]; split <;> omega
        · rw [n1]; first | (exfalso; omega) | (rw [if_neg (fun z => absurd z.1 (by decide))])
        · rw [n1, k3.2.1, m0]; split <;> omega
      · have n0 : nr0 Z a 0 x y = (-1) := by unfold nr0; rw [hw]; rfl
        have n1 : nr1 Z a 0 x = (if (5 : Int) = 4 ∧ ¬ x = -1 then x.tmod (Z 10 a) else -1) := by unfold nr1; rw [hw]; rfl
        refine ⟨nnd_sb K r0 (fun z => ?_) (fun z => ?_) R0, nnd_sb K r1 (fun z => ?_) (fun z => ?_) R1⟩
        · first | (exfalso; omega) | (rw [n0])
        · first | (exfalso; omega) | (rw [n0]; have := zmost_b (Z 3 (Z 8 (2 * a)).toNat); omega)
        · rw [n1]; first | (exfalso; omega) | (rw [if_neg (fun z => absurd z.1 (by decide))])
        · rw [n1, if_neg (fun z => absurd z.1 (by decide))]; have := zmost_b (Z 3 (Z 8 (2 * a + 1)).toNat); omega
      · have n0 : nr0 Z a 0 x y = (x) := by unfold nr0; rw [hw]; rfl
        have n1 : nr1 Z a 0 x = (if (6 : Int) = 4 ∧ ¬ x = -1 then x.tmod (Z 10 a) else -1) := by unfold nr1; rw [hw]; rfl
        refine ⟨nnd_sb K r0 (fun z => ?_) (fun z => ?_) R0, nnd_sb K r1 (fun z => ?_) (fun z => ?_) R1⟩
        · first | (exfalso; omega) | (rw [n0])
        · rw [n0]; have := sx.m (by omega); rw [show Z 8 (2 * a) = Z 9 (2 * a) by omega]; exact this
        · rw [n1]; first | (exfalso; omega) | (rw [if_neg (fun z => absurd z.1 (by decide))])
        · rw [n1, if_neg (fun z => absurd z.1 (by decide))]; have := zmost_b (Z 3 (Z 8 (2 * a + 1)).toNat); omega
    · rw [show nu (1 : Int) = 0 from rfl] at *
      rw [zsd_10] at sx
      rw [zsd_00] at r0 ⊢
      rw [zsd_01] at r1 ⊢
      rcases h7 with hw | hw | hw | hw | hw | hw
      · have n0 : nr0 Z a 1 x y = (Z 4 (Z 9 (2 * a)).toNat) := by unfold nr0; rw [hw]; rfl
        have n1 : nr1 Z a 1 x = (if (0 : Int) = 3 ∧ ¬ x = -1 then x.tmod (Z 10 a) else -1) := by unfold nr1; rw [hw]; rfl
        refine ⟨nnd_sb K r0 (fun z => ?_) (fun z => ?_) R0, nnd_sb K r1 (fun z => ?_) (fun z => ?_) R1⟩
        · first | (exfalso; omega) | (rw [n0])
        · rw [n0]; have := K.kd (f := (Z 9 (2 * a)).toNat) (by omega); omega
        · rw [n1]; first | (exfalso; omega) | (rw [if_neg (fun z => absurd z.1 (by decide))])
        · rw [n1, if_neg (fun z => absurd z.1 (by decide))]; have := zmost_b (Z 3 (Z 9 (2 * a + 1)).toNat); omega
      · have n0 : nr0 Z a 1 x y = (ztur x (zkof Z 0 (Z 8 (2 * a))) (zkof Z 0 (Z 9 (2 * a)))) := by unfold nr0; rw [hw]; rfl
        have n1 : nr1 Z a 1 x = (if (2 : Int) = 3 ∧ ¬ x = -1 then x.tmod (Z 10 a) else -1) := by unfold nr1; rw [hw]; rfl
        refine ⟨nnd_sb K r0 (fun z => ?_) (fun z => ?_) R0, nnd_sb K r1 (fun z => ?_) (fun z => ?_) R1⟩
        · first | (exfalso; omega) | (rw [n0])
        · rw [n0, zkof_n, zkof_n, if_neg (by omega), if_neg (by omega)]; have := sx.m (by omega); have k1 := K.kd (f := (Z 8 (2 * a)).toNat) (by omega); have k2 := K.kd (f := (Z 9 (2 * a)).toNat) (by omega); exact ztur_m k1.2 k2.2 (by omega) ⟨by omega, this⟩
        · rw [n1]; first | (exfalso; omega) | (rw [if_neg (fun z => absurd z.1 (by decide))])
        · rw [n1, if_neg (fun z => absurd z.1 (by decide))]; have := zmost_b (Z 3 (Z 9 (2 * a + 1)).toNat); omega
      · have n0 : nr0 Z a 1 x y = (if x = -1 then -1 else x.tdiv (Z 10 a)) := by unfold nr0; rw [hw]; rfl
        have n1 : nr1 Z a 1 x = (if (3 : Int) = 3 ∧ ¬ x = -1 then x.tmod (Z 10 a) else -1) := by unfold nr1; rw [hw]; rfl
        have hd := x10 (by omega)
        have d1 := dv (Z 10 a) hd.1
        have d2 := dm (Z 10 a) hd.1
        have k3 := x3 hw
        refine ⟨nnd_sb K r0 (fun z => ?_) (fun z => ?_) R0, nnd_sb K r1 (fun z => ?_) (fun z => ?_) R1⟩
        · first | (exfalso; omega) | (rw [n0])
        · rw [n0, k3.2.1, m0]; split <;> omega
        · rw [n1]; first | (exfalso; omega) | (rw [if_neg (fun z => absurd z.1 (by decide))])
        · rw [n1, k3.2.2, m0]; split <;> omega
      · have n0 : nr0 Z a 1 x y = (zjoi x y (Z 10 a)) := by unfold nr0; rw [hw]; rfl
        have n1 : nr1 Z a 1 x = (if (4 : Int) = 3 ∧ ¬ x = -1 then x.tmod (Z 10 a) else -1) := by unfold nr1; rw [hw]; rfl
        have hd := x10 (by omega)
        have d1 := dv (Z 10 a) hd.1
        have d2 := dm (Z 10 a) hd.1
        have k3 := x4 hw
        refine ⟨nnd_sb K r0 (fun z => ?_) (fun z => ?_) R0, nnd_sb K r1 (fun z => ?_) (fun z => ?_) R1⟩
        · first | (exfalso; omega) | (rw [n0])
        · rw [n0, k3.2.2, m0]; exact (zjoi_b bx bY (by omega)).2
        · rw [n1]; first | (exfalso; omega) | (rw [if_neg (fun z => absurd z.1 (by decide))])
        · rw [n1, if_neg (fun z => absurd z.1 (by decide))]; have := zmost_b (Z 3 (Z 9 (2 * a + 1)).toNat); omega
      · have n0 : nr0 Z a 1 x y = (-1) := by unfold nr0; rw [hw]; rfl
        have n1 : nr1 Z a 1 x = (if (5 : Int) = 3 ∧ ¬ x = -1 then x.tmod (Z 10 a) else -1) := by unfold nr1; rw [hw]; rfl
        refine ⟨nnd_sb K r0 (fun z => ?_) (fun z => ?_) R0, nnd_sb K r1 (fun z => ?_) (fun z => ?_) R1⟩
        · first | (exfalso; omega) | (rw [n0])
        · first | (exfalso; omega) | (rw [n0]; have := zmost_b (Z 3 (Z 9 (2 * a)).toNat); omega)
        · rw [n1]; first | (exfalso; omega) | (rw [if_neg (fun z => absurd z.1 (by decide))])
        · rw [n1, if_neg (fun z => absurd z.1 (by decide))]; have := zmost_b (Z 3 (Z 9 (2 * a + 1)).toNat); omega
      · have n0 : nr0 Z a 1 x y = (x) := by unfold nr0; rw [hw]; rfl
        have n1 : nr1 Z a 1 x = (if (6 : Int) = 3 ∧ ¬ x = -1 then x.tmod (Z 10 a) else -1) := by unfold nr1; rw [hw]; rfl
        refine ⟨nnd_sb K r0 (fun z => ?_) (fun z => ?_) R0, nnd_sb K r1 (fun z => ?_) (fun z => ?_) R1⟩
        · first | (exfalso; omega) | (rw [n0])
        · rw [n0]; have := sx.m (by omega); rw [show Z 9 (2 * a) = Z 8 (2 * a) by omega]; exact this
        · rw [n1]; first | (exfalso; omega) | (rw [if_neg (fun z => absurd z.1 (by decide))])
        · rw [n1, if_neg (fun z => absurd z.1 (by decide))]; have := zmost_b (Z 3 (Z 9 (2 * a + 1)).toNat); omega
end B1
