/-! ===== the relation: the face: form ===== -/
section J1
variable {Q : AH → AO → Prop} {h g G : AH} {Z Y X : ZT} {c q s a b r x : Nat} {A : Nat → Nat}
def zFor (Z : ZT) (s : Int) : ZT := zs (zs (zs (zs Z 48 0 0) 14 (Z 13 0).toNat s) 15 (Z 13 0).toNat (Z 1 s.toNat)) 13 0 (Z 13 0 + 1)
/-- the heap behind a form made -/
def cFo (h : AH) (m s : Nat) : AH := sI (sR (sI (sI (sR (aN h (8, m, 0) 1 0) (8, m, 0) 0 (some (4, s, 0))) (8, m, 0) 1 (hI h (4, s, 0) 0)) (8, m, 0) 2 1) (3, 2, 0) m (some (8, m, 0))) (3, 0, 0) 7 ((m : Int) + 1)
set_option maxHeartbeats 1000000 in
theorem X_for {m s : Nat} (S : SIMq A 9 h Z c) (N : NZ Z) (em : Z 13 0 = (m : Int)) (hm : m < 8) (hs : (s : Int) < Z 0 0) : SIMq A 9 (cFo h m s) (zFor Z s) c ∧ Fr nMo h (cFo h m s) := by
  have zz := S.zz
  have nz := N.2.1 m hm (by omega)
  have yo : ∀ j, ¬ (j == 13 || j == 14 || j == 15 || j == 48) = true → zFor Z s j = Z j := fun j hj => by
    simp only [Bool.or_eq_true, beq_iff_eq, not_or] at hj
    obtain ⟨⟨⟨h13, h14⟩, h15⟩, h48⟩ := hj
    unfold zFor; rw [zs_oj (beq_ne h13), zs_oj (beq_ne h15), zs_oj (beq_ne h14), zs_oj (beq_ne h48)]
  have y13 : zFor Z s 13 0 = (m : Int) + 1 := by unfold zFor; rw [zs_eq rfl rfl, em]
  have y14 : ∀ x, zFor Z s 14 x = if x = m then (s : Int) else Z 14 x := fun x => by
    unfold zFor
    rw [em, Int.toNat_natCast, Int.toNat_natCast]
    refine zs_ne rfl (zs_ne rfl ?_)
    by_cases z : x = m
    · rw [if_pos z, zs_eq z rfl]
    · rw [if_neg z, zs_miss z (zs_ne rfl rfl)]
  have y15 : ∀ x, zFor Z s 15 x = if x = m then Z 1 s else Z 15 x := fun x => by
    unfold zFor
    rw [em, Int.toNat_natCast, Int.toNat_natCast]
    refine zs_ne rfl ?_
    by_cases z : x = m
    · rw [if_pos z, zs_eq z rfl]
    · rw [if_neg z, zs_miss z (zs_ne rfl (zs_ne rfl rfl))]
  generalize zFor Z s = Y at *
  have ya : ∀ {j}, (j == 13 || j == 14 || j == 15 || j == 48) = false → Y j = Z j := fun e => yo _ (by rw [e]; decide)
  have F : Fr (fun n => ¬ n = (8, m, 0) ∧ ¬ n = (3, 2, 0) ∧ ¬ n = (3, 0, 0)) h (cFo h m s) := by
    unfold cFo
    exact ((((((Fr.rf.nw (fun z => z.1 rfl)).wR (fun z => z.1 rfl)).wI (fun z => z.1 rfl)).wI (fun z => z.1 rfl)).wR (fun z => z.2.1 rfl)).wI (fun z => z.2.2 rfl))
  have Fe : Fr (nEx Z) h (cFo h m s) := F.mo (fun n z => by
    refine ⟨fun w => ?_, fun w => ?_, fun w => ?_⟩
    · rw [w] at z; unfold nEx at z; simp at z; omega
    · rw [w] at z; unfold nEx at z; simp at z
    · rw [w] at z; unfold nEx at z; simp at z)
  have oj : ∀ {p : Nat → Bool}, (∀ j, (j == 13 || j == 14 || j == 15 || j == 48) = true → p j = false) → ∀ j, p j = true → Y j = Z j := fun hp j hj => yo j (fun e => by have := hp j e; rw [hj] at this; cases this)
  have dd : ∀ {p : Nat → Bool}, p 13 = false → p 14 = false → p 15 = false → p 48 = false → ∀ j, (j == 13 || j == 14 || j == 15 || j == 48) = true → p j = false := fun h1 h2 h3 h4 j hj => by
    simp only [Bool.or_eq_true, beq_iff_eq] at hj
    rcases hj with ((h | h) | h) | h <;> subst h <;> assumption
  obtain ⟨e1, e2, e3, e4, e5⟩ := S.ext (Y := Y) Fe (oj (dd rfl rfl rfl rfl))
    (fun k hk => ⟨by rw [y14, if_neg (by omega)], by rw [y15, if_neg (by omega)], by rw [ya (j := 16) rfl], fun f _ => ⟨by rw [ya (j := 17) rfl], by rw [ya (j := 18) rfl]⟩⟩)
    (fun x _ => ⟨by rw [ya (j := 20) rfl], by rw [ya (j := 26) rfl], zRw.fn (oj (dd rfl rfl rfl rfl))⟩)
    (by rw [ya (j := 27) rfl]; exact Int.le_refl _) (by rw [ya (j := 19) rfl]; exact Int.le_refl _) (fun x hx => ⟨by rw [ya (j := 29) rfl], by rw [ya (j := 30) rfl], by rw [ya (j := 31) rfl]⟩)
  have i0 : ∀ j, ¬ j = 7 → hI (cFo h m s) (3, 0, 0) j = hI h (3, 0, 0) j := fun j hj => by
    unfold cFo
    rw [hI_m hj rfl, hI_sR, hI_n1 rfl (hI_n1 rfl rfl), hI_sR, hI_aN, if_neg (by simp)]
  have i9 : hI (cFo h m s) (3, 0, 0) 7 = (m : Int) + 1 := hI_e rfl rfl
  have rO : ∀ x i, ¬ x = 2 → hR (cFo h m s) (3, x, 0) i = hR h (3, x, 0) i := fun x i hx => by
    unfold cFo
    simp [hR_sI, hR_sR, hR_aN, hx]
  have r4 : ∀ i, hR (cFo h m s) (3, 2, 0) i = if i = m then some (8, m, 0) else hR h (3, 2, 0) i := fun i => by
    unfold cFo
    simp [hR_sI, hR_sR, hR_aN]
  have tO : ∀ n, ¬ n = (8, m, 0) → hT (cFo h m s) n = hT h n := fun n hn => by
    unfold cFo
    simp [hT_sI, hT_sR, hT_aN, hn]
  have sv := S.2.2.1 s hs
  have gm : FF (cFo h m s) Y m := by
    unfold FF ForW
    rw [y14, y15, ya (j := 16) rfl, ya (j := 17) rfl, ya (j := 18) rfl, ya (j := 0) rfl, ya (j := 2) rfl, if_pos rfl, if_pos rfl, Int.toNat_natCast, nz.1]
    have b3 : hL (cFo h m s) (8, m, 0) 3 = 0 := by unfold cFo; simp [hL_sI, hL_sR, hL_aN]
    have b4 : hL (cFo h m s) (8, m, 0) 4 = 0 := by unfold cFo; simp [hL_sI, hL_sR, hL_aN]
    rw [b3, b4]
    refine ⟨⟨?_, ?_⟩, ⟨by omega, hs⟩, ⟨?_, ?_⟩, fun f hf => ⟨⟨fun z => absurd z bt_0, fun z => absurd (nz.2 f z.1) z.2⟩, ⟨fun z => absurd z bt_0, fun z => absurd (nz.2 f z.1) z.2.1⟩⟩, fun f hf z => absurd (nz.2 f hf) z, fun z => absurd rfl z⟩
    · unfold cFo; simp [hT_sI, hT_sR, hT_aN]
    · unfold cFo; simp [hR_sI, hR_sR]
    · rw [← sv.1.hd]; unfold cFo; simp [hI_sI, hI_sR]
    · unfold cFo; simp [hI_sI, hI_sR, bz]
  obtain ⟨⟨t1, t2, t3, t4, t6, t5⟩, ⟨f1, f2, f3, f4, f5, f6⟩, -⟩ := S
  refine ⟨⟨⟨?_, ?_, ?_, t4.f F (fun j => ⟨by simp, by simp, by simp⟩), ?_, ?_⟩, ⟨?_, ?_, ?_, ?_, ?_, ?_⟩, ?_, ?_, ?_, ?_, ?_⟩, F.mo (fun n z => by
    refine ⟨fun w => ?_, fun w => ?_, fun w => ?_⟩ <;> (rw [w] at z; rcases z with z | z <;> simp at z))⟩
  · unfold FmW at *
    rw [tO _ (by simp), tO _ (by simp), tO _ (by simp), tO _ (by simp), tO _ (by simp), tO _ (by simp), rO 0 0 (by decide), rO 0 1 (by decide), rO 0 2 (by decide), rO 0 3 (by decide), rO 0 4 (by decide), rO 0 5 (by decide)]
    exact t1
  · exact ⟨fc.keep (L := 4) t2.1 (i0 _ (by decide)) (fun i => rO _ i (by decide)), fc.inc (L := 8) t2.2.1 (t3.2.1.trans em) (by omega) i9 r4, fc.keep (L := 20) t2.2.2.1 (i0 _ (by decide)) (fun i => rO _ i (by decide)), fc.keep (L := 8) t2.2.2.2.1 (i0 _ (by decide)) (fun i => rO _ i (by decide)), fc.keep (L := 512) t2.2.2.2.2 (i0 _ (by decide)) (fun i => rO _ i (by decide))⟩
  · rw [i0 6 (by decide), i9, i0 8 (by decide), i0 9 (by decide), i0 10 (by decide), y13, ya (j := 0) rfl, ya (j := 19) rfl, ya (j := 28) rfl, ya (j := 32) rfl]
    exact ⟨t3.1, rfl, t3.2.2⟩
  · intro s' h1
    rw [ya (j := 0) rfl] at h1
    rw [Fe.I (n := (4, s', 0)) (Or.inl rfl)]; exact t6 s' h1
  · rw [ya (j := 27) rfl, ya (j := 32) rfl]; exact t5
  · intro s' i h1 h2
    rw [ya (j := 0) rfl] at h2
    rw [tO _ (by simp)]; exact f1 s' i h1 h2
  · intro s' v h1 h3 h2
    rw [ya (j := 0) rfl, ya (j := 1) rfl] at h2
    rw [tO _ (by simp), tO _ (by simp), tO _ (by simp)]; exact f2 s' v h1 h3 h2
  · intro k h1
    rw [y13] at h1
    rw [tO _ (by simp; omega)]; exact f3 k (by omega)
  · intro r h1
    rw [ya (j := 19) rfl] at h1
    rw [tO _ (by simp)]
    exact ⟨(f4 r h1).1, fun i => by rw [tO _ (by simp)]; exact (f4 r h1).2 i⟩
  · intro x h1
    rw [ya (j := 28) rfl] at h1
    rw [tO _ (by simp)]; exact f5 x h1
  · intro k h1
    rw [ya (j := 32) rfl] at h1
    rw [tO _ (by simp)]
    exact ⟨(f6 k h1).1, fun i => by rw [tO _ (by simp)]; exact (f6 k h1).2 i⟩
  · rw [ya (j := 0) rfl]; exact e1
  · intro k h1
    rw [y13] at h1
    by_cases z : k = m
    · subst z; exact gm
    · exact e2 k (by omega)
  · rw [ya (j := 19) rfl]; exact e3
  · rw [ya (j := 28) rfl]; exact e4
  · rw [ya (j := 32) rfl]; exact e5
end J1
