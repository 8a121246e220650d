/-! ===== the relation: a mover's last move; a move's cells made; the model's notes ===== -/
section K3
variable {Q : AH → AO → Prop} {h g H G : AH} {Z Y X : ZT} {c q s a b r x m v k : Nat} {A : Nat → Nat}
theorem sI_comm {n n' : Nm} {i j : Nat} {y z : Int} (hn : ¬ n = n') : sI (sI h n i y) n' j z = sI (sI h n' j z) n i y := by
  unfold sI
  refine Prod.ext rfl (Prod.ext (funext fun p => funext fun e => ?_) rfl)
  dsimp only
  by_cases e1 : p = n' ∧ e = j
  · rw [if_pos e1, if_neg (fun w => hn (w.1.symm.trans e1.1)), if_pos e1]
  · rw [if_neg e1, if_neg e1]
theorem Fr.sI2 {P : Nm → Prop} {n : Nm} {i : Nat} {y : Int} (F : Fr P h g) : Fr P (sI h n i y) (sI g n i y) := fun p hp => by
  obtain ⟨f1, f2, f3, f4⟩ := F p hp
  refine ⟨f1, fun j => ?_, f3, f4⟩
  rw [hI_sI, hI_sI]
  split
  · rfl
  · exact f2 j
/-- a mover's last move told anew -/
theorem X_mvl {l : Int} (S : SIMq A 9 h Z c) (hm : (m : Int) < Z 28 0) (hl : -1 ≤ l ∧ l < Z 32 0) (o : ∀ j, ¬ j = 31 → Y j = Z j) (y31 : ∀ x, Y 31 x = if x = m then l else Z 31 x) : SIMq A 9 (sI h (10, m, 0) 2 l) Y c := by
  have F : Fr (fun n => ¬ n.1 = 10) h (sI h (10, m, 0) 2 l) := Fr.rf.wI (fun z => z rfl)
  have Fe : Fr (fun n => ¬ n = (10, m, 0)) h (sI h (10, m, 0) 2 l) := Fr.rf.wI (fun z => z rfl)
  have sv : zSv Y Z := fun j hj => o j (fun e => by subst e; exact absurd hj (by decide))
  obtain ⟨⟨t1, t2, t3, t4, t6, t5⟩, ⟨f1, f2, f3, f4, f5, f6⟩, sc, ff, rr, mm, kk⟩ := S
  have on : ∀ {p : Nat → Bool}, p 31 = false → ∀ j, p j = true → Y j = Z j := fun hp j hj => o j (fun e => by subst e; rw [hp] at hj; cases hj)
  refine ⟨⟨t1.f F (fun j => by simp), t2.f F (fun j => by simp), ?_, t4.f F (fun j => by simp), ?_, ?_⟩, ⟨?_, ?_, ?_, ?_, ?_, ?_⟩, ?_, ?_, ?_, ?_, ?_⟩
  · rw [F.I (by simp), F.I (by simp), F.I (by simp), F.I (by simp), F.I (by simp), o 0 (by decide), o 13 (by decide), o 19 (by decide), o 28 (by decide), o 32 (by decide)]; exact t3
  · intro s' h1
    rw [o 0 (by decide)] at h1
    rw [F.I (by simp)]; exact t6 s' h1
  · rw [o 27 (by decide), o 32 (by decide)]; exact t5
  · rw [o 0 (by decide)]; exact f1
  · rw [o 0 (by decide), o 1 (by decide)]; exact f2
  · rw [o 13 (by decide)]; exact f3
  · rw [o 19 (by decide)]; exact f4
  · rw [o 28 (by decide)]; exact f5
  · rw [o 32 (by decide)]; exact f6
  · intro s' h1
    rw [o 0 (by decide)] at h1
    obtain ⟨k1, k2, k3⟩ := sc s' h1
    exact ⟨(k1.fr3 k2.b1.2 F (fun _ _ => by simp) (fun v _ => ⟨by simp, by simp, by simp⟩)).z sv, k2.c sv, fun z => (k3 z).f F (by simp) (by simp) sv (by rw [o 11 (by decide)]) (fun i _ => by rw [o 12 (by decide)])⟩
  · intro x h1
    rw [o 13 (by decide)] at h1
    exact (ff x h1).f F (by simp) (on rfl) (by rw [o 0 (by decide)]; exact Int.le_refl _) (by rw [o 2 (by decide)]; exact Int.le_refl _)
  · intro x h1
    rw [o 19 (by decide)] at h1
    exact (rr x h1).f F (by simp) (by simp) (by simp) (on rfl) (by rw [o 0 (by decide)]; exact Int.le_refl _) sv.sc (fun R => R.zc (by rw [o 1 (by decide)]) (o 5 (by decide)) (o 7 (by decide)) (by rw [o 21 (by decide)]) (fun _ _ => by rw [o 22 (by decide)]) (by rw [o 23 (by decide)]) (fun _ _ => by rw [o 24 (by decide)]) (fun _ _ => by rw [o 25 (by decide)]))
  · intro x h1
    rw [o 28 (by decide)] at h1
    obtain ⟨m1, m2, m3, m4, m5⟩ := mm x h1
    unfold MM MvrW at *
    rw [o 29 (by decide), o 30 (by decide), o 0 (by decide), o 32 (by decide), y31]
    by_cases z : x = m
    · subst z
      rw [if_pos rfl]
      exact ⟨m1, m2, (hI_m (by decide) rfl).trans m3, hI_e rfl rfl, hl⟩
    · rw [if_neg z, Fe.I (by simp [z]), Fe.I (by simp [z])]
      exact ⟨m1, m2, m3, m4, m5⟩
  · intro x h1
    rw [o 32 (by decide)] at h1
    exact (kk x h1).f F (by simp) (by simp) (on rfl) (by rw [o 19 (by decide)]; exact Int.le_refl _) sv.sc
theorem kX1_n {x y z : Int} (n11 : hT h (11, m, 0) = none) (n14 : ∀ i, hT h (14, m, i) = none) (k : ∀ g, Fr (fun n => ¬ (n.1 = 11 ∧ n.2.1 = m) ∧ ¬ (n.1 = 14 ∧ n.2.1 = m)) h g → MovW g m → hI g (11, m, 0) 0 = x → hI g (11, m, 0) 1 = y → hI g (11, m, 0) 2 = z → Q g (.inl none)) :
    AC mX1_init fX1_init loX1_init 4 195 (aN h (11, m, 0) 2 0) [vr (11, m, 0), vi x, vi y, vi z] Q := by
  have ne : ∀ j, ¬ ((14, m, j) : Nm) = (11, m, 0) := fun j => by simp
  refine kX1_init hT_new (hT_old (ne 0) (n14 0)) (hT_old (ne 1) (n14 1)) (hT_old (ne 2) (n14 2)) (hT_old (ne 3) (n14 3)) (k _ ?_ ?_ ?_ ?_ ?_)
  · refine Fr.wR (Fr.fl ?_ (fun z => z.2 ⟨rfl, rfl⟩)) (fun z => z.1 ⟨rfl, rfl⟩)
    unfold cst3 cst2 cst1 cmv0
    exact ((((((((((Fr.rf.nw (fun z => z.1 ⟨rfl, rfl⟩)).wI (fun z => z.1 ⟨rfl, rfl⟩)).wI (fun z => z.1 ⟨rfl, rfl⟩)).wI (fun z => z.1 ⟨rfl, rfl⟩)).nw (fun z => z.2 ⟨rfl, rfl⟩)).nw (fun z => z.2 ⟨rfl, rfl⟩)).wR (fun z => z.2 ⟨rfl, rfl⟩)).nw (fun z => z.2 ⟨rfl, rfl⟩)).wR (fun z => z.2 ⟨rfl, rfl⟩)).nw (fun z => z.2 ⟨rfl, rfl⟩)).wR (fun z => z.2 ⟨rfl, rfl⟩)
  · refine ⟨?_, ?_, ?_⟩
    · rw [hT_sR, hT_cst]; unfold cst3 cst2 cst1 cmv0; simp [hT_aN, hT_sR, hT_sI]
    · rw [hR_sR, if_pos ⟨rfl, rfl⟩]
    · have W : StaW (cst (aN (cmv0 (aN h (11, m, 0) 2 0) m x y z) (14, m, 0) 6 0) 14 m) 14 m := cst_S hT_new
      exact W.f (P := fun n => ¬ n = (11, m, 0)) (Fr.rf.wR (fun z => z rfl)) (fun j => by simp)
  · rw [hI_sR]; unfold cst cst3 cst2 cst1 cmv0; simp [hI_hfl, hI_aN, hI_sR, hI_sI]
  · rw [hI_sR]; unfold cst cst3 cst2 cst1 cmv0; simp [hI_hfl, hI_aN, hI_sR, hI_sI]
  · rw [hI_sR]; unfold cst cst3 cst2 cst1 cmv0; simp [hI_hfl, hI_aN, hI_sR, hI_sI]
/-- what step notes -/
theorem zStp_o {r m : Int} {j : Nat} (hj : (j != 33 && j != 34 && j != 35 && j != 36 && j != 37 && j != 38 && j != 39 && j != 40 && j != 41 && j != 42 && j != 48 && j != 31 && j != 32 && j != 26 && j != 27) = true) : zStp Z r m j = zmv (zStp2 Z r (24 * Z 20 r.toNat + zstA' Z r m) (24 * r + zstA' Z r m) m) r (Z 20 r.toNat) (zstA' Z r m) (bz (Z 21 r.toNat < Z 30 m.toNat)) j := by
  simp only [Bool.and_eq_true, bne_iff_ne, ne_eq] at hj
  obtain ⟨⟨⟨⟨⟨⟨⟨⟨⟨⟨⟨⟨⟨⟨a33, a34⟩, a35⟩, a36⟩, a37⟩, a38⟩, a39⟩, a40⟩, a41⟩, a42⟩, a48⟩, a31⟩, a32⟩, a26⟩, a27⟩ := hj
  unfold zStp
  rw [zs_oj (beq_ne a32), zs_oj (beq_ne a31), zs_oj (beq_ne a35)]
  unfold zStp3 zcnt
  rw [zs_oj (beq_ne a26), zs_oj (beq_ne a27)]
end K3
