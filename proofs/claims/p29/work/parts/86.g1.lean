/-! ===== the relation: waiting drops looked at ===== -/
section G1
variable {Q : AH → AO → Prop} {h g G : AH} {Z Y : ZT} {s d c : Nat} {A : Nat → Nat}
theorem AW.less {M : MI} {fr lo mc ms bc bs bc' bs' pc : Nat} {loc : AL} {st : List AV} (h1 : bc' ≤ bc) (h2 : bs' ≤ bs) (k : AW M fr lo mc ms Q bc' bs' pc h loc st) : AW M fr lo mc ms Q bc bs pc h loc st := by
  intro p l e s m args below meth c D dA B0 H0 C dom0 al0 al H locs cells slots ls hR hA hS hc hs ho hv hl
  exact k p l e s m args below meth c D dA B0 H0 C dom0 al0 al H locs cells slots ls hR hA hS (by omega) (by omega) ho hv hl
theorem zs_self {j i : Nat} : zs Z j i (Z j i) = Z := by
  funext a b
  unfold zs
  split
  · next e => rw [e.1, e.2]
  · rfl
/-- the waiting list of s alone is touched -/
def wqI (s : Nat) (h g : AH) : Prop := hT g = hT h ∧ hL g = hL h ∧ hR g = hR h ∧ ∀ n i, ¬ ((n = (4, s, 0) ∧ i = 1) ∨ n = (4, s, 6)) → hI g n i = hI h n i
def wqZ (s : Nat) (Z Y : ZT) : Prop := (∀ j, ¬ j = 11 → ¬ j = 12 → Y j = Z j) ∧ ∀ s' : Nat, s' < 4 → ¬ s' = s → Y 11 s' = Z 11 s' ∧ ∀ i : Nat, i < 48 → Y 12 (48 * s' + i) = Z 12 (48 * s' + i)
theorem wqI.fr (w : wqI s h g) {P : Nm → Prop} (h0 : ¬ P (4, s, 0)) (h6 : ¬ P (4, s, 6)) : Fr P h g := fun n hn => by
  obtain ⟨w1, w2, w3, w4⟩ := w
  refine ⟨by rw [w1], fun i => w4 n i ?_, fun i => by rw [w2], fun i => by rw [w3]⟩
  rintro (⟨z, -⟩ | z)
  · exact h0 (z ▸ hn)
  · exact h6 (z ▸ hn)
theorem wqI.rf : wqI s h h := ⟨rfl, rfl, rfl, fun _ _ _ => rfl⟩
theorem wqI.tr (a : wqI s h g) (b : wqI s g G) : wqI s h G := ⟨b.1.trans a.1, b.2.1.trans a.2.1, b.2.2.1.trans a.2.2.1, fun n i z => (b.2.2.2 n i z).trans (a.2.2.2 n i z)⟩
theorem wqI.w1 {x : Int} : wqI s h (sI h (4, s, 0) 1 x) := ⟨rfl, rfl, rfl, fun n i z => by rw [hI_sI, if_neg (fun y => z (Or.inl y))]⟩
theorem wqI.w6 {x : Int} {i : Nat} : wqI s h (sI h (4, s, 6) i x) := ⟨rfl, rfl, rfl, fun n j z => by rw [hI_sI, if_neg (fun y => z (Or.inr y.1))]⟩
theorem wqZ.sv (w : wqZ s Z Y) : zSv Y Z := fun j hj => w.1 j (fun e => by subst e; exact absurd hj (by decide)) (fun e => by subst e; exact absurd hj (by decide))
theorem SV.wq (S : SV h Z s) (w : wqI s h g) : SV g Z s := by
  have F : Fr (fun n => ¬ n = (4, s, 0) ∧ ¬ n = (4, s, 6)) h g := w.fr (fun z => z.1 rfl) (fun z => z.2 rfl)
  obtain ⟨W, ⟨a1, a2⟩, b, c, d, st⟩ := S
  have i0 : ∀ i, ¬ i = 1 → hI g (4, s, 0) i = hI h (4, s, 0) i := fun i hi => w.2.2.2 _ i (fun z => z.elim (fun z => hi z.2) (fun z => by simp at z))
  have q4 : ∀ x : Nat, ¬ x = 0 → ¬ x = 6 → (¬ ((4, s, x) : Nm) = (4, s, 0) ∧ ¬ ((4, s, x) : Nm) = (4, s, 6)) := fun x h0 h6 => ⟨fun z => by simp at z; exact h0 z, fun z => by simp at z; exact h6 z⟩
  refine ⟨?_, ⟨?_, ?_⟩, ?_, ?_, ?_, ?_⟩
  · unfold SchW at *
    rw [w.1, w.2.2.1]; exact W
  · rw [i0 0 (by decide)]; exact a1
  · rw [i0 2 (by decide)]; exact a2
  · unfold SFd at b ⊢
    intro f hf
    rw [F.I (q4 1 (by decide) (by decide)), F.I (q4 2 (by decide) (by decide))]
    exact b f hf
  · unfold SNm at c ⊢
    intro v n h1 h2
    rw [F.I (q4 (100 + v) (by omega) (by omega))]
    exact c v n h1 h2
  · unfold SNd at d ⊢
    rw [w.2.1]; exact d
  · unfold SSt at st ⊢
    refine ⟨by rw [w.2.2.1]; exact st.1, ?_⟩
    intro v h1 h2
    obtain ⟨s1, s2⟩ := st.2 v h1 h2
    exact ⟨by rw [w.2.2.1]; exact s1, s2.f F ⟨fun z => by simp at z, fun z => by simp at z⟩ ⟨fun z => by simp at z, fun z => by simp at z⟩ ⟨fun z => by simp at z, fun z => by simp at z⟩⟩
theorem SIMq.wq {q : Nat} (S : SIMq A q h Z c) (hq : q = 9 ∨ q = s) (w : wqI s h g) (wz : wqZ s Z Y) (hb : (s : Int) < Z 0 0 → 0 ≤ hI g (4, s, 0) 1 ∧ hI g (4, s, 0) 1 ≤ 46) : SIMq A s g Y c := by
  have zz := S.zz
  have F : Fr (fun n => ¬ n = (4, s, 0) ∧ ¬ n = (4, s, 6)) h g := w.fr (fun z => z.1 rfl) (fun z => z.2 rfl)
  have n0 : ∀ x y z : Nat, ¬ x = 4 → (¬ ((x, y, z) : Nm) = (4, s, 0) ∧ ¬ ((x, y, z) : Nm) = (4, s, 6)) := fun x y z hx => ⟨fun e => hx (congrArg (fun n : Nm => n.1) e), fun e => hx (congrArg (fun n : Nm => n.1) e)⟩
  obtain ⟨⟨t1, t2, t3, t4, t6, t5⟩, ⟨f1, f2, f3, f4, f5, f6⟩, sc, ff, rr, mm, kk⟩ := S
  have o : ∀ j, ¬ j = 11 → ¬ j = 12 → Y j = Z j := wz.1
  refine ⟨⟨t1.f F (fun j => n0 _ _ _ (by decide)), t2.f F (fun j => n0 _ _ _ (by decide)), ?_, t4.f F (fun j => n0 _ _ _ (by decide)), ?_, ?_⟩, ⟨?_, ?_, ?_, ?_, ?_, ?_⟩, ?_, ?_, ?_, ?_, ?_⟩
  · rw [F.I (n0 _ _ _ (by decide)), F.I (n0 _ _ _ (by decide)), F.I (n0 _ _ _ (by decide)), F.I (n0 _ _ _ (by decide)), F.I (n0 _ _ _ (by decide)), o 0 (by decide) (by decide), o 13 (by decide) (by decide), o 19 (by decide) (by decide), o 28 (by decide) (by decide), o 32 (by decide) (by decide)]; exact t3
  · intro s' h1
    rw [o 0 (by decide) (by decide)] at h1
    by_cases z : s' = s
    · subst z; exact hb h1
    · rw [F.I (n := (4, s', 0)) ⟨fun y => z (by simpa using y), fun y => by simp at y⟩]; exact t6 s' h1
  · rw [o 27 (by decide) (by decide), o 32 (by decide) (by decide)]; exact t5
  · rw [w.1, o 0 (by decide) (by decide)]; exact f1
  · rw [w.1, o 0 (by decide) (by decide), o 1 (by decide) (by decide)]; exact f2
  · rw [w.1, o 13 (by decide) (by decide)]; exact f3
  · rw [w.1, o 19 (by decide) (by decide)]; exact f4
  · rw [w.1, o 28 (by decide) (by decide)]; exact f5
  · rw [w.1, o 32 (by decide) (by decide)]; exact f6
  · intro s' h1
    rw [o 0 (by decide) (by decide)] at h1
    obtain ⟨k1, k2, k3⟩ := sc s' h1
    refine ⟨?_, k2.c wz.sv, fun z => ?_⟩
    · by_cases z : s' = s
      · subst z; exact (k1.wq w).z wz.sv
      · have q4 : ∀ x : Nat, (¬ ((4, s', x) : Nm) = (4, s, 0) ∧ ¬ ((4, s', x) : Nm) = (4, s, 6)) := fun x => ⟨fun e => z (congrArg (fun n : Nm => n.2.1) e), fun e => z (congrArg (fun n : Nm => n.2.1) e)⟩
        exact (k1.fr3 k2.b1.2 F (fun x _ => q4 x) (fun v _ => ⟨n0 _ _ _ (by decide), n0 _ _ _ (by decide), n0 _ _ _ (by decide)⟩)).z wz.sv
    · have q4 : ∀ x : Nat, (¬ ((4, s', x) : Nm) = (4, s, 0) ∧ ¬ ((4, s', x) : Nm) = (4, s, 6)) := fun x => ⟨fun e => z (congrArg (fun n : Nm => n.2.1) e), fun e => z (congrArg (fun n : Nm => n.2.1) e)⟩
      have w2 := wz.2 s' (by omega) z
      exact (k3 (by omega)).f F (q4 _) (q4 _) wz.sv w2.1 w2.2
  · intro k h1
    rw [o 13 (by decide) (by decide)] at h1
    refine (ff k h1).f F (n0 _ _ _ (by decide)) (fun j hj => o j (fun e => by subst e; exact absurd hj (by decide)) (fun e => by subst e; exact absurd hj (by decide))) (by rw [o 0 (by decide) (by decide)]; exact Int.le_refl _) (by rw [o 2 (by decide) (by decide)]; exact Int.le_refl _)
  · intro r h1
    rw [o 19 (by decide) (by decide)] at h1
    have rk := rr r h1
    refine rk.f F (n0 _ _ _ (by decide)) (fun _ => n0 _ _ _ (by decide)) (fun _ _ => n0 _ _ _ (by decide)) (fun j hj => o j (fun e => by subst e; exact absurd hj (by decide)) (fun e => by subst e; exact absurd hj (by decide))) (by rw [o 0 (by decide) (by decide)]; exact Int.le_refl _) wz.sv.sc (fun R => ?_)
    exact R.zc (by rw [o 1 (by decide) (by decide)]) (o 5 (by decide) (by decide)) (o 7 (by decide) (by decide)) (by rw [o 21 (by decide) (by decide)]) (fun _ _ => by rw [o 22 (by decide) (by decide)]) (by rw [o 23 (by decide) (by decide)]) (fun _ _ => by rw [o 24 (by decide) (by decide)]) (fun _ _ => by rw [o 25 (by decide) (by decide)])
  · intro m h1
    rw [o 28 (by decide) (by decide)] at h1
    exact (mm m h1).f F (n0 _ _ _ (by decide)) (fun j hj => o j (fun e => by subst e; exact absurd hj (by decide)) (fun e => by subst e; exact absurd hj (by decide))) (by rw [o 0 (by decide) (by decide)]; exact Int.le_refl _) (by rw [o 32 (by decide) (by decide)]; exact Int.le_refl _)
  · intro k h1
    rw [o 32 (by decide) (by decide)] at h1
    exact (kk k h1).f F (n0 _ _ _ (by decide)) (fun _ _ => n0 _ _ _ (by decide)) (fun j hj => o j (fun e => by subst e; exact absurd hj (by decide)) (fun e => by subst e; exact absurd hj (by decide))) (by rw [o 19 (by decide) (by decide)]; exact Int.le_refl _) wz.sv.sc
theorem SIMq.fin (S : SIMq A s h Z c) (k : (s : Int) < Z 0 0 → SQ h Z s) : SIMq A 9 h Z c := by
  obtain ⟨t, f, sc, r⟩ := S
  refine ⟨t, f, fun s' h1 => ⟨(sc s' h1).1, (sc s' h1).2.1, fun _ => ?_⟩, r⟩
  by_cases z : s' = s
  · subst z; exact k h1
  · exact (sc s' h1).2.2 z
/-! what is held up stays so behind a drop of what is not -/
theorem zhuA_ex {f : Int} : ∀ k : Nat, ¬ zhuA Z s f k = 0 ↔ ∃ i : Nat, i < k ∧ Z 14 i = s ∧ Z 16 i = 0 ∧ ¬ zTo Z (i : Int) 0 f.toNat = 0
  | 0 => ⟨fun z => absurd rfl z, fun ⟨i, hi, _⟩ => absurd hi (by omega)⟩
  | k + 1 => by
    have ih := zhuA_ex (f := f) k
    unfold zhuA
    by_cases c : Z 14 k = s ∧ Z 16 k = 0
    · rw [if_pos c, bz_n0, ih]
      constructor
      · rintro (⟨i, hi, z⟩ | z)
        · exact ⟨i, by omega, z⟩
        · exact ⟨k, by omega, c.1, c.2, z⟩
      · rintro ⟨i, hi, z⟩
        by_cases e : i = k
        · subst e; exact Or.inr z.2.2
        · exact Or.inl ⟨i, by omega, z⟩
    · rw [if_neg c, ih]
      constructor
      · rintro ⟨i, hi, z⟩
        exact ⟨i, by omega, z⟩
      · rintro ⟨i, hi, z⟩
        by_cases e : i = k
        · subst e; exact absurd ⟨z.1, z.2.1⟩ c
        · exact ⟨i, by omega, z⟩
theorem zfo_cg {v : Nat} {t : Nat → Int} (e : stC Y Z s) : ∀ m : Nat, (v : Int) + (m : Int) ≤ Z 1 s → zfo Y s v t m = zfo Z s v t m
  | 0, _ => rfl
  | m + 1, hm => by
    obtain ⟨e7, e8⟩ := e.2 (v + 1 + m) (by omega) (by omega)
    have j0 := e8 0 (by omega)
    have j1 := e8 1 (by omega)
    rw [Nat.add_zero] at j0
    unfold zfo
    rw [zfo_cg e m (by omega), show (24 * (s : Int) + ((v : Int) + 1 + (m : Int))) = ((24 * s + (v + 1 + m) : Nat) : Int) by omega]
    unfold zfs
    rw [Int.toNat_natCast, show (2 * ((24 * s + (v + 1 + m) : Nat) : Int)).toNat = 2 * (24 * s + (v + 1 + m)) by omega, show (2 * ((24 * s + (v + 1 + m) : Nat) : Int) + 1).toNat = 2 * (24 * s + (v + 1 + m)) + 1 by omega, e7, j0.1, j0.2, j1.1, j1.2]
theorem drop_hu {F : Int} {n2 : Int} {M D : Nat → Int} (G : BG Z) (hd : (d : Int) = Z 1 s + 1) (hd2 : d < 24) (V : VS Z Y s d 5 F (-1) (-1) (-1) 0 n2 M D) (hF : 0 ≤ F ∧ F < 48) (h0 : zhu Z s F = 0) : ∀ f : Nat, ¬ zhu Y s f = 0 ↔ ¬ zhu Z s f = 0 := by
  have stc := V.sc hd hd2
  obtain ⟨⟨v1, -⟩, -, -, -, -, ⟨p7, -, p8, p8', p9, p9'⟩, -, vo⟩ := V
  have o : ∀ j, inV j = false → Y j = Z j := vo
  intro f
  unfold zhu at *
  rw [o 13 rfl, zhuA_ex, zhuA_ex]
  have h1 : ∀ i : Nat, i < (Z 13 0).toNat → Z 14 i = s → Z 16 i = 0 → (¬ zTo Y (i : Int) 0 (f : Int).toNat = 0 ↔ ¬ zTo Z (i : Int) 0 (f : Int).toNat = 0) := by
    intro i hi e14 e16
    have G1 := G.1
    have Gi := G.2 i (by omega)
    have hZF : zTo Z (i : Int) 0 F.toNat = 0 := Classical.byContradiction (fun z => (zhuA_ex _).mpr ⟨i, hi, e14, e16, z⟩ h0)
    have eY : zTo Y (i : Int) 0 = zfs Y (24 * s + d : Nat) (zTo Z (i : Int) 0) := by
      unfold zTo
      rw [Int.toNat_natCast, o 14 rfl, o 15 rfl, e14, Int.toNat_natCast, v1]
      rw [e14, Int.toNat_natCast] at Gi
      have et : zTo0 Y (i : Int) 0 = zTo0 Z (i : Int) 0 := by unfold zTo0; rw [o 17 rfl, o 18 rfl]
      rw [et]
      obtain ⟨v, hv⟩ := Int.eq_ofNat_of_zero_le Gi.2.2.1
      rw [hv]
      rw [show ((d : Int) - (v : Int)).toNat = (Z 1 s - (v : Int)).toNat + 1 by omega]
      show zfs Y _ (zfo Y s v _ (Z 1 s - (v : Int)).toNat) = _
      rw [zfo_cg stc _ (by omega), show (24 * (s : Int) + ((v : Int) + 1 + (((Z 1 s - (v : Int)).toNat : Nat) : Int))) = ((24 * s + d : Nat) : Int) by omega]
    rw [eY, Int.toNat_natCast, zfs_f ⟨by omega, by omega, by omega, by omega⟩ (by omega), p8, p8', p9, p9']
    constructor
    · rintro (⟨-, z | z⟩ | z)
      · omega
      · omega
      · exact z.2.2
    · intro z
      refine Or.inr ⟨fun e => z ?_, by omega, z⟩
      rw [show f = F.toNat by omega]; exact hZF
  constructor
  · rintro ⟨i, hi, e14, e16, z⟩
    rw [o 14 rfl] at e14
    rw [o 16 rfl] at e16
    exact ⟨i, hi, e14, e16, (h1 i hi e14 e16).mp z⟩
  · rintro ⟨i, hi, e14, e16, z⟩
    exact ⟨i, hi, by rw [o 14 rfl]; exact e14, by rw [o 16 rfl]; exact e16, (h1 i hi e14 e16).mpr z⟩
end G1
