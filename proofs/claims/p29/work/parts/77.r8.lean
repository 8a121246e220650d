/-! ===== the class's heap with a version more ===== -/
section R8
variable {h g G : AH} {Z Y : ZT} {s d : Nat} {w a b c e fc n2 : Int} {N : Nat → Int} {L : Int64}
def CG (G g : AH) (s d : Nat) (w a b c e fc : Int) (N : Nat → Int) (L : Int64) : Prop :=
  hI g (4, s, 0) 0 = (d : Int) ∧ (∀ i, ¬ i = 0 → hI g (4, s, 0) i = hI G (4, s, 0) i) ∧ (∀ x i, ¬ x = 0 → x < 7 → hI g (4, s, x) i = hI G (4, s, x) i)
  ∧ (∀ v : Nat, ¬ v = d → (∀ j, hI g (4, s, 100 + v) j = hI G (4, s, 100 + v) j) ∧ hL g (4, s, 4) v = hL G (4, s, 4) v ∧ hR g (4, s, 5) v = hR G (4, s, 5) v)
  ∧ ((∀ j : Nat, j < 26 → hI g (4, s, 100 + d) j = N j) ∧ hL g (4, s, 4) d = L ∧ hR g (4, s, 5) d = some (5, 24 * s + d, 0))
  ∧ (StpW g (24 * s + d) ∧ hI g (5, 24 * s + d, 0) 0 = w ∧ hI g (5, 24 * s + d, 0) 3 = fc ∧ hI g (6, 24 * s + d, 0) 0 = a ∧ hI g (6, 24 * s + d, 0) 1 = b ∧ hI g (7, 24 * s + d, 0) 0 = c ∧ hI g (7, 24 * s + d, 0) 1 = e)
  ∧ SchW g s ∧ Fr (nVs s d) G g
/-- a new version before fields are placed -/
def cE (G : AH) (s d : Nat) (w a b c e fc : Int) : AH := cex (cns G (24 * s + d) w a b c e fc) s (24 * s + d)
theorem cex_W {p : Nat} (W : SchW h s) : SchW (cex h s p) s := by
  have r : ∀ (x i : Nat), ¬ x = 5 → hR (cex h s p) (4, s, x) i = hR h (4, s, x) i := fun x i hx => by
    show hR (sR _ _ _ _) (4, s, x) i = _
    rw [hR_sR, if_neg]
    · rfl
    · rintro ⟨z, -⟩; simp at z; exact hx z
  unfold SchW at *
  rw [r 0 3 (by decide), r 0 4 (by decide), r 0 5 (by decide), r 0 6 (by decide), r 0 7 (by decide), r 0 8 (by decide), r 0 9 (by decide), r 0 10 (by decide), r 0 11 (by decide), r 0 12 (by decide)]
  refine ⟨W.1, W.2.1, fun v hv => ?_⟩
  rw [r 3 v (by decide)]
  exact W.2.2 v hv
theorem cpl_W {f n nd : Int} (W : SchW h s) : SchW (cpl h s f n nd) s := W
theorem CG.base (W : SchW G s) (hd : hI G (4, s, 0) 0 = (d : Int) - 1) (h1 : 1 ≤ d) :
    CG G (cE G s d w a b c e fc) s d w a b c e fc (fun j => if hI G (4, s, 100 + (d - 1)) j = a ∨ hI G (4, s, 100 + (d - 1)) j = b then -1 else hI G (4, s, 100 + (d - 1)) j) (hL G (4, s, 4) (d - 1) &&& (ctg a b ^^^ (-1))) := by
  have t : ∀ n : Nm, n.1 = 4 → ∀ i, hI (cns G (24 * s + d) w a b c e fc) n i = hI G n i := fun n z i => cns_I (by rw [z]; rfl) (by rw [z]; rfl) (by rw [z]; rfl)
  have tl : ∀ n i, hL (cns G (24 * s + d) w a b c e fc) (4, s, n) i = hL G (4, s, n) i := fun n i => by
    unfold cns cs2 cs1
    simp [hL_aN, hL_sI, hL_sR]
  have tr : ∀ n : Nm, n.1 = 4 → ∀ i, hR (cns G (24 * s + d) w a b c e fc) n i = hR G n i := fun n z i => cns_R (by rw [z]; rfl) (by rw [z]; rfl) (by rw [z]; rfl)
  have eh : hI (cns G (24 * s + d) w a b c e fc) (4, s, 0) 0 = (d : Int) - 1 := by rw [t _ rfl]; exact hd
  have c6 := cns_6 (h := G) (p := 24 * s + d) (kd := w) (a := a) (b := b) (c := c) (d := e) (fc := fc)
  have c7 := cns_7 (h := G) (p := 24 * s + d) (kd := w) (a := a) (b := b) (c := c) (d := e) (fc := fc)
  have c5 := cns_5 (h := G) (p := 24 * s + d) (kd := w) (a := a) (b := b) (c := c) (d := e) (fc := fc)
  have cP := cns_P (h := G) (p := 24 * s + d) (kd := w) (a := a) (b := b) (c := c) (d := e) (fc := fc)
  have hdn : ((d : Int) - 1 + 1).toNat = d := by omega
  have hdp : ((d : Int) - 1).toNat = d - 1 := by omega
  have F0 : Fr (fun n => ¬ (n.1 = 4 ∧ n.2.1 = s)) (cns G (24 * s + d) w a b c e fc) (cE G s d w a b c e fc) := by
    unfold cE cex
    exact (((Fr.rf.fl (fun z => z ⟨rfl, rfl⟩)).wL (fun z => z ⟨rfl, rfl⟩)).wR (fun z => z ⟨rfl, rfl⟩)).wI (fun z => z ⟨rfl, rfl⟩)
  have F1 : Fr (nVs s d) G (cns G (24 * s + d) w a b c e fc) := by
    have n5 : ¬ nVs s d (5, 24 * s + d, 0) := fun z => z.2 ⟨Or.inl rfl, rfl, rfl⟩
    have n6 : ¬ nVs s d (6, 24 * s + d, 0) := fun z => z.2 ⟨Or.inr (Or.inl rfl), rfl, rfl⟩
    have n7 : ¬ nVs s d (7, 24 * s + d, 0) := fun z => z.2 ⟨Or.inr (Or.inr rfl), rfl, rfl⟩
    unfold cns cs2 cs1
    exact (((((((((((Fr.rf.nw n5).wI n5).nw n6).wI n6).wI n6).wR n5).nw n7).wI n7).wI n7).wR n5).wI n5)
  have o5 : ∀ x, ¬ (x = 4) → (fun n : Nm => ¬ (n.1 = 4 ∧ n.2.1 = s)) (x, 24 * s + d, 0) := fun x hx z => hx z.1
  refine ⟨?_, ?_, ?_, ?_, ⟨?_, ?_, ?_⟩, ⟨?_, ?_, ?_, ?_, ?_, ?_, ?_⟩, cex_W (cns_S W), F1.tr (F0.mo (fun n z => z.1))⟩
  · unfold cE cex
    rw [hI_e rfl rfl, eh]; omega
  · intro i hi
    unfold cE cex
    rw [hI_m hi rfl, hI_sR, hI_sL, hfl_n3 (beq_ne (by show ¬ 0 = 100 + _; omega)) rfl, t _ rfl]
  · intro x i hx hx7
    unfold cE cex
    rw [hI_n3 (beq_ne (by show ¬ x = 0; exact hx)) rfl, hI_sR, hI_sL, hfl_n3 (beq_ne (by show ¬ x = 100 + _; omega)) rfl, t _ rfl]
  · intro v hv
    refine ⟨fun j => ?_, ?_, ?_⟩
    · unfold cE cex
      rw [eh, hdn, hI_n3 (beq_ne (by show ¬ 100 + v = 0; omega)) rfl, hI_sR, hI_sL, hfl_n3 (beq_ne (by show ¬ 100 + v = 100 + d; omega)) rfl, t _ rfl]
    · unfold cE cex
      rw [eh, hdn, hL_sI, hL_sR, hL_m hv rfl]
      exact tl 4 v
    · unfold cE cex
      rw [eh, hdn, hR_sI, hR_sR, if_neg (fun z => hv z.2), hR_sL]
      exact tr _ rfl v
  · intro j hj
    unfold cE cex
    rw [eh, hdn, hI_n3 (beq_ne (by show ¬ 100 + d = 0; omega)) rfl, hI_sR, hI_sL, hI_hfl, if_pos ⟨rfl, hj⟩]
    unfold cxf
    rw [eh, hdp, c6.1, c6.2, t _ rfl]
  · unfold cE cex
    rw [eh, hdn, hdp, hL_sI, hL_sR, hL_e rfl rfl]
    unfold cff
    rw [c6.1, c6.2, tl]
  · unfold cE cex
    rw [eh, hdn, hR_sI, hR_sR, if_pos ⟨rfl, rfl⟩]
  · unfold StpW at *
    rw [F0.T (o5 5 (by decide)), F0.T (o5 6 (by decide)), F0.T (o5 7 (by decide)), F0.R (o5 5 (by decide)), F0.R (o5 5 (by decide))]
    exact cP
  · rw [F0.I (o5 5 (by decide))]; exact c5.1
  · rw [F0.I (o5 5 (by decide))]; exact c5.2
  · rw [F0.I (o5 6 (by decide))]; exact c6.1
  · rw [F0.I (o5 6 (by decide))]; exact c6.2
  · rw [F0.I (o5 7 (by decide))]; exact c7.1
  · rw [F0.I (o5 7 (by decide))]; exact c7.2
/-- a field placed in the new version -/
theorem CG.pla {f n nd : Int} (C : CG G g s d w a b c e fc N L) (hn : 0 ≤ n ∧ n ≤ 25) : CG G (cpl g s f n nd) s d w a b c e fc (fun j => if j = n.toNat then f else N j) (L ||| (if nd = 0 then 0 else bitI f)) := by
  obtain ⟨c1, c2, c3, c4, ⟨c5, c6, c7⟩, c8, c9, c10⟩ := C
  have hdn : (hI g (4, s, 0) 0).toNat = d := by rw [c1]; omega
  have F0 : Fr (fun n => ¬ (n.1 = 4 ∧ n.2.1 = s)) g (cpl g s f n nd) := by
    unfold cpl
    exact (Fr.rf.wI (fun z => z ⟨rfl, rfl⟩)).wL (fun z => z ⟨rfl, rfl⟩)
  have o5 : ∀ x, ¬ (x = 4) → (fun n : Nm => ¬ (n.1 = 4 ∧ n.2.1 = s)) (x, 24 * s + d, 0) := fun x hx z => hx z.1
  have e0 : ∀ x i, x < 100 → hI (cpl g s f n nd) (4, s, x) i = hI g (4, s, x) i := fun x i hx => by
    unfold cpl
    rw [hI_sL, hI_n3 (beq_ne (by show ¬ x = 100 + _; omega)) rfl]
  refine ⟨by rw [e0 _ _ (by omega)]; exact c1, fun i hi => by rw [e0 _ _ (by omega)]; exact c2 i hi, fun x i h1 h2 => by rw [e0 _ _ (by omega)]; exact c3 x i h1 h2, ?_, ⟨?_, ?_, ?_⟩, ?_, cpl_W c9, c10.tr (F0.mo (fun n z => z.1))⟩
  · intro v hv
    obtain ⟨k1, k2, k3⟩ := c4 v hv
    refine ⟨fun j => ?_, ?_, k3⟩
    · unfold cpl
      rw [hdn, hI_sL, hI_n3 (beq_ne (by show ¬ 100 + v = 100 + d; omega)) rfl]
      exact k1 j
    · unfold cpl
      rw [hdn, hL_m hv rfl]
      exact k2
  · intro j hj
    unfold cpl
    rw [hdn, hI_sL, hI_sI]
    dsimp only
    by_cases q : j = n.toNat
    · rw [if_pos ⟨rfl, q⟩, if_pos q]
    · rw [if_neg (fun z => q z.2), if_neg q]
      exact c5 j hj
  · unfold cpl
    rw [hdn, hL_e rfl rfl, c6]
  · exact c7
  · unfold StpW at *
    rw [F0.T (o5 5 (by decide)), F0.T (o5 6 (by decide)), F0.T (o5 7 (by decide)), F0.R (o5 5 (by decide)), F0.R (o5 5 (by decide)), F0.I (o5 5 (by decide)), F0.I (o5 5 (by decide)), F0.I (o5 6 (by decide)), F0.I (o5 6 (by decide)), F0.I (o5 7 (by decide)), F0.I (o5 7 (by decide))]
    exact c8
/-- the heap with new fields, not yet placed -/
def GS (h G : AH) (s : Nat) (n2 : Int) : Prop := hI G (4, s, 0) 0 = hI h (4, s, 0) 0 ∧ hI G (4, s, 0) 1 = hI h (4, s, 0) 1 ∧ hI G (4, s, 0) 2 = n2
  ∧ (∀ f : Nat, (f : Int) < hI h (4, s, 0) 2 → hI G (4, s, 1) f = hI h (4, s, 1) f ∧ hI G (4, s, 2) f = hI h (4, s, 2) f) ∧ SchW G s ∧ Fr (fun n => ¬ (n.1 = 4 ∧ n.2.1 = s ∧ n.2.2 ≤ 2)) h G
theorem GS.rf (W : SchW h s) : GS h h s (hI h (4, s, 0) 2) := ⟨rfl, rfl, rfl, fun _ _ => ⟨rfl, rfl⟩, W, Fr.rf⟩
theorem GS.mf {kd v : Int} (C : GS h G s n2) (hn : hI h (4, s, 0) 2 ≤ n2) (h0 : 0 ≤ n2) : GS h (cmf G s kd v) s (n2 + 1) := by
  obtain ⟨c1, c2, c3, c4, c5, c6⟩ := C
  unfold cmf
  rw [c3]
  refine ⟨?_, ?_, ?_, ?_, c5, ?_⟩
  · rw [hI_m (by decide) (hI_n3 rfl (hI_n3 rfl rfl))]; exact c1
  · rw [hI_m (by decide) (hI_n3 rfl (hI_n3 rfl rfl))]; exact c2
  · rw [hI_e rfl rfl]
  · intro f hf
    rw [hI_n3 (n := (4, s, 1)) rfl (hI_n3 rfl (hI_m (by omega) rfl)), hI_n3 (n := (4, s, 2)) rfl (hI_m (by omega) (hI_n3 rfl rfl))]
    exact c4 f hf
  · exact ((c6.wI (fun z => z ⟨rfl, rfl, by show 1 ≤ 2; decide⟩)).wI (fun z => z ⟨rfl, rfl, by show 2 ≤ 2; decide⟩)).wI (fun z => z ⟨rfl, rfl, by show 0 ≤ 2; decide⟩)
theorem cmf_n {kd v : Int} (h2 : hI G (4, s, 0) 2 = n2) : hI (cmf G s kd v) (4, s, 1) n2.toNat = kd ∧ hI (cmf G s kd v) (4, s, 2) n2.toNat = v := by
  unfold cmf
  rw [h2]
  exact ⟨by rw [hI_n3 rfl (hI_n3 rfl (hI_e rfl rfl))], by rw [hI_n3 rfl (hI_e rfl rfl)]⟩
theorem cmf_o {kd v : Int} {i : Nat} (h2 : hI G (4, s, 0) 2 = n2) (hi : ¬ i = n2.toNat) : hI (cmf G s kd v) (4, s, 1) i = hI G (4, s, 1) i ∧ hI (cmf G s kd v) (4, s, 2) i = hI G (4, s, 2) i := by
  unfold cmf
  rw [h2]
  exact ⟨by rw [hI_n3 rfl (hI_n3 rfl (hI_m hi rfl))], by rw [hI_n3 rfl (hI_m hi (hI_n3 rfl rfl))]⟩
theorem cmf_W {kd v : Int} (W : SchW G s) : SchW (cmf G s kd v) s := W
theorem GS.cs (C : GS h G s n2) (D : CG G g s d w a b c e fc N L) : CS h g s d w a b c e fc n2 N L := by
  obtain ⟨c1, c2, c3, c4, c5, c6⟩ := C
  obtain ⟨d1, d2, d3, d4, d5, d6, d7, d8⟩ := D
  have o : ∀ x, 2 < x → (fun n : Nm => ¬ (n.1 = 4 ∧ n.2.1 = s ∧ n.2.2 ≤ 2)) (4, s, x) := fun x hx z => by have := z.2.2; dsimp only at this; omega
  refine ⟨⟨d1, by rw [d2 1 (by decide)]; exact c2, by rw [d2 2 (by decide)]; exact c3⟩, ?_, ?_, d5, d6, d7, ?_, ?_⟩
  · intro f hf
    rw [d3 1 f (by decide) (by decide), d3 2 f (by decide) (by decide)]
    exact c4 f hf
  · intro v _ hv
    obtain ⟨k1, k2, k3⟩ := d4 v hv
    refine ⟨fun j => ?_, ?_, ?_⟩
    · rw [k1, c6.I (o _ (by omega))]
    · rw [k2, c6.L (o _ (by omega))]
    · rw [k3, c6.R (o _ (by omega))]
  · intro i
    rw [d3 6 i (by decide) (by decide), c6.I (o _ (by omega))]
  · exact (c6.mo (fun n z y => z.1 ⟨y.1, y.2.1⟩)).tr d8
end R8
