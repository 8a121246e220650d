/-! ===== the model stays sound: ranges call by call ===== -/
section Q3
variable {Z Y : ZT}
theorem PR.f3 {v : Int} (h : 0 ≤ v ∧ v ≤ 2) : PR 3 v := ⟨fun _ => h, fun z => absurd z (by decide), fun z => absurd z (by decide), fun z => absurd z (by decide), fun z => absurd z (by decide)⟩
theorem PR.f5 {v : Int} (h : -1 ≤ v ∧ v ≤ 25) : PR 5 v := ⟨fun z => absurd z (by decide), fun _ => h, fun z => absurd z (by decide), fun z => absurd z (by decide), fun z => absurd z (by decide)⟩
theorem PR.f6 {v : Int} (h : v = 0 ∨ v = 1) : PR 6 v := ⟨fun z => absurd z (by decide), fun z => absurd z (by decide), fun _ => h, fun z => absurd z (by decide), fun z => absurd z (by decide)⟩
theorem PR.f8 {v : Int} (h : -1 ≤ v ∧ v < 48) : PR 8 v := ⟨fun z => absurd z (by decide), fun z => absurd z (by decide), fun z => absurd z (by decide), fun _ => h, fun z => absurd z (by decide)⟩
theorem PR.f9 {v : Int} (h : -1 ≤ v ∧ v < 48) : PR 9 v := ⟨fun z => absurd z (by decide), fun z => absurd z (by decide), fun z => absurd z (by decide), fun _ => h, fun z => absurd z (by decide)⟩
theorem PR.f12 {v : Int} (h : 0 ≤ v ∧ v < 48) : PR 12 v := ⟨fun z => absurd z (by decide), fun z => absurd z (by decide), fun z => absurd z (by decide), fun z => absurd z (by decide), fun _ => h⟩
theorem RA.mak {s a f n hw v nd : Int} (R : RA Z) (h3 : 0 ≤ hw ∧ hw ≤ 2) (h5 : -1 ≤ n ∧ n ≤ 25) (h6 : nd = 0 ∨ nd = 1) : RA (zmak Z s a f n hw v nd) := by
  unfold zmak
  exact ((((R.w (PR.f3 h3)).w (PR.fr rfl)).w (PR.f5 h5)).w (PR.f6 h6)).w (PR.fr rfl)
theorem RA.add {s n hw v nd : Int} (R : RA Z) (h3 : 0 ≤ hw ∧ hw ≤ 2) (h5 : 0 ≤ n ∧ n ≤ 25) (h6 : nd = 0 ∨ nd = 1) (h2 : 0 ≤ Z 2 s.toNat ∧ Z 2 s.toNat < 48) : RA (zAdd Z s n hw v nd) := by
  unfold zAdd
  exact ((((R.w (PR.fr rfl)).beg).mak h3 (by omega) h6).w (PR.f9 (by omega)))
theorem RA.ren {s n o : Int} (R : RA Z) (hf : -1 ≤ zatH Z s n ∧ zatH Z s n < 48) (h5 : 0 ≤ o ∧ o ≤ 25) : RA (zRen Z s n o) := by
  unfold zRen
  exact ((((R.w (PR.fr rfl)).beg).w (PR.f8 hf)).w (PR.f9 hf)).w (PR.f5 (by omega))
theorem RA.tog {s n : Int} (R : RA Z) (hf : -1 ≤ zatH Z s n ∧ zatH Z s n < 48) : RA (zTog Z s n) := by
  unfold zTog
  exact ((((R.w (PR.fr rfl)).beg).w (PR.f8 hf)).w (PR.f9 hf)).w (PR.f6 (bz01 _))
theorem RA.tur {s n hw : Int} (R : RA Z) (hf : -1 ≤ zatH Z s n ∧ zatH Z s n < 48) (h3 : 0 ≤ hw ∧ hw ≤ 2) (h5 : -1 ≤ n ∧ n ≤ 25) (h2 : 0 ≤ Z 2 s.toNat ∧ Z 2 s.toNat < 48) : RA (zTur Z s n hw) := by
  have h6 := (R 6 (48 * (24 * s + Z 1 s.toNat) + zatH Z s n).toNat).2.2.1 rfl
  unfold zTur
  exact (((((R.w (PR.fr rfl)).beg).w (PR.m1 rfl)).w (PR.f8 hf)).mak h3 h5 h6).w (PR.f9 (by omega))
theorem RA.dro {s f : Int} (R : RA Z) (hf : -1 ≤ f ∧ f < 48) : RA (zdo Z s f) := by
  unfold zdo
  exact ((R.beg).w (PR.m1 rfl)).w (PR.f8 hf)
theorem RA.laS {s : Int} (R : RA Z) : ∀ i, RA (zlaS Z s i).1
  | 0 => R
  | i + 1 => by
    have ih := RA.laS (s := s) R i
    have b := (ih 12 (48 * s + (i : Int)).toNat).2.2.2.2 rfl
    unfold zlaS
    split
    · exact ih.dro (by omega)
    · exact ih.w (PR.f12 b)
theorem RA.la {s : Int} (R : RA Z) : RA (zla Z s) := by
  unfold zla
  exact (R.laS _).w (PR.fr rfl)
end Q3
