/-! ===== each step, made: the law's arrays and the model agree ===== -/
section D3
variable {h g h1 : AH} {Z : ZT} {c b L a m f0 f1 : Nat} {D K : Nat → Int} {W : Int}
theorem eD_o {v f : Nat} : zdg Z v f = if Z 5 (48 * (24 * 0 + v) + f) = -1 then 0 else Z 5 (48 * (24 * 0 + v) + f) + 1 + (if Z 6 (48 * (24 * 0 + v) + f) = 0 then 0 else 32) := by
  unfold zdg
  rw [show 48 * (24 * 0 + v) + f = 48 * v + f by omega]
theorem zdg_0 (K' : QS Z) {v f : Nat} (hv : v < 24) (hf : f < 48) (h2 : Z 2 0 ≤ (f : Int)) : zdg Z v f = 0 := by
  unfold zdg
  rw [if_pos (K'.2.1 v f hv hf (Or.inl h2))]
theorem g_add {nm kd v nd : Int} (J : IV L h Z c b) (V : JV h Z) (F : FG h h1) (hv : Z 1 0 = (a : Int)) (ha : a ≤ 9) (hm : Z 2 0 = (m : Int)) (h8 : m ≤ 8) (hn : 0 ≤ nm) (hnd : nd = 0 ∨ nd = 1) (C : LC h1 Z (a + 1) D W ((m : Int) + 1) K) (eD : ∀ i : Nat, i < 10 → D i = if i = m then nm + 1 + 32 * nd else zdg Z a i) (eW : W = 2048 * ((m : Int) + 1)) (eK : K m = kd + 3 * v)
    (S : SIM g (zAdd Z 0 nm kd v nd) c) (I : ZI (zAdd Z 0 nm kd v nd)) (Fr : Fr nMo h1 g) : IV L g (zAdd Z 0 nm kd v nd) c b ∧ JV g (zAdd Z 0 nm kd v nd) := by
  have W0 := (J.S.zs0 J.z0).2
  have hd : Z 1 0 + 1 = ((a + 1 : Nat) : Int) := by omega
  have E : VS Z (zAdd Z 0 nm kd v nd) 0 (a + 1) 0 (-1) (-1) (Z 2 0) (-1) 0 (Z 2 0 + 1) (fun f => if (f : Int) = Z 2 0 then nm else Z 5 (48 * (24 * 0 + (a + 1 - 1)) + f)) (fun f => if (f : Int) = Z 2 0 then nd else Z 6 (48 * (24 * 0 + (a + 1 - 1)) + f)) := vAdd (s := 0) (by decide) W0 hd (by omega) (by omega)
  have q := vAdd_n (s := 0) (n := nm) (hw := kd) (v := v) (nd := nd) W0 hd
  rw [show 48 * 0 + (Z 2 0).toNat = m by omega] at q
  have q := (show (zAdd Z 0 nm kd v nd) 3 m = kd ∧ (zAdd Z 0 nm kd v nd) 4 m = v from q)
  rw [← hm] at C
  refine VS.go J V F C hd (by omega) (by omega) (by omega) E (fun f hf => ?_) ?_ (fun f h1 h2 => ?_) (fun z => absurd z (by decide)) (fun z => absurd z (by decide)) (fun z => absurd z (by decide)) S I Fr
  · rw [eD f hf]
    by_cases e : f = m
    · rw [if_pos e, if_pos (show (f : Int) = Z 2 0 by omega), if_pos (show (f : Int) = Z 2 0 by omega), if_neg (by omega)]
      rcases hnd with rfl | rfl
      · rw [if_pos rfl]; omega
      · rw [if_neg (by decide)]; omega
    · rw [if_neg e, if_neg (show ¬ (f : Int) = Z 2 0 by omega), if_neg (show ¬ (f : Int) = Z 2 0 by omega)]
      exact eD_o
  · rw [eW, if_neg (by decide)]; omega
  · rw [show f = m by omega, eK, q.1, q.2]
theorem g_ren {nm o : Int} (J : IV L h Z c b) (V : JV h Z) (F : FG h h1) (hv : Z 1 0 = (a : Int)) (ha : a ≤ 9) (h8 : Z 2 0 ≤ 9) (efi : zfind Z 0 (Z 1 0) nm = (f0 : Int)) (hf0 : (f0 : Int) < Z 2 0) (hp : ¬ Z 5 (48 * a + f0) = -1) (ho : 0 ≤ o) (C : LC h1 Z (a + 1) D W (Z 2 0) K) (eD : ∀ i : Nat, i < 10 → D i = if i = f0 then o + 1 + (if Z 6 (48 * a + f0) = 0 then 0 else 32) else zdg Z a i) (eW : W = 1 + 8 * ((f0 : Int) + 1) + 2048 * ((f0 : Int) + 1))
    (S : SIM g (zRen Z 0 nm o) c) (I : ZI (zRen Z 0 nm o)) (Fr : Fr nMo h1 g) : IV L g (zRen Z 0 nm o) c b ∧ JV g (zRen Z 0 nm o) := by
  have W0 := (J.S.zs0 J.z0).2
  have hd : Z 1 0 + 1 = ((a + 1 : Nat) : Int) := by omega
  have E : VS Z (zRen Z 0 nm o) 0 (a + 1) 1 (f0 : Int) (-1) (f0 : Int) (-1) 0 (Z 2 0) (fun f => if (f : Int) = (f0 : Int) then o else Z 5 (48 * (24 * 0 + (a + 1 - 1)) + f)) (fun f => Z 6 (48 * (24 * 0 + (a + 1 - 1)) + f)) := vRen (s := 0) (by decide) W0 hd (by omega) (by omega) ((J.at0 nm).trans efi) (by omega) (by rw [show 48 * (24 * 0 + (a + 1 - 1)) + (f0 : Int).toNat = 48 * a + f0 by omega]; exact hp)
  refine VS.go J V F C hd (by omega) (by omega) (by omega) E (fun f hf => ?_) ?_ (fun f h1 h2 => absurd h2 (by omega)) (fun z => absurd z (by decide)) (fun z => absurd z (by decide)) (fun z => absurd z (by decide)) S I Fr
  · rw [eD f hf]
    by_cases e : f = f0
    · rw [if_pos e, if_pos (show (f : Int) = (f0 : Int) by omega), if_neg (show ¬ o = -1 by omega), show 48 * (24 * 0 + (a + 1 - 1)) + f = 48 * a + f0 by omega]
    · rw [if_neg e, if_neg (show ¬ (f : Int) = (f0 : Int) by omega)]
      exact eD_o
  · rw [eW, if_neg (by decide)]; omega
theorem g_tur {nm o : Int} (J : IV L h Z c b) (V : JV h Z) (F : FG h h1) (hv : Z 1 0 = (a : Int)) (ha : a ≤ 9) (hm : Z 2 0 = (m : Int)) (h8 : m ≤ 8) (hn : 0 ≤ nm) (efi : zfind Z 0 (Z 1 0) nm = (f0 : Int)) (hf0 : (f0 : Int) < Z 2 0) (C : LC h1 Z (a + 1) D W ((m : Int) + 1) K) (eD : ∀ i : Nat, i < 10 → D i = if i = m then nm + 1 + (if Z 6 (48 * a + f0) = 0 then 0 else 32) else if i = f0 then 0 else zdg Z a i) (eW : W = 2 + 8 * ((f0 : Int) + 1) + 2048 * ((m : Int) + 1)) (eK : K m = o + 3 * ztur (Z 4 f0) (Z 3 f0) o)
    (S : SIM g (zTur Z 0 nm o) c) (I : ZI (zTur Z 0 nm o)) (Fr : Fr nMo h1 g) : IV L g (zTur Z 0 nm o) c b ∧ JV g (zTur Z 0 nm o) := by
  have W0 := (J.S.zs0 J.z0).2
  have hd : Z 1 0 + 1 = ((a + 1 : Nat) : Int) := by omega
  have eF := (J.at0 nm).trans efi
  have E : VS Z (zTur Z 0 nm o) 0 (a + 1) 2 (f0 : Int) (-1) (Z 2 0) (-1) 0 (Z 2 0 + 1) (fun f => if (f : Int) = Z 2 0 then nm else if (f : Int) = (f0 : Int) then -1 else Z 5 (48 * (24 * 0 + (a + 1 - 1)) + f)) (fun f => if (f : Int) = Z 2 0 then Z 6 (48 * (24 * 0 + (a + 1 - 1)) + (f0 : Int).toNat) else Z 6 (48 * (24 * 0 + (a + 1 - 1)) + f)) := vTur (s := 0) (by decide) W0 hd (by omega) (by omega) eF (by omega)
  have q := vTur_n (s := 0) (hw := o) W0 hd eF (by omega)
  rw [show 48 * 0 + (Z 2 0).toNat = m by omega, show 48 * 0 + (f0 : Int).toNat = f0 by omega] at q
  rw [← hm] at C
  refine VS.go J V F C hd (by omega) (by omega) (by omega) E (fun f hf => ?_) ?_ (fun f h1 h2 => ?_) (fun z => absurd z (by decide)) (fun z => absurd z (by decide)) (fun z => absurd z (by decide)) S I Fr
  · rw [eD f hf]
    by_cases e : f = m
    · rw [if_pos e, if_pos (show (f : Int) = Z 2 0 by omega), if_pos (show (f : Int) = Z 2 0 by omega), if_neg (show ¬ nm = -1 by omega), show 48 * (24 * 0 + (a + 1 - 1)) + (f0 : Int).toNat = 48 * a + f0 by omega]
    · rw [if_neg e, if_neg (show ¬ (f : Int) = Z 2 0 by omega), if_neg (show ¬ (f : Int) = Z 2 0 by omega)]
      by_cases e2 : f = f0
      · rw [if_pos e2, if_pos (show (f : Int) = (f0 : Int) by omega), if_pos rfl]
      · rw [if_neg e2, if_neg (show ¬ (f : Int) = (f0 : Int) by omega)]
        exact eD_o
  · rw [eW, if_neg (by decide)]; omega
  · rw [show f = m by omega, eK]
    exact (congrArg (fun x => x + 3 * ztur (Z 4 f0) (Z 3 f0) o) q.1.symm).trans (congrArg (fun x => _ + 3 * x) q.2.symm)
theorem g_spl {nm o1 o2 dv : Int} (J : IV L h Z c b) (V : JV h Z) (F : FG h h1) (hv : Z 1 0 = (a : Int)) (ha : a ≤ 9) (hm : Z 2 0 = (m : Int)) (h8 : m ≤ 8) (hn1 : 0 ≤ o1) (hn2 : 0 ≤ o2) (hdv : 2 ≤ dv ∧ dv ≤ 100) (efi : zfind Z 0 (Z 1 0) nm = (f0 : Int)) (hf0 : (f0 : Int) < Z 2 0) (h3 : Z 3 f0 = 0) (C : LC h1 Z (a + 1) D W ((m : Int) + 1 + 1) K)
    (eD : ∀ i : Nat, i < 10 → D i = if i = m + 1 then o2 + 1 + (if Z 6 (48 * a + f0) = 0 then 0 else 32) else if i = m then o1 + 1 + (if Z 6 (48 * a + f0) = 0 then 0 else 32) else if i = f0 then 0 else zdg Z a i) (eW : W = 3 + 8 * ((f0 : Int) + 1) + 2048 * ((m : Int) + 1) + 32768 * ((m : Int) + 2) + 524288 * dv) (eK : K m = 3 * (Z 4 f0).tdiv dv) (eK2 : K (m + 1) = 3 * (Z 4 f0).tmod dv)
    (S : SIM g (zSpl Z 0 nm o1 o2 dv) c) (I : ZI (zSpl Z 0 nm o1 o2 dv)) (Fr : Fr nMo h1 g) : IV L g (zSpl Z 0 nm o1 o2 dv) c b ∧ JV g (zSpl Z 0 nm o1 o2 dv) := by
  have W0 := (J.S.zs0 J.z0).2
  have hd : Z 1 0 + 1 = ((a + 1 : Nat) : Int) := by omega
  have eF := (J.at0 nm).trans efi
  have E : VS Z (zSpl Z 0 nm o1 o2 dv) 0 (a + 1) 3 (f0 : Int) (-1) (Z 2 0) (Z 2 0 + 1) dv (Z 2 0 + 2) (fun f => if (f : Int) = Z 2 0 + 1 then o2 else if (f : Int) = Z 2 0 then o1 else if (f : Int) = (f0 : Int) then -1 else Z 5 (48 * (24 * 0 + (a + 1 - 1)) + f)) (fun f => if (f : Int) = Z 2 0 + 1 then Z 6 (48 * (24 * 0 + (a + 1 - 1)) + (f0 : Int).toNat) else if (f : Int) = Z 2 0 then Z 6 (48 * (24 * 0 + (a + 1 - 1)) + (f0 : Int).toNat) else Z 6 (48 * (24 * 0 + (a + 1 - 1)) + f)) := vSpl (s := 0) (by decide) W0 hd (by omega) (by omega) eF (by omega)
  have q := vSpl_n (s := 0) (o1 := o1) (o2 := o2) (dv := dv) W0 hd eF (by omega)
  rw [show 48 * 0 + (Z 2 0).toNat = m by omega, show 48 * 0 + ((Z 2 0).toNat + 1) = m + 1 by omega, show 48 * 0 + (f0 : Int).toNat = f0 by omega] at q
  have q := (show ((zSpl Z 0 nm o1 o2 dv) 3 m = 0 ∧ (zSpl Z 0 nm o1 o2 dv) 4 m = (Z 4 f0).tdiv dv) ∧ ((zSpl Z 0 nm o1 o2 dv) 3 (m + 1) = 0 ∧ (zSpl Z 0 nm o1 o2 dv) 4 (m + 1) = (Z 4 f0).tmod dv) from q)
  have y3 := (E.v0.f (f := f0) (by omega) hf0).1.trans h3
  rw [show (m : Int) + 1 + 1 = Z 2 0 + 2 by omega] at C
  refine VS.go J V F C hd (by omega) (by omega) (by omega) E (fun f hf => ?_) ?_ (fun f h1 h2 => ?_) (fun _ => by omega) (fun _ => ⟨by rw [Int.toNat_natCast]; exact y3, by rw [show (Z 2 0).toNat = m by omega]; exact q.1.1, by rw [show (Z 2 0 + 1).toNat = m + 1 by omega]; exact q.2.1⟩) (fun z => absurd z (by decide)) S I Fr
  · rw [eD f hf]
    by_cases e1 : f = m + 1
    · rw [if_pos e1, if_pos (show (f : Int) = Z 2 0 + 1 by omega), if_pos (show (f : Int) = Z 2 0 + 1 by omega), if_neg (show ¬ o2 = -1 by omega), show 48 * (24 * 0 + (a + 1 - 1)) + (f0 : Int).toNat = 48 * a + f0 by omega]
    · rw [if_neg e1, if_neg (show ¬ (f : Int) = Z 2 0 + 1 by omega), if_neg (show ¬ (f : Int) = Z 2 0 + 1 by omega)]
      by_cases e : f = m
      · rw [if_pos e, if_pos (show (f : Int) = Z 2 0 by omega), if_pos (show (f : Int) = Z 2 0 by omega), if_neg (show ¬ o1 = -1 by omega), show 48 * (24 * 0 + (a + 1 - 1)) + (f0 : Int).toNat = 48 * a + f0 by omega]
      · rw [if_neg e, if_neg (show ¬ (f : Int) = Z 2 0 by omega), if_neg (show ¬ (f : Int) = Z 2 0 by omega)]
        by_cases e2 : f = f0
        · rw [if_pos e2, if_pos (show (f : Int) = (f0 : Int) by omega), if_pos rfl]
        · rw [if_neg e2, if_neg (show ¬ (f : Int) = (f0 : Int) by omega)]
          exact eD_o
  · rw [eW, if_pos (by decide)]; omega
  · by_cases e1 : f = m + 1
    · rw [e1, eK2, q.2.1, q.2.2, Int.zero_add]
    · rw [show f = m by omega, eK, q.1.1, q.1.2, Int.zero_add]
theorem g_joi {n o1 o2 dv nd : Int} (J : IV L h Z c b) (V : JV h Z) (F : FG h h1) (hv : Z 1 0 = (a : Int)) (ha : a ≤ 9) (hm : Z 2 0 = (m : Int)) (h8 : m ≤ 8) (hn : 0 ≤ n) (hdv : 2 ≤ dv ∧ dv ≤ 100) (ef0 : zfind Z 0 (Z 1 0) o1 = (f0 : Int)) (hf0 : (f0 : Int) < Z 2 0) (ef1 : zfind Z 0 (Z 1 0) o2 = (f1 : Int)) (hf1 : (f1 : Int) < Z 2 0) (hne : ¬ f0 = f1) (h3 : Z 3 f0 = 0) (h4 : Z 3 f1 = 0) (hnd : nd = bz (¬ Z 6 (48 * a + f0) = 0 ∨ ¬ Z 6 (48 * a + f1) = 0)) (C : LC h1 Z (a + 1) D W ((m : Int) + 1) K)
    (eD : ∀ i : Nat, i < 10 → D i = if i = m then n + 1 + 32 * nd else if i = f0 then 0 else if i = f1 then 0 else zdg Z a i) (eW : W = 4 + 8 * ((f0 : Int) + 1) + 128 * ((f1 : Int) + 1) + 2048 * ((m : Int) + 1) + 524288 * dv) (eK : K m = 3 * zjoi (Z 4 f0) (Z 4 f1) dv)
    (S : SIM g (zJoi Z 0 o1 o2 n dv) c) (I : ZI (zJoi Z 0 o1 o2 n dv)) (Fr : Fr nMo h1 g) : IV L g (zJoi Z 0 o1 o2 n dv) c b ∧ JV g (zJoi Z 0 o1 o2 n dv) := by
  have W0 := (J.S.zs0 J.z0).2
  have hd : Z 1 0 + 1 = ((a + 1 : Nat) : Int) := by omega
  have eF := (J.at0 o1).trans ef0
  have eG := (J.at0 o2).trans ef1
  have E : VS Z (zJoi Z 0 o1 o2 n dv) 0 (a + 1) 4 (f0 : Int) (f1 : Int) (Z 2 0) (-1) dv (Z 2 0 + 1) (fun f => if (f : Int) = Z 2 0 then n else if (f : Int) = (f0 : Int) then -1 else if (f : Int) = (f1 : Int) then -1 else Z 5 (48 * (24 * 0 + (a + 1 - 1)) + f)) (fun f => if (f : Int) = Z 2 0 then bz (¬ Z 6 (48 * (24 * 0 + (a + 1 - 1)) + (f0 : Int).toNat) = 0 ∨ ¬ Z 6 (48 * (24 * 0 + (a + 1 - 1)) + (f1 : Int).toNat) = 0) else Z 6 (48 * (24 * 0 + (a + 1 - 1)) + f)) := vJoi (s := 0) (by decide) W0 hd (by omega) (by omega) eF (by omega) eG (by omega) (by omega)
  have q := vJoi_n (s := 0) (n := n) (dv := dv) W0 hd eF (by omega) eG (by omega) (by omega)
  rw [show 48 * 0 + (Z 2 0).toNat = m by omega, show 48 * 0 + (f0 : Int).toNat = f0 by omega, show 48 * 0 + (f1 : Int).toNat = f1 by omega] at q
  have q := (show (zJoi Z 0 o1 o2 n dv) 3 m = 0 ∧ (zJoi Z 0 o1 o2 n dv) 4 m = zjoi (Z 4 f0) (Z 4 f1) dv from q)
  have y3 := (E.v0.f (f := f0) (by omega) hf0).1.trans h3
  have y4 := (E.v0.f (f := f1) (by omega) hf1).1.trans h4
  rw [← hm] at C
  refine VS.go J V F C hd (by omega) (by omega) (by omega) E (fun f hf => ?_) ?_ (fun f h1 h2 => ?_) (fun _ => by omega) (fun z => absurd z (by decide)) (fun _ => ⟨by rw [Int.toNat_natCast]; exact y3, by rw [Int.toNat_natCast]; exact y4, by rw [show (Z 2 0).toNat = m by omega]; exact q.1⟩) S I Fr
  · rw [eD f hf]
    by_cases e : f = m
    · rw [if_pos e, if_pos (show (f : Int) = Z 2 0 by omega), if_pos (show (f : Int) = Z 2 0 by omega), if_neg (by omega), show 48 * (24 * 0 + (a + 1 - 1)) + (f0 : Int).toNat = 48 * a + f0 by omega, show 48 * (24 * 0 + (a + 1 - 1)) + (f1 : Int).toNat = 48 * a + f1 by omega, ← hnd]
      rcases bz01 (¬ Z 6 (48 * a + f0) = 0 ∨ ¬ Z 6 (48 * a + f1) = 0) with z | z
      · rw [hnd, z, if_pos rfl]; omega
      · rw [hnd, z, if_neg (by decide)]; omega
    · rw [if_neg e, if_neg (show ¬ (f : Int) = Z 2 0 by omega), if_neg (show ¬ (f : Int) = Z 2 0 by omega)]
      by_cases e2 : f = f0
      · rw [if_pos e2, if_pos (show (f : Int) = (f0 : Int) by omega), if_pos rfl]
      · rw [if_neg e2, if_neg (show ¬ (f : Int) = (f0 : Int) by omega)]
        by_cases e3 : f = f1
        · rw [if_pos e3, if_pos (show (f : Int) = (f1 : Int) by omega), if_pos rfl]
        · rw [if_neg e3, if_neg (show ¬ (f : Int) = (f1 : Int) by omega)]
          exact eD_o
  · rw [eW, if_pos (by decide)]; omega
  · rw [show f = m by omega, eK, q.1, q.2, Int.zero_add]
theorem g_dro {f : Int} (J : IV L h Z c b) (V : JV h Z) (F : FG h h1) (hv : Z 1 0 = (a : Int)) (ha : a ≤ 9) (h8 : Z 2 0 ≤ 9) (efi : f = (f0 : Int)) (hf0 : (f0 : Int) < Z 2 0) (C : LC h1 Z (a + 1) D W (Z 2 0) K) (eD : ∀ i : Nat, i < 10 → D i = if i = f0 then 0 else zdg Z a i) (eW : W = 5 + 8 * ((f0 : Int) + 1))
    (S : SIM g (zdo (zs Z 48 0 0) 0 f) c) (I : ZI (zdo (zs Z 48 0 0) 0 f)) (Fr : Fr nMo h1 g) : IV L g (zdo (zs Z 48 0 0) 0 f) c b ∧ JV g (zdo (zs Z 48 0 0) 0 f) := by
  subst efi
  have W0 := (J.S.zs0 J.z0).2
  have hd : Z 1 0 + 1 = ((a + 1 : Nat) : Int) := by omega
  have E : VS Z (zdo (zs Z 48 0 0) 0 (f0 : Int)) 0 (a + 1) 5 (f0 : Int) (-1) (-1) (-1) 0 (Z 2 0) (fun f => if (f : Int) = (f0 : Int) then -1 else Z 5 (48 * (24 * 0 + (a + 1 - 1)) + f)) (fun f => Z 6 (48 * (24 * 0 + (a + 1 - 1)) + f)) := vDro (s := 0) (by decide) W0 hd (by omega) (by omega) (by omega)
  refine VS.go J V F C hd (by omega) (by omega) (by omega) E (fun f hf => ?_) ?_ (fun f h1 h2 => absurd h2 (by omega)) (fun z => absurd z (by decide)) (fun z => absurd z (by decide)) (fun z => absurd z (by decide)) S I Fr
  · rw [eD f hf]
    by_cases e : f = f0
    · rw [if_pos e, if_pos (show (f : Int) = (f0 : Int) by omega), if_pos rfl]
    · rw [if_neg e, if_neg (show ¬ (f : Int) = (f0 : Int) by omega)]
      exact eD_o
  · rw [eW, if_neg (by decide)]; omega
theorem g_tog {nm : Int} (J : IV L h Z c b) (V : JV h Z) (F : FG h h1) (hv : Z 1 0 = (a : Int)) (ha : a ≤ 9) (h8 : Z 2 0 ≤ 9) (efi : zfind Z 0 (Z 1 0) nm = (f0 : Int)) (hf0 : (f0 : Int) < Z 2 0) (hp : ¬ Z 5 (48 * a + f0) = -1) (C : LC h1 Z (a + 1) D W (Z 2 0) K) (eD : ∀ i : Nat, i < 10 → D i = if i = f0 then (if 31 < zdg Z a i then zdg Z a i - 32 else zdg Z a i + 32) else zdg Z a i) (eW : W = 6 + 8 * ((f0 : Int) + 1) + 2048 * ((f0 : Int) + 1))
    (S : SIM g (zTog Z 0 nm) c) (I : ZI (zTog Z 0 nm)) (Fr : Fr nMo h1 g) : IV L g (zTog Z 0 nm) c b ∧ JV g (zTog Z 0 nm) := by
  have W0 := (J.S.zs0 J.z0).2
  have b2 := J.K.b2
  have nb := (J.K.nm (v := a) (f := f0) (by omega) (by omega)).1
  have hd : Z 1 0 + 1 = ((a + 1 : Nat) : Int) := by omega
  have E : VS Z (zTog Z 0 nm) 0 (a + 1) 6 (f0 : Int) (-1) (f0 : Int) (-1) 0 (Z 2 0) (fun f => Z 5 (48 * (24 * 0 + (a + 1 - 1)) + f)) (fun f => if (f : Int) = (f0 : Int) then bz (Z 6 (48 * (24 * 0 + (a + 1 - 1)) + (f0 : Int).toNat) = 0) else Z 6 (48 * (24 * 0 + (a + 1 - 1)) + f)) := vTog (s := 0) (by decide) W0 hd (by omega) (by omega) ((J.at0 nm).trans efi) (by omega)
  refine VS.go J V F C hd (by omega) (by omega) (by omega) E (fun f hf => ?_) ?_ (fun f h1 h2 => absurd h2 (by omega)) (fun z => absurd z (by decide)) (fun z => absurd z (by decide)) (fun z => absurd z (by decide)) S I Fr
  · rw [eD f hf]
    by_cases e : f = f0
    · subst e
      rw [if_pos rfl, if_pos rfl, show 48 * (24 * 0 + (a + 1 - 1)) + (f : Int).toNat = 48 * a + f by omega, show 48 * (24 * 0 + (a + 1 - 1)) + f = 48 * a + f by omega, if_neg hp]
      unfold zdg
      rw [if_neg hp]
      by_cases e6 : Z 6 (48 * a + f) = 0
      · rw [if_pos e6, bz_1.mpr e6, if_neg (by omega), if_neg (by decide)]; omega
      · rw [if_neg e6, bz_0.mpr e6, if_pos (by omega), if_pos rfl]; omega
    · rw [if_neg e, if_neg (show ¬ (f : Int) = (f0 : Int) by omega)]
      exact eD_o
  · rw [eW, if_neg (by decide)]; omega
end D3
