/-! ===== the relation: the row farthest off ===== -/
section K1
variable {Q : AH → AO → Prop} {h g H G : AH} {Z Y X : ZT} {c q s a b r x m v : Nat} {A : Nat → Nat}
def zfar (Z : ZT) (m : Int) (i : Nat) : Int := if znxA Z m i = -1 then 0 else zoff Z (znxA Z m i) m
theorem zfar_s {i : Nat} : znxA Z (m : Int) (i + 1) = (if Z 20 i = Z 29 m ∧ zfar Z m i < zoff Z (i : Int) m then (i : Int) else znxA Z m i) ∧ zfar Z m (i + 1) = (if Z 20 i = Z 29 m ∧ zfar Z m i < zoff Z (i : Int) m then zoff Z (i : Int) m else zfar Z m i) := by
  have rg := znxA_rng (Z := Z) (m := (m : Int)) i
  have e : znxA Z (m : Int) (i + 1) = (if Z 20 i = Z 29 m ∧ zfar Z m i < zoff Z (i : Int) m then (i : Int) else znxA Z m i) := by
    show (if _ then _ else _) = _
    rw [Int.toNat_natCast, Int.toNat_natCast]
    unfold zfar
    by_cases y : znxA Z m i = -1
    · simp only [y, true_or, and_true, if_true]
    · simp only [y, false_or, if_false]
      have r := rg.resolve_left y
      by_cases w : (Z 20 i = Z 29 m ∧ zoff Z (znxA Z m i) m < zoff Z (i : Int) m)
      · rw [if_pos w, if_pos ⟨⟨w.1, by omega⟩, w.2⟩]
      · rw [if_neg w, if_neg (fun z => w ⟨z.1.1, z.2⟩)]
  refine ⟨e, ?_⟩
  show (if znxA Z m (i + 1) = -1 then 0 else zoff Z (znxA Z m (i + 1)) m) = _
  rw [e]
  by_cases w : (Z 20 i = Z 29 m ∧ zfar Z m i < zoff Z (i : Int) m)
  · rw [if_pos w, if_pos w, if_neg (by omega)]
  · rw [if_neg w, if_neg w]; rfl
set_option maxHeartbeats 1000000 in
theorem sX7_farthestRow (S : SIMq A 9 h Z c) (M : BM Z) (hm : (m : Int) < Z 28 0) (k : Q h (.inl (some (vi (znx Z m))))) : AC mX7_farthestRow fX7_farthestRow loX7_farthestRow 0 0 h [vr mF, vr (10, m, 0)] Q := by
  have W := S.1.1
  have C := S.1.2.1.2.2.1
  have eC := S.1.2.2.1.2.2.1
  have zz := S.zz
  have z19 := S.c19
  have z28 := S.c28
  have mm := S.2.2.2.2.2.1 m hm
  have M2 := (M.2 m (by omega)).2.2
  obtain ⟨WM, m1, m2, -⟩ := mm
  obtain ⟨Sm, Km, -⟩ := S.sc (s := (Z 29 m).toNat) (by omega)
  have b1 := Km.b1
  refine AC.mk (by decide) (Nat.le_of_ble_eq_true rfl) ?_
  have lp : ∀ (n i j : Nat), i ≤ 20 → 20 ≤ i + n → j = (if (i : Int) < Z 19 0 then i else (Z 19 0).toNat) → AW mX7_farthestRow fX7_farthestRow loX7_farthestRow 0 0 Q 0 0 7 h [(4, vi (i : Int)), (3, vi (zfar Z m j)), (2, vi (znxA Z m j)), (1, vr (10, m, 0)), (0, vr mF)] [] := by
    intro n
    induction n with
    | zero =>
      intro i j h1 h2 ej
      have e : i = 20 := by omega
      subst e
      have ej2 : j = (Z 19 0).toNat := by rw [ej]; split <;> omega
      subst ej2
      refine AW.iload dX7_farthestRow_7 rfl ?_
      refine AW.aload_n dX7_farthestRow_9 rfl ?_
      refine AW.getRE (j := 2) W.o dX7_farthestRow_10 lkX7_23 rfl rfl inC8 rfl W.r2 ?_
      refine AW.alen (t := 5) dX7_farthestRow_13 W.t2 (by decide) (by decide) ?_
      refine AW.icmp_ge (tgt := 79) dX7_farthestRow_14 rfl (fun c_14 => ?_) (fun c_14 => ?_)
      · refine AW.iload_n dX7_farthestRow_79 rfl ?_
        refine AW.iret dX7_farthestRow_80 rfl ?_
        exact k
      · exact absurd c_14 (by omega)
    | succ n ih =>
      intro i j h1 h2 ej
      by_cases e : i = 20
      · exact ih i j h1 (by omega) ej
      by_cases hi : (i : Int) < Z 19 0
      · rw [if_pos hi] at ej
        subst ej
        have e3 : hR h (3, 3, 0) (j : Int).toNat = some (9, j, 0) := by rw [Int.toNat_natCast, C.2 _ (by omega), if_pos (by omega)]
        have Rr := S.2.2.2.2.1 j hi
        have RWr := Rr.1
        have r2 := Rr.2.1
        have r3 := Rr.2.2.1.1
        have V13 := Rr.2.2.1.2.1
        obtain ⟨Ss, Ks, -⟩ := S.sc (s := (Z 20 j).toNat) (by omega)
        have bs := Ks.b1
        have zs := zfar_s (Z := Z) (m := m) (i := j)
        have nx : ∀ y w, y = zfar Z m (j + 1) → w = znxA Z m (j + 1) → AW mX7_farthestRow fX7_farthestRow loX7_farthestRow 0 0 Q 0 0 7 h [(4, vi ((j + 1 : Nat) : Int)), (3, vi y), (2, vi w), (1, vr (10, m, 0)), (0, vr mF)] [] := by
          intro y w ey ew
          subst ey; subst ew
          exact ih (j + 1) (j + 1) (by omega) (by omega) (by split <;> omega)
        have eo : (if 0 ≤ Z 21 j - Z 30 m then Z 21 j - Z 30 m else -(Z 21 j - Z 30 m)) = zoff Z (j : Int) m := by
          unfold zoff
          rw [Int.toNat_natCast, Int.toNat_natCast]
          (repeat' split) <;> omega
        have e0 := r3.1
        have e1 := m2
        by_cases ho : Z 20 j = Z 29 m
        · have WMo : MvrW h m (Z 20 j).toNat := by rw [ho]; exact WM
          refine AW.iload dX7_farthestRow_7 rfl ?_
          refine AW.aload_n dX7_farthestRow_9 rfl ?_
          refine AW.getRE (j := 2) W.o dX7_farthestRow_10 lkX7_23 rfl rfl inC8 rfl W.r2 ?_
          refine AW.alen (t := 5) dX7_farthestRow_13 W.t2 (by decide) (by decide) ?_
          refine AW.icmp_ge (tgt := 79) dX7_farthestRow_14 rfl (fun c_14 => ?_) (fun c_14 => ?_)
          · exact absurd c_14 (by omega)
          · refine AW.aload_n dX7_farthestRow_17 rfl ?_
            refine AW.getRE (j := 2) W.o dX7_farthestRow_18 lkX7_23 rfl rfl inC8 rfl W.r2 ?_
            refine AW.iload dX7_farthestRow_21 rfl ?_
            refine AW.aldR (t := 5) dX7_farthestRow_23 W.t2 (by decide) rfl (by omega) (by omega) e3 ?_
            refine AW.astore dX7_farthestRow_24 rfl ?_
            refine AW.aload dX7_farthestRow_26 rfl ?_
            refine AW.ifnull (tgt := 73) dX7_farthestRow_28 rfl (fun c_28 => ?_) (fun n_28 c_28 => ?_)
            · exact absurd c_28 (by simp)
            · refine AW.aload dX7_farthestRow_31 rfl ?_
              refine AW.getRE (j := 0) RWr.o dX7_farthestRow_33 lkX7_302 rfl rfl inC4 rfl RWr.r0 ?_
              refine AW.aload_n dX7_farthestRow_36 rfl ?_
              refine AW.getRE (j := 0) WMo.o dX7_farthestRow_37 lkX7_417 rfl rfl inC3 rfl WMo.r0 ?_
              refine AW.acmp_ne (tgt := 73) dX7_farthestRow_40 rfl (fun c_40 => ?_) (fun c_40 => ?_)
              · exact absurd rfl c_40
              · refine AW.aload dX7_farthestRow_43 rfl ?_
                refine AW.getRE (j := 1) RWr.o dX7_farthestRow_45 lkX7_320 rfl rfl inC4 rfl RWr.r1 ?_
                refine AW.getIE (j := 0) V13.o dX7_farthestRow_48 lkX7_323 rfl rfl inC6 rfl (by exact e0) ?_
                refine AW.aload_n dX7_farthestRow_51 rfl ?_
                refine AW.getIE (j := 1) WMo.o dX7_farthestRow_52 lkX7_381 rfl rfl inC3 rfl (by exact e1) ?_
                refine AW.isubB dX7_farthestRow_55 (by omega) ?_
                refine AW.mabs dX7_farthestRow_56 lkX7_418 ma1 iniMath ma2 rfl rfl rfl (by omega) ?_
                refine AW.top (y := zoff Z (j : Int) m) eo ?_
                refine AW.istore dX7_farthestRow_59 rfl ?_
                refine AW.iload dX7_farthestRow_61 rfl ?_
                refine AW.iload_n dX7_farthestRow_63 rfl ?_
                refine AW.icmp_le (tgt := 73) dX7_farthestRow_64 rfl (fun c_64 => ?_) (fun c_64 => ?_)
                · refine AW.iincB dX7_farthestRow_73 rfl rfl (by omega) ?_
                  refine AW.goto (tgt := 7) dX7_farthestRow_76 rfl ?_
                  refine AW.locs [(4, vi ((j + 1 : Nat) : Int)), (3, vi _), (2, vi _), (1, vr (10, m, 0)), (0, vr mF)] ⟨rfl, rfl, rfl, rfl, rfl, trivial⟩ (nx _ _ ?_ ?_)
                  · rw [zs.2]; split <;> omega
                  · rw [zs.1]; split <;> omega
                · refine AW.iload dX7_farthestRow_67 rfl ?_
                  refine AW.istore_n dX7_farthestRow_69 rfl ?_
                  refine AW.iload dX7_farthestRow_70 rfl ?_
                  refine AW.istore_n dX7_farthestRow_72 rfl ?_
                  refine AW.iincB dX7_farthestRow_73 rfl rfl (by omega) ?_
                  refine AW.goto (tgt := 7) dX7_farthestRow_76 rfl ?_
                  refine AW.locs [(4, vi ((j + 1 : Nat) : Int)), (3, vi _), (2, vi _), (1, vr (10, m, 0)), (0, vr mF)] ⟨rfl, rfl, rfl, rfl, rfl, trivial⟩ (nx _ _ ?_ ?_)
                  · rw [zs.2]; split <;> omega
                  · rw [zs.1]; split <;> omega
        · refine AW.iload dX7_farthestRow_7 rfl ?_
          refine AW.aload_n dX7_farthestRow_9 rfl ?_
          refine AW.getRE (j := 2) W.o dX7_farthestRow_10 lkX7_23 rfl rfl inC8 rfl W.r2 ?_
          refine AW.alen (t := 5) dX7_farthestRow_13 W.t2 (by decide) (by decide) ?_
          refine AW.icmp_ge (tgt := 79) dX7_farthestRow_14 rfl (fun c_14 => ?_) (fun c_14 => ?_)
          · exact absurd c_14 (by omega)
          · refine AW.aload_n dX7_farthestRow_17 rfl ?_
            refine AW.getRE (j := 2) W.o dX7_farthestRow_18 lkX7_23 rfl rfl inC8 rfl W.r2 ?_
            refine AW.iload dX7_farthestRow_21 rfl ?_
            refine AW.aldR (t := 5) dX7_farthestRow_23 W.t2 (by decide) rfl (by omega) (by omega) e3 ?_
            refine AW.astore dX7_farthestRow_24 rfl ?_
            refine AW.aload dX7_farthestRow_26 rfl ?_
            refine AW.ifnull (tgt := 73) dX7_farthestRow_28 rfl (fun c_28 => ?_) (fun n_28 c_28 => ?_)
            · exact absurd c_28 (by simp)
            · refine AW.aload dX7_farthestRow_31 rfl ?_
              refine AW.getRE (j := 0) RWr.o dX7_farthestRow_33 lkX7_302 rfl rfl inC4 rfl RWr.r0 ?_
              refine AW.aload_n dX7_farthestRow_36 rfl ?_
              refine AW.getRE (j := 0) WM.o dX7_farthestRow_37 lkX7_417 rfl rfl inC3 rfl WM.r0 ?_
              refine AW.acmp_ne (tgt := 73) dX7_farthestRow_40 rfl (fun c_40 => ?_) (fun c_40 => ?_)
              · refine AW.iincB dX7_farthestRow_73 rfl rfl (by omega) ?_
                refine AW.goto (tgt := 7) dX7_farthestRow_76 rfl ?_
                refine AW.locs [(4, vi ((j + 1 : Nat) : Int)), (3, vi (zfar Z m j)), (2, vi (znxA Z m j)), (1, vr (10, m, 0)), (0, vr mF)] ⟨rfl, rfl, rfl, rfl, rfl, trivial⟩ (nx _ _ ?_ ?_)
                · rw [zs.2, if_neg (fun z => ho z.1)]
                · rw [zs.1, if_neg (fun z => ho z.1)]
              · exact absurd (by have z := c_40; simp at z; omega) ho
      · rw [if_neg hi] at ej
        have e3 : hR h (3, 3, 0) (i : Int).toNat = none := by rw [Int.toNat_natCast, C.2 _ (by omega), if_neg (by omega)]
        refine AW.iload dX7_farthestRow_7 rfl ?_
        refine AW.aload_n dX7_farthestRow_9 rfl ?_
        refine AW.getRE (j := 2) W.o dX7_farthestRow_10 lkX7_23 rfl rfl inC8 rfl W.r2 ?_
        refine AW.alen (t := 5) dX7_farthestRow_13 W.t2 (by decide) (by decide) ?_
        refine AW.icmp_ge (tgt := 79) dX7_farthestRow_14 rfl (fun c_14 => ?_) (fun c_14 => ?_)
        · exact absurd c_14 (by omega)
        · refine AW.aload_n dX7_farthestRow_17 rfl ?_
          refine AW.getRE (j := 2) W.o dX7_farthestRow_18 lkX7_23 rfl rfl inC8 rfl W.r2 ?_
          refine AW.iload dX7_farthestRow_21 rfl ?_
          refine AW.aldR (t := 5) dX7_farthestRow_23 W.t2 (by decide) rfl (by omega) (by omega) e3 ?_
          refine AW.astore dX7_farthestRow_24 rfl ?_
          refine AW.aload dX7_farthestRow_26 rfl ?_
          refine AW.ifnull (tgt := 73) dX7_farthestRow_28 rfl (fun c_28 => ?_) (fun n_28 c_28 => ?_)
          · refine AW.iincB dX7_farthestRow_73 rfl rfl (by omega) ?_
            refine AW.goto (tgt := 7) dX7_farthestRow_76 rfl ?_
            exact AW.locs [(4, vi ((i + 1 : Nat) : Int)), (3, vi (zfar Z m j)), (2, vi (znxA Z m j)), (1, vr (10, m, 0)), (0, vr mF)] ⟨rfl, rfl, rfl, rfl, rfl, trivial⟩ (ih (i + 1) j (by omega) (by omega) (by rw [ej, if_neg (by omega)]))
          · exact absurd c_28 (by simp)
  refine AW.iconst dX7_farthestRow_0 (by decide) ?_
  refine AW.istore_n dX7_farthestRow_1 rfl ?_
  refine AW.iconst dX7_farthestRow_2 (by decide) ?_
  refine AW.istore_n dX7_farthestRow_3 rfl ?_
  refine AW.iconst dX7_farthestRow_4 (by decide) ?_
  refine AW.istore dX7_farthestRow_5 rfl ?_
  refine AW.locs [(4, vi ((0 : Nat) : Int)), (3, vi (zfar Z m 0)), (2, vi (znxA Z m 0)), (1, vr (10, m, 0)), (0, vr mF)] ⟨rfl, rfl, rfl, rfl, rfl, trivial⟩ (lp 20 0 0 (by omega) (by omega) (by split <;> omega))
end K1
