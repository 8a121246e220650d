/-! ===== the model: looks at drops; forms ===== -/
section M8
variable {Q : AH → AO → Prop} {h : AH} {Z : ZT}
def zlaS (Z : ZT) (s : Int) : Nat → ZT × Int
  | 0 => (Z, 0)
  | i + 1 => if ¬ (zlaS Z s i).1 1 s.toNat = 23 ∧ zhu (zlaS Z s i).1 s ((zlaS Z s i).1 12 (48 * s + (i : Int)).toNat) = 0 then (zdo (zlaS Z s i).1 s ((zlaS Z s i).1 12 (48 * s + (i : Int)).toNat), (zlaS Z s i).2)
    else (zs (zlaS Z s i).1 12 (48 * s + (zlaS Z s i).2).toNat ((zlaS Z s i).1 12 (48 * s + (i : Int)).toNat), (zlaS Z s i).2 + 1)
theorem zlaS_d {s : Int} {i : Nat} (c : ¬ (zlaS Z s i).1 1 s.toNat = 23 ∧ zhu (zlaS Z s i).1 s ((zlaS Z s i).1 12 (48 * s + (i : Int)).toNat) = 0) : zlaS Z s (i + 1) = (zdo (zlaS Z s i).1 s ((zlaS Z s i).1 12 (48 * s + (i : Int)).toNat), (zlaS Z s i).2) := by
  rw [zlaS]; rw [if_pos c]
theorem zlaS_n {s : Int} {i : Nat} (c : ¬ (¬ (zlaS Z s i).1 1 s.toNat = 23 ∧ zhu (zlaS Z s i).1 s ((zlaS Z s i).1 12 (48 * s + (i : Int)).toNat) = 0)) : zlaS Z s (i + 1) = (zs (zlaS Z s i).1 12 (48 * s + (zlaS Z s i).2).toNat ((zlaS Z s i).1 12 (48 * s + (i : Int)).toNat), (zlaS Z s i).2 + 1) := by
  rw [zlaS]; rw [if_neg c]
theorem zlaS_j {s : Int} : ∀ i : Nat, 0 ≤ (zlaS Z s i).2 ∧ (zlaS Z s i).2 ≤ i
  | 0 => ⟨by show (0 : Int) ≤ 0; omega, by show (0 : Int) ≤ 0; omega⟩
  | i + 1 => by
    have := zlaS_j (s := s) i
    rw [zlaS]; split <;> dsimp only <;> omega
theorem zlaS_BI {s : Int} (B : BI Z) (hs : 0 ≤ s ∧ s < 4) : ∀ i : Nat, BI (zlaS Z s i).1
  | 0 => B
  | i + 1 => by
    have B := zlaS_BI B hs i
    have b := B.1.2 s.toNat (by omega)
    have w := B.2.2.2.2.1 (48 * s + (i : Int)).toNat
    rw [zlaS]; split
    · next c => exact BI_zdo B (by omega) w
    · exact BI_z12 w B
def zla (Z : ZT) (s : Int) : ZT := zs (zlaS Z s (Z 11 s.toNat).toNat).1 11 s.toNat (zlaS Z s (Z 11 s.toNat).toNat).2
def zlaN (Z : ZT) (s : Int) : Int := Z 11 s.toNat - (zlaS Z s (Z 11 s.toNat).toNat).2
theorem BI_z11 {s : Nat} {v : Int} (hv : 0 ≤ v ∧ v ≤ 46) (B : BI Z) : BI (zs Z 11 s v) := by
  obtain ⟨b1, b2, b3, b4, b5, b6⟩ := B
  refine ⟨⟨b1.1, fun q hq => ?_⟩, fun j hm q => ?_, b3, b4, b5, b6⟩
  · have b := b1.2 q hq
    refine ⟨b.1, b.2.1, b.2.2.1, b.2.2.2.1, ?_⟩
    unfold zs; split
    · exact hv
    · exact b.2.2.2.2
  · unfold zs; rw [if_neg]
    · exact b2 j hm q
    · rintro ⟨rfl, -⟩; exact absurd hm (by decide)
theorem BI_zla {s : Int} (B : BI Z) (hs : 0 ≤ s ∧ s < 4) : BI (zla Z s) := by
  have b := B.1.2 s.toNat (by omega)
  have := zlaS_j (Z := Z) (s := s) (Z 11 s.toNat).toNat
  exact BI_z11 (by omega) (zlaS_BI B hs _)
set_option maxHeartbeats 1000000 in
theorem kX8_looksAtDrops {s : Int} {t : Nat → Int} (W : WfM h) (B : BI Z) (F : flg t) (hs : 0 ≤ s ∧ s < 4) (k : ∀ t, flg t → Q (mput h (zrow (zla Z s) 46 t)) (.inl (some (vi (zlaN Z s))))) : AC mX8_looksAtDrops fX8_looksAtDrops loX8_looksAtDrops 0 0 (mput h (zrow Z 46 t)) [vr mO, vi s] Q := by
  have b0 := B.1.2 s.toNat (by omega)
  refine AC.mk (by decide) (Nat.le_of_ble_eq_true rfl) ?_
  have lp : ∀ (m i : Nat) t, flg t → (i : Int) ≤ Z 11 s.toNat → Z 11 s.toNat ≤ i + m → AW mX8_looksAtDrops fX8_looksAtDrops loX8_looksAtDrops 0 0 Q 0 0 12 (mput h (zrow (zlaS Z s i).1 46 t)) [(4, vi (i : Int)), (3, vi (zlaS Z s i).2), (2, vi (Z 11 s.toNat)), (0, vr mO), (1, vi s)] [] := by
    intro m
    induction m with
    | zero =>
      intro i t F h1 h2
      have e : (Z 11 s.toNat).toNat = i := by omega
      have hj := zlaS_j (Z := Z) (s := s) i
      refine AW.iload dX8_looksAtDrops_12 rfl ?_
      refine AW.iload_n dX8_looksAtDrops_14 rfl ?_
      refine AW.icmp_ge (tgt := 82) dX8_looksAtDrops_15 rfl (fun c_15 => ?_) (fun c_15 => ?_)
      · refine AW.aload_n dX8_looksAtDrops_82 rfl ?_
        refine AW.mA 11 W dX8_looksAtDrops_83 lkX8_41 rfl rfl ?_
        refine AW.iload_n dX8_looksAtDrops_86 rfl ?_
        refine AW.iload_n dX8_looksAtDrops_87 rfl ?_
        refine AW.mst (j := 11) W dX8_looksAtDrops_88 rfl rfl (by simp only [mlen]; omega) ?_
        refine AW.iload_n dX8_looksAtDrops_89 rfl ?_
        refine AW.iload_n dX8_looksAtDrops_90 rfl ?_
        refine AW.isubB dX8_looksAtDrops_91 (by omega) ?_
        refine AW.iret dX8_looksAtDrops_92 rfl ?_
        have k := k t F
        unfold zla zlaN at k
        rw [e] at k
        refine finZ k ?_ rfl
        rw [zs_zrow_c rfl]
      · exact absurd c_15 (by omega)
    | succ m ih =>
      intro i t F h1 h2
      by_cases e : Z 11 s.toNat = (i : Int)
      · exact ih i t F h1 (by omega)
      have hj := zlaS_j (Z := Z) (s := s) i
      have B := zlaS_BI B hs i
      have b := B.1.2 s.toNat (by omega)
      have w := B.2.2.2.2.1 (48 * s + (i : Int)).toNat
      have kep : ∀ t x, flg t → ¬ (¬ (zlaS Z s i).1 1 s.toNat = 23 ∧ zhu (zlaS Z s i).1 s ((zlaS Z s i).1 12 (48 * s + (i : Int)).toNat) = 0) → x = (zlaS Z s i).1 12 (48 * s + (i : Int)).toNat → AW mX8_looksAtDrops fX8_looksAtDrops loX8_looksAtDrops 0 0 Q 0 0 60 (mput h (zrow (zlaS Z s i).1 46 t)) [(5, vi x), (4, vi (i : Int)), (3, vi (zlaS Z s i).2), (2, vi (Z 11 s.toNat)), (0, vr mO), (1, vi s)] [] := by
        intro t x F c ex
        refine AW.aload_n dX8_looksAtDrops_60 rfl ?_
        refine AW.mA 12 W dX8_looksAtDrops_61 lkX8_44 rfl rfl ?_
        refine AW.bipush dX8_looksAtDrops_64 bp_48 (by decide) ?_
        refine AW.iload_n dX8_looksAtDrops_66 rfl ?_
        refine AW.imulB dX8_looksAtDrops_67 (by omega) ?_
        refine AW.iload_n dX8_looksAtDrops_68 rfl ?_
        refine AW.iaddB dX8_looksAtDrops_69 (by omega) ?_
        refine AW.iload dX8_looksAtDrops_70 rfl ?_
        refine AW.mst (j := 12) W dX8_looksAtDrops_72 rfl rfl (by simp only [mlen]; omega) ?_
        refine AW.iincB dX8_looksAtDrops_73 rfl rfl (by omega) ?_
        refine AW.iincB dX8_looksAtDrops_76 rfl rfl (by omega) ?_
        refine AW.goto (tgt := 12) dX8_looksAtDrops_79 rfl ?_
        refine AW.locs [(4, vi ((i + 1 : Nat) : Int)), (3, vi (zlaS Z s (i + 1)).2), (2, vi (Z 11 s.toNat)), (0, vr mO), (1, vi s)] ⟨rfl, ?_, rfl, rfl, rfl, trivial⟩ (AW.mZ ?_ (ih (i + 1) t F (by omega) (by omega)))
        · rw [zlaS_n c]; rfl
        · rw [zs_zrow_c rfl, zlaS_n c, ex]
      refine AW.iload dX8_looksAtDrops_12 rfl ?_
      refine AW.iload_n dX8_looksAtDrops_14 rfl ?_
      refine AW.icmp_ge (tgt := 82) dX8_looksAtDrops_15 rfl (fun c_15 => ?_) (fun c_15 => ?_)
      · exact absurd c_15 (by omega)
      · refine AW.aload_n dX8_looksAtDrops_18 rfl ?_
        refine AW.mA 12 W dX8_looksAtDrops_19 lkX8_44 rfl rfl ?_
        refine AW.bipush dX8_looksAtDrops_22 bp_48 (by decide) ?_
        refine AW.iload_n dX8_looksAtDrops_24 rfl ?_
        refine AW.imulB dX8_looksAtDrops_25 (by omega) ?_
        refine AW.iload dX8_looksAtDrops_26 rfl ?_
        refine AW.iaddB dX8_looksAtDrops_28 (by omega) ?_
        refine AW.mldE (j := 12) W dX8_looksAtDrops_29 rfl rfl (by simp only [mlen]; omega) (by (repeat first | apply zs_ne rfl | apply zs_eq (by omega) | apply zs_miss (by omega) | apply zrow_ne rfl); exact rfl) ?_
        refine AW.istore dX8_looksAtDrops_30 rfl ?_
        refine AW.aload_n dX8_looksAtDrops_32 rfl ?_
        refine AW.iload_n dX8_looksAtDrops_33 rfl ?_
        refine AW.callV (as := [vi _]) dX8_looksAtDrops_34 rfl rfl rfl okX8_isLast lkX8_173 W.1 rfl rfl rfl rfl rfl rfl rfl (kX8_isLast W (by omega) (AW.k1 ?_))
        refine AW.if_ne (tgt := 60) dX8_looksAtDrops_37 rfl (fun c_37 => ?_) (fun c_37 => ?_)
        · first | exact AW.locs [(5, vi ((zlaS Z s i).1 12 (48 * s + (i : Int)).toNat)), (4, vi (i : Int)), (3, vi (zlaS Z s i).2), (2, vi (Z 11 s.toNat)), (0, vr mO), (1, vi s)] ⟨rfl, rfl, rfl, rfl, rfl, rfl, trivial⟩ (kep t _ F (fun z => z.1 (bz_n0.mp c_37)) rfl) | exact AW.locs [(5, vi ((zlaS Z s i).1 12 (48 * s + (i : Int)).toNat)), (4, vi (i : Int)), (3, vi (zlaS Z s i).2), (2, vi (Z 11 s.toNat)), (0, vr mO), (1, vi s)] ⟨rfl, rfl, rfl, rfl, rfl, rfl, trivial⟩ (kep t2 _ F2 (fun z => c_47 z.2) rfl)
        · refine AW.aload_n dX8_looksAtDrops_40 rfl ?_
          refine AW.iload_n dX8_looksAtDrops_41 rfl ?_
          refine AW.iload dX8_looksAtDrops_42 rfl ?_
          refine AW.callV (as := [vi _, vi _]) dX8_looksAtDrops_44 rfl rfl rfl okX8_isHeldUp lkX8_213 W.1 rfl rfl rfl rfl rfl rfl rfl (kX8_isHeldUp W B.2.2.1 B.1 B.2.2.2.1 F (by omega) w (fun t2 F2 => (AW.k1 ?_)))
          refine AW.if_ne (tgt := 60) dX8_looksAtDrops_47 rfl (fun c_47 => ?_) (fun c_47 => ?_)
          · first | exact AW.locs [(5, vi ((zlaS Z s i).1 12 (48 * s + (i : Int)).toNat)), (4, vi (i : Int)), (3, vi (zlaS Z s i).2), (2, vi (Z 11 s.toNat)), (0, vr mO), (1, vi s)] ⟨rfl, rfl, rfl, rfl, rfl, rfl, trivial⟩ (kep t _ F (fun z => z.1 (bz_n0.mp c_37)) rfl) | exact AW.locs [(5, vi ((zlaS Z s i).1 12 (48 * s + (i : Int)).toNat)), (4, vi (i : Int)), (3, vi (zlaS Z s i).2), (2, vi (Z 11 s.toNat)), (0, vr mO), (1, vi s)] ⟨rfl, rfl, rfl, rfl, rfl, rfl, trivial⟩ (kep t2 _ F2 (fun z => c_47 z.2) rfl)
          · refine AW.aload_n dX8_looksAtDrops_50 rfl ?_
            refine AW.iload_n dX8_looksAtDrops_51 rfl ?_
            refine AW.iload dX8_looksAtDrops_52 rfl ?_
            refine AW.callV (as := [vi _, vi _]) dX8_looksAtDrops_54 rfl rfl rfl okX8_dropsOut lkX8_216 W.1 rfl rfl rfl rfl rfl rfl rfl (kX8_dropsOut W (BI_zrow B F2) (by omega) w (by have c : ¬ (zlaS Z s i).1 1 s.toNat = 23 := bz_0.mp c_37; show (zlaS Z s i).1 1 s.toNat < 23; omega) (AW.k0 ?_))
            refine AW.goto (tgt := 76) dX8_looksAtDrops_57 rfl ?_
            refine AW.iincB dX8_looksAtDrops_76 rfl rfl (by omega) ?_
            refine AW.goto (tgt := 12) dX8_looksAtDrops_79 rfl ?_
            refine AW.locs [(4, vi ((i + 1 : Nat) : Int)), (3, vi (zlaS Z s (i + 1)).2), (2, vi (Z 11 s.toNat)), (0, vr mO), (1, vi s)] ⟨rfl, ?_, rfl, rfl, rfl, trivial⟩ (AW.mZ ?_ (ih (i + 1) t2 F2 (by omega) (by omega)))
            · rw [zlaS_d ⟨bz_0.mp c_37, c_47⟩]; rfl
            · rw [zdo_zrow, zlaS_d ⟨bz_0.mp c_37, c_47⟩]
  refine AW.aload_n dX8_looksAtDrops_0 rfl ?_
  refine AW.mA 11 W dX8_looksAtDrops_1 lkX8_41 rfl rfl ?_
  refine AW.iload_n dX8_looksAtDrops_4 rfl ?_
  refine AW.mldE (j := 11) W dX8_looksAtDrops_5 rfl rfl (by simp only [mlen]; omega) (by (repeat first | apply zs_ne rfl | apply zs_eq (by omega) | apply zs_miss (by omega) | apply zrow_ne rfl); exact rfl) ?_
  refine AW.istore_n dX8_looksAtDrops_6 rfl ?_
  refine AW.iconst dX8_looksAtDrops_7 (by decide) ?_
  refine AW.istore_n dX8_looksAtDrops_8 rfl ?_
  refine AW.iconst dX8_looksAtDrops_9 (by decide) ?_
  refine AW.istore dX8_looksAtDrops_10 rfl ?_
  exact lp (Z 11 s.toNat).toNat 0 t F (by omega) (by omega)
end M8
