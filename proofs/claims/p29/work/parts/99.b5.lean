/-! ===== the law's copies of rows ===== -/
section B5
variable {Q : AH → AO → Prop} {h g G : AH} {Z Y : ZT} {r rz : Nat} {mc ms bc bs : Nat} {loc : AL}
abbrev lcp (r i : Nat) : AL := [(5, vi (i : Int)), (0, vr (la 5)), (1, vr (la 6)), (2, vr (la 7)), (3, vi (r : Int)), (4, vi 4)]
set_option maxHeartbeats 2000000 in
theorem kL_copies (T : LT h) (hr : r < 4) (R : LR h Z r rz) (k : ∀ G, FR 4 h G → LR G Z 4 rz → Q G (.inl none)) : AC mL_copies fL_copies loL_copies 0 0 h [vr (la 5), vr (la 6), vr (la 7), vi (r : Int), vi 4] Q := by
  refine AC.mk (by decide) (Nat.le_of_ble_eq_true rfl) ?_
  have lz : ∀ (m i : Nat) (g : AH), 1 ≤ i → i ≤ 12 → 12 ≤ i + m → FR 4 h g → (∀ k : Nat, k < 10 → hI g (la 5) (10 * 4 + k) = Z 22 (48 * rz + k)) → hI g (la 6) (2 * 4) = Z 21 rz → hI g (la 6) (2 * 4 + 1) = Z 23 rz → (∀ w : Nat, 1 ≤ w → w < i → hL g (la 7) (13 * 4 + w) = Int64.ofInt (zbxv Z rz w)) →
      AW mL_copies fL_copies loL_copies 0 0 Q 0 0 64 g (lcp r i) [] := by
    intro m
    induction m with
    | zero =>
      intro i g h0 h1 h2 F q1 q2 q3 q4
      have e : i = 12 := by omega
      subst e
      refine AW.iload dL_copies_64 rfl ?_
      refine AW.bipush dL_copies_66 bp_12 (by decide) ?_
      refine AW.icmp_geT (tgt := 96) dL_copies_68 rfl (by omega) ?_
      refine AW.vret dL_copies_96 rfl ?_
      exact k g F ⟨q1, q2, q3, q4⟩
    | succ m ih =>
      intro i g h0 h1 h2 F q1 q2 q3 q4
      by_cases e : i = 12
      · exact ih i g h0 h1 (by omega) F q1 q2 q3 q4
      have T := F.1.T T
      have R2 : hL g (la 7) (13 * r + i) = Int64.ofInt (zbxv Z rz i) := (F.2.2.2 _ (by omega)).trans (R.z (w := i) h0 (by omega))
      have nx : AW mL_copies fL_copies loL_copies 0 0 Q 0 0 64 (sL g (la 7) (13 * 4 + i) (Int64.ofInt (zbxv Z rz i))) (lcp r (i + 1)) [] := ih (i + 1) _ (by omega) (by omega) (by omega) (F.w7 h0 (by omega)) q1 q2 q3 (fun w w1 w2 => by
        rw [hL_sLla]
        by_cases ew : w = i
        · rw [if_pos ⟨rfl, by omega⟩, ew]
        · rw [if_neg (by omega)]; exact q4 w w1 (by omega))
      refine AW.iload dL_copies_64 rfl ?_
      refine AW.bipush dL_copies_66 bp_12 (by decide) ?_
      refine AW.icmp_geF (tgt := 96) dL_copies_68 rfl (by omega) ?_
      refine AW.aload_n dL_copies_71 rfl ?_
      refine AW.bipush dL_copies_72 bp_13 (by decide) ?_
      refine AW.iload dL_copies_74 rfl ?_
      refine AW.imulB dL_copies_76 (by omega) ?_
      refine AW.iload dL_copies_77 rfl ?_
      refine AW.iaddB dL_copies_79 (by omega) ?_
      refine AW.aload_n dL_copies_80 rfl ?_
      refine AW.bipush dL_copies_81 bp_13 (by decide) ?_
      refine AW.iload_n dL_copies_83 rfl ?_
      refine AW.imulB dL_copies_84 (by omega) ?_
      refine AW.iload dL_copies_85 rfl ?_
      refine AW.iaddB dL_copies_87 (by omega) ?_
      refine AW.aldLE dL_copies_88 T.a7 (by omega) (by omega) (by exact hLx (by omega) R2) ?_
      refine AW.astL dL_copies_89 T.a7 (by omega) (by omega) ?_
      rw [show (13 * 4 + (i : Int)).toNat = 13 * 4 + i by omega]
      refine AW.iincB dL_copies_90 rfl rfl (by omega) ?_
      refine AW.goto (tgt := 64) dL_copies_93 rfl ?_
      exact AW.locs (lcp r (i + 1)) ⟨rfl, rfl, rfl, rfl, rfl, rfl, trivial⟩ nx
  have ly : ∀ (g : AH), FR 4 h g → (∀ k : Nat, k < 10 → hI g (la 5) (10 * 4 + k) = Z 22 (48 * rz + k)) → AW mL_copies fL_copies loL_copies 0 0 Q 0 0 35 g (lcp r 10) [] := by
    intro g F q1
    have T := F.1.T T
    have y0 : hI g (la 6) (2 * r) = Z 21 rz := (F.2.2.1 _ (by omega)).trans R.y0
    have y1 : hI g (la 6) (2 * r + 1) = Z 23 rz := (F.2.2.1 _ (by omega)).trans R.y1
    have F2 : FR 4 h (sI (sI g (la 6) (2 * 4) (Z 21 rz)) (la 6) (2 * 4 + 1) (Z 23 rz)) := (F.w6 (k := 0) (by decide)).w6 (k := 1) (by decide)
    have y2 : hI (sI g (la 6) (2 * 4) (Z 21 rz)) (la 6) (2 * r + 1) = Z 23 rz := by rw [hI_sIla, if_neg (by omega)]; exact y1
    refine AW.aload_n dL_copies_35 rfl ?_
    refine AW.iconst dL_copies_36 (by decide) ?_
    refine AW.iload dL_copies_37 rfl ?_
    refine AW.imulB dL_copies_39 (by omega) ?_
    refine AW.aload_n dL_copies_40 rfl ?_
    refine AW.iconst dL_copies_41 (by decide) ?_
    refine AW.iload_n dL_copies_42 rfl ?_
    refine AW.imulB dL_copies_43 (by omega) ?_
    refine AW.aldIE dL_copies_44 T.a6 (by omega) (by omega) (by exact hIx (by omega) y0) ?_
    refine AW.astI dL_copies_45 T.a6 (by omega) (by omega) ?_
    rw [show (2 * 4 : Int).toNat = 2 * 4 from rfl]
    refine AW.aload_n dL_copies_46 rfl ?_
    refine AW.iconst dL_copies_47 (by decide) ?_
    refine AW.iload dL_copies_48 rfl ?_
    refine AW.imulB dL_copies_50 (by omega) ?_
    refine AW.iconst dL_copies_51 (by decide) ?_
    refine AW.iaddB dL_copies_52 (by omega) ?_
    refine AW.aload_n dL_copies_53 rfl ?_
    refine AW.iconst dL_copies_54 (by decide) ?_
    refine AW.iload_n dL_copies_55 rfl ?_
    refine AW.imulB dL_copies_56 (by omega) ?_
    refine AW.iconst dL_copies_57 (by decide) ?_
    refine AW.iaddB dL_copies_58 (by omega) ?_
    refine AW.aldIE dL_copies_59 T.a6 (by omega) (by omega) (by exact hIx (by omega) y2) ?_
    refine AW.pcs (pc2 := 60) rfl ?_
    refine AW.astI dL_copies_60 T.a6 (by omega) (by omega) ?_
    rw [show (2 * 4 + 1 : Int).toNat = 2 * 4 + 1 from rfl]
    refine AW.iconst dL_copies_61 (by decide) ?_
    refine AW.istore dL_copies_62 rfl ?_
    exact AW.locs (lcp r 1) ⟨rfl, rfl, rfl, rfl, rfl, rfl, trivial⟩ (lz 11 1 _ (by omega) (by omega) (by omega) F2 (fun k hk => by rw [hI_sIla, if_neg (by omega), hI_sIla, if_neg (by omega)]; exact q1 k hk) (by rw [hI_sIla, if_neg (by omega), hI_sIla, if_pos ⟨rfl, rfl⟩]) (by rw [hI_sIla, if_pos ⟨rfl, rfl⟩]) (fun w w1 w2 => absurd w1 (by omega)))
  have lx : ∀ (m i : Nat) (g : AH), i ≤ 10 → 10 ≤ i + m → FR 4 h g → (∀ k : Nat, k < i → hI g (la 5) (10 * 4 + k) = Z 22 (48 * rz + k)) → AW mL_copies fL_copies loL_copies 0 0 Q 0 0 3 g (lcp r i) [] := by
    intro m
    induction m with
    | zero =>
      intro i g h1 h2 F q1
      have e : i = 10 := by omega
      subst e
      refine AW.iload dL_copies_3 rfl ?_
      refine AW.bipush dL_copies_5 bp_10 (by decide) ?_
      refine AW.icmp_geT (tgt := 35) dL_copies_7 rfl (by omega) ?_
      exact ly g F q1
    | succ m ih =>
      intro i g h1 h2 F q1
      by_cases e : i = 10
      · exact ih i g h1 (by omega) F q1
      have T := F.1.T T
      have R2 : hI g (la 5) (10 * r + i) = Z 22 (48 * rz + i) := (F.2.1 _ (by omega)).trans (R.x (by omega))
      have nx : AW mL_copies fL_copies loL_copies 0 0 Q 0 0 3 (sI g (la 5) (10 * 4 + i) (Z 22 (48 * rz + i))) (lcp r (i + 1)) [] := ih (i + 1) _ (by omega) (by omega) (F.w5 (by omega)) (fun k hk => by
        rw [hI_sIla]
        by_cases ek : k = i
        · rw [if_pos ⟨rfl, by omega⟩, ek]
        · rw [if_neg (by omega)]; exact q1 k (by omega))
      refine AW.iload dL_copies_3 rfl ?_
      refine AW.bipush dL_copies_5 bp_10 (by decide) ?_
      refine AW.icmp_geF (tgt := 35) dL_copies_7 rfl (by omega) ?_
      refine AW.aload_n dL_copies_10 rfl ?_
      refine AW.bipush dL_copies_11 bp_10 (by decide) ?_
      refine AW.iload dL_copies_13 rfl ?_
      refine AW.imulB dL_copies_15 (by omega) ?_
      refine AW.iload dL_copies_16 rfl ?_
      refine AW.iaddB dL_copies_18 (by omega) ?_
      refine AW.aload_n dL_copies_19 rfl ?_
      refine AW.bipush dL_copies_20 bp_10 (by decide) ?_
      refine AW.iload_n dL_copies_22 rfl ?_
      refine AW.imulB dL_copies_23 (by omega) ?_
      refine AW.iload dL_copies_24 rfl ?_
      refine AW.iaddB dL_copies_26 (by omega) ?_
      refine AW.aldIE dL_copies_27 T.a5 (by omega) (by omega) (by exact hIx (by omega) R2) ?_
      refine AW.astI dL_copies_28 T.a5 (by omega) (by omega) ?_
      rw [show (10 * 4 + (i : Int)).toNat = 10 * 4 + i by omega]
      refine AW.iincB dL_copies_29 rfl rfl (by omega) ?_
      refine AW.goto (tgt := 3) dL_copies_32 rfl ?_
      exact AW.locs (lcp r (i + 1)) ⟨rfl, rfl, rfl, rfl, rfl, rfl, trivial⟩ nx
  refine AW.iconst dL_copies_0 (by decide) ?_
  refine AW.istore dL_copies_1 rfl ?_
  exact AW.locs (lcp r 0) ⟨rfl, rfl, rfl, rfl, rfl, rfl, trivial⟩ (lx 10 0 h (by omega) (by omega) FR.rf (fun k hk => absurd hk (by omega)))
end B5
