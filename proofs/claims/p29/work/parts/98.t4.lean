/-! ===== the JDK's text methods, told by contracts ===== -/
section T4
variable {Q : AH → AO → Prop} {h : AH} {b i : Nat}
theorem bp_16t : ((Int8.ofInt (16)).toInt32 == Int32.ofInt (16)) = true := by decide +kernel
theorem sp_255t : ((Int16.ofInt (255)).toInt32 == Int32.ofInt (255)) = true := by decide +kernel
theorem and_255 {x : Int} (hx : 0 ≤ x ∧ x < 128) : (Int32.ofInt x &&& Int32.ofInt 255).toInt = x := by
  obtain ⟨n, rfl⟩ := Int.eq_ofNat_of_zero_le hx.1
  have : ∀ n : Fin 128, (Int32.ofInt ((n.val : Nat) : Int) &&& Int32.ofInt 255).toInt = ((n.val : Nat) : Int) := by decide +kernel
  exact this ⟨n, by omega⟩
abbrev nSb (b : Nat) : Nm := (96, b, 0)
abbrev nVb (b : Nat) : Nm := (96, b, 1)
/-- a builder of 16 letters at most -/
def SbW (h : AH) (b : Nat) : Prop := hT h (nSb b) = some (0, 0) ∧ hR h (nSb b) 0 = some (nVb b) ∧ hT h (nVb b) = some (30, 16) ∧ hI h (nSb b) 1 = 0
theorem kJ0_coder (hi : i < 7) (hW7 : WW h) (k : Q h (.inl (some (vi 0)))) : AC mJ0_coder_7d493 0 0 0 0 h [vr (nWs i)] Q := by
  refine AC.mk (by decide) (Nat.le_of_ble_eq_true rfl) ?_
  refine AW.getsC dJ0_coder_7d493_0 lkJ0_38 ?_
  refine AW.if_eq (tgt := 13) dJ0_coder_7d493_3 rfl (fun c => absurd c (by decide)) (fun _ => ?_)
  refine AW.aload_n dJ0_coder_7d493_6 rfl ?_
  refine AW.strC hi hW7 dJ0_coder_7d493_7 lkJ0_15 ?_
  refine AW.goto (tgt := 14) dJ0_coder_7d493_10 rfl ?_
  exact AW.bret dJ0_coder_7d493_14 rfl ⟨by omega, by omega⟩ k
theorem kJ0_length (hi : i < 7) (hW7 : WW h) (k : Q h (.inl (some (vi ((wln.getD i 0 : Nat) : Int))))) : AC mJ0_length_8abf5 1 20 0 0 h [vr (nWs i)] Q := by
  refine AC.mk (by decide) (Nat.le_of_ble_eq_true rfl) ?_
  refine AW.aload_n dJ0_length_8abf5_0 rfl ?_
  refine AW.strV hi hW7 dJ0_length_8abf5_1 lkJ0_9 ?_
  refine AW.alenW hi hW7 dJ0_length_8abf5_4 ?_
  refine AW.aload_n dJ0_length_8abf5_5 rfl ?_
  refine AW.callW (as := []) hi hW7 dJ0_length_8abf5_6 rfl rfl rfl okJ0_coder_7d493 lkJ0_335 rfl rfl rfl rfl rfl rfl (kJ0_coder hi hW7 (AW.k1 ?_))
  refine AW.ishr0 dJ0_length_8abf5_9 ?_
  exact AW.iret dJ0_length_8abf5_10 rfl k
theorem kJ5_isLatin1 (S : SbW h b) (k : Q h (.inl (some (vi 1)))) : AC mJ5_isLatin1_aae02 0 0 0 0 h [vr (nSb b)] Q := by
  refine AC.mk (by decide) (Nat.le_of_ble_eq_true rfl) ?_
  refine AW.getsC dJ5_isLatin1_aae02_0 lkJ5_18 ?_
  refine AW.if_eq (tgt := 17) dJ5_isLatin1_aae02_3 rfl (fun c => absurd c (by decide)) (fun _ => ?_)
  refine AW.aload_n dJ5_isLatin1_aae02_6 rfl ?_
  refine AW.getIE (j := 1) S.1 dJ5_isLatin1_aae02_7 lkJ5_22 rfl rfl inC0 rfl S.2.2.2 ?_
  refine AW.if_ne (tgt := 17) dJ5_isLatin1_aae02_10 rfl (fun c => absurd rfl c) (fun _ => ?_)
  refine AW.iconst dJ5_isLatin1_aae02_13 (by decide) ?_
  refine AW.goto (tgt := 18) dJ5_isLatin1_aae02_14 rfl ?_
  exact AW.zret dJ5_isLatin1_aae02_18 rfl (Or.inr rfl) k
theorem kJ5_ensure {q : Int} (S : SbW h b) (hq0 : 0 ≤ q) (hq : q ≤ 16) (k : Q h (.inl none)) : AC mJ5_ensureCapacityInternal_d00df 0 0 0 0 h [vr (nSb b), vi q] Q := by
  refine AC.mk (by decide) (Nat.le_of_ble_eq_true rfl) ?_
  refine AW.aload_n dJ5_ensureCapacityInternal_d00df_0 rfl ?_
  refine AW.getRE (j := 0) S.1 dJ5_ensureCapacityInternal_d00df_1 lkJ5_15 rfl rfl inC0 rfl S.2.1 ?_
  refine AW.alen (t := 10) dJ5_ensureCapacityInternal_d00df_4 S.2.2.1 (by omega) (by omega) ?_
  refine AW.aload_n dJ5_ensureCapacityInternal_d00df_5 rfl ?_
  refine AW.getIE (j := 1) S.1 dJ5_ensureCapacityInternal_d00df_6 lkJ5_22 rfl rfl inC0 rfl S.2.2.2 ?_
  refine AW.ishr0 dJ5_ensureCapacityInternal_d00df_9 ?_
  refine AW.istore_n dJ5_ensureCapacityInternal_d00df_10 rfl ?_
  refine AW.iload_n dJ5_ensureCapacityInternal_d00df_11 rfl ?_
  refine AW.iload_n dJ5_ensureCapacityInternal_d00df_12 rfl ?_
  refine AW.isubB dJ5_ensureCapacityInternal_d00df_13 (by omega) ?_
  refine AW.if_le (tgt := 38) dJ5_ensureCapacityInternal_d00df_14 rfl (fun _ => ?_) (fun c => absurd c (by omega))
  exact AW.vret dJ5_ensureCapacityInternal_d00df_38 rfl k
theorem kJ5_inflateIf (hi : i < 7) (hW7 : WW h) (S : SbW h b) (k : Q h (.inl none)) : AC mJ5_inflateIfNeededFor_a7421 1 20 0 0 h [vr (nSb b), vr (nWs i)] Q := by
  refine AC.mk (by decide) (Nat.le_of_ble_eq_true rfl) ?_
  refine AW.getsC dJ5_inflateIfNeededFor_a7421_0 lkJ5_18 ?_
  refine AW.if_eq (tgt := 21) dJ5_inflateIfNeededFor_a7421_3 rfl (fun c => absurd c (by decide)) (fun _ => ?_)
  refine AW.aload_n dJ5_inflateIfNeededFor_a7421_6 rfl ?_
  refine AW.getIE (j := 1) S.1 dJ5_inflateIfNeededFor_a7421_7 lkJ5_22 rfl rfl inC0 rfl S.2.2.2 ?_
  refine AW.aload_n dJ5_inflateIfNeededFor_a7421_10 rfl ?_
  refine AW.callW (as := []) hi hW7 dJ5_inflateIfNeededFor_a7421_11 rfl rfl rfl okJ0_coder_7d493 lkJ5_40 rfl rfl rfl rfl rfl rfl (kJ0_coder hi hW7 (AW.k1 ?_))
  refine AW.icmp_eq (tgt := 21) dJ5_inflateIfNeededFor_a7421_14 rfl (fun _ => ?_) (fun c => absurd rfl c)
  exact AW.vret dJ5_inflateIfNeededFor_a7421_21 rfl k
theorem kJ0_getBytes {n : Nm} {len : Nat} (hi : i < 7) (hW7 : WW h) (hb : hT h n = some (30, len)) (h6 : wln.getD i 0 ≤ len) (hlen : len < 2147483648) (k : Q (hfl h n (wlt i) (wln.getD i 0)) (.inl none)) : AC mJ0_getBytes_840e7 1 120 0 0 h [vr (nWs i), vr n, vi 0, vi 0] Q := by
  refine AC.mk (by decide) (Nat.le_of_ble_eq_true rfl) ?_
  refine AW.aload_n dJ0_getBytes_840e7_0 rfl ?_
  refine AW.callW (as := []) hi hW7 dJ0_getBytes_840e7_1 rfl rfl rfl okJ0_coder_7d493 lkJ0_335 rfl rfl rfl rfl rfl rfl (kJ0_coder hi hW7 (AW.k1 ?_))
  refine AW.iload_n dJ0_getBytes_840e7_4 rfl ?_
  refine AW.icmp_ne (tgt := 28) dJ0_getBytes_840e7_5 rfl (fun c => absurd rfl c) (fun _ => ?_)
  refine AW.aload_n dJ0_getBytes_840e7_8 rfl ?_
  refine AW.strV hi hW7 dJ0_getBytes_840e7_9 lkJ0_9 ?_
  refine AW.iconst dJ0_getBytes_840e7_12 (by decide) ?_
  refine AW.aload_n dJ0_getBytes_840e7_13 rfl ?_
  refine AW.iload_n dJ0_getBytes_840e7_14 rfl ?_
  refine AW.iload_n dJ0_getBytes_840e7_15 rfl ?_
  refine AW.ishl0 dJ0_getBytes_840e7_16 ?_
  refine AW.aload_n dJ0_getBytes_840e7_17 rfl ?_
  refine AW.strV hi hW7 dJ0_getBytes_840e7_18 lkJ0_9 ?_
  refine AW.alenW hi hW7 dJ0_getBytes_840e7_21 ?_
  refine AW.acopyW hi hW7 dJ0_getBytes_840e7_22 lkJ0_212 ac1 ac2 iniSystem hb h6 hlen rfl rfl rfl ?_
  refine AW.goto (tgt := 43) dJ0_getBytes_840e7_25 rfl ?_
  exact AW.vret dJ0_getBytes_840e7_43 rfl k
theorem kJ5_putStringAt (hi : i < 7) (hW7 : WW h) (S : SbW h b) (k : Q (hfl h (nVb b) (wlt i) (wln.getD i 0)) (.inl none)) : AC mJ5_putStringAt_47b60 2 143 0 0 h [vr (nSb b), vi 0, vr (nWs i)] Q := by
  have w7 : wln.getD i 0 < 7 := wln_b
  refine AC.mk (by decide) (Nat.le_of_ble_eq_true rfl) ?_
  refine AW.aload_n dJ5_putStringAt_47b60_0 rfl ?_
  refine AW.aload_n dJ5_putStringAt_47b60_1 rfl ?_
  refine AW.callU (as := [vr _]) dJ5_putStringAt_47b60_2 rfl rfl rfl okuJ5_inflateIf lkJ5_397 (Or.inr (List.mem_cons_of_mem _ (List.mem_cons_of_mem _ List.mem_cons_self))) S.1 rfl rfl rfl rfl rfl (kJ5_inflateIf hi hW7 S (AW.k0 ?_))
  refine AW.aload_n dJ5_putStringAt_47b60_5 rfl ?_
  refine AW.aload_n dJ5_putStringAt_47b60_6 rfl ?_
  refine AW.getRE (j := 0) S.1 dJ5_putStringAt_47b60_7 lkJ5_15 rfl rfl inC0 rfl S.2.1 ?_
  refine AW.iload_n dJ5_putStringAt_47b60_10 rfl ?_
  refine AW.aload_n dJ5_putStringAt_47b60_11 rfl ?_
  refine AW.getIE (j := 1) S.1 dJ5_putStringAt_47b60_12 lkJ5_22 rfl rfl inC0 rfl S.2.2.2 ?_
  refine AW.callW (as := [vr _, vi _, vi _]) hi hW7 dJ5_putStringAt_47b60_15 rfl rfl rfl okJ0_getBytes_840e7 lkJ5_399 rfl rfl rfl rfl rfl rfl (kJ0_getBytes hi hW7 S.2.2.1 (by omega) (by omega) (AW.k0 ?_))
  exact AW.vret dJ5_putStringAt_47b60_18 rfl k
theorem kJ5_appendS (hi : i < 7) (hW7 : WW h) (S : SbW h b) (h0 : hI h (nSb b) 3 = 0) (k : Q (sI (hfl h (nVb b) (wlt i) (wln.getD i 0)) (nSb b) 3 (0 + ((wln.getD i 0 : Nat) : Int))) (.inl (some (vr (nSb b))))) : AC mJ5_append_cf1ce 3 165 0 0 h [vr (nSb b), vr (nWs i)] Q := by
  have w7 : wln.getD i 0 < 7 := wln_b
  refine AC.mk (by decide) (Nat.le_of_ble_eq_true rfl) ?_
  refine AW.aload_n dJ5_append_cf1ce_0 rfl ?_
  refine AW.ifnonnull (tgt := 9) dJ5_append_cf1ce_1 rfl (fun _ _ => ?_) (fun c => by cases c)
  refine AW.aload_n dJ5_append_cf1ce_9 rfl ?_
  refine AW.callW (as := []) hi hW7 dJ5_append_cf1ce_10 rfl rfl rfl okJ0_length_8abf5 lkJ5_32 rfl rfl rfl rfl rfl rfl (kJ0_length hi hW7 (AW.k1 ?_))
  refine AW.istore_n dJ5_append_cf1ce_13 rfl ?_
  refine AW.aload_n dJ5_append_cf1ce_14 rfl ?_
  refine AW.aload_n dJ5_append_cf1ce_15 rfl ?_
  refine AW.getIE (j := 3) S.1 dJ5_append_cf1ce_16 lkJ5_79 rfl rfl inC0 rfl h0 ?_
  refine AW.iload_n dJ5_append_cf1ce_19 rfl ?_
  refine AW.iaddB dJ5_append_cf1ce_20 (by omega) ?_
  refine AW.callU (as := [vi _]) dJ5_append_cf1ce_21 rfl rfl rfl okuJ5_ensure lkJ5_100 (Or.inr (List.mem_cons_self)) S.1 rfl rfl rfl rfl rfl (kJ5_ensure S (by omega) (by omega) (AW.k0 ?_))
  refine AW.aload_n dJ5_append_cf1ce_24 rfl ?_
  refine AW.aload_n dJ5_append_cf1ce_25 rfl ?_
  refine AW.getIE (j := 3) S.1 dJ5_append_cf1ce_26 lkJ5_79 rfl rfl inC0 rfl h0 ?_
  refine AW.aload_n dJ5_append_cf1ce_29 rfl ?_
  refine AW.callU (as := [vi _, vr _]) dJ5_append_cf1ce_30 rfl rfl rfl okuJ5_putStringAt lkJ5_208 (Or.inr (List.mem_cons_of_mem _ List.mem_cons_self)) S.1 rfl rfl rfl rfl rfl (kJ5_putStringAt hi hW7 S (AW.k0 ?_))
  refine AW.aload_n dJ5_append_cf1ce_33 rfl ?_
  refine AW.dup dJ5_append_cf1ce_34 rfl ?_
  refine AW.getIE (j := 3) S.1 dJ5_append_cf1ce_35 lkJ5_79 rfl rfl inC0 rfl (hfl_n3 rfl h0) ?_
  refine AW.iload_n dJ5_append_cf1ce_38 rfl ?_
  refine AW.iaddB dJ5_append_cf1ce_39 (by omega) ?_
  refine AW.putI (j := 3) dJ5_append_cf1ce_40 S.1 rfl rfl inC0 lkJ5_79 rfl (Or.inl rfl) (Or.inl rfl) ?_
  refine AW.aload_n dJ5_append_cf1ce_43 rfl ?_
  exact AW.aret dJ5_append_cf1ce_44 rfl k
theorem kJ4_appendS (hi : i < 7) (hW7 : WW h) (S : SbW h b) (h0 : hI h (nSb b) 3 = 0) (k : Q (sI (hfl h (nVb b) (wlt i) (wln.getD i 0)) (nSb b) 3 (0 + ((wln.getD i 0 : Nat) : Int))) (.inl (some (vr (nSb b))))) : AC mJ4_append_15ec4 4 187 0 0 h [vr (nSb b), vr (nWs i)] Q := by
  refine AC.mk (by decide) (Nat.le_of_ble_eq_true rfl) ?_
  refine AW.aload_n dJ4_append_15ec4_0 rfl ?_
  refine AW.aload_n dJ4_append_15ec4_1 rfl ?_
  refine AW.callSU (as := [vr _]) dJ4_append_15ec4_2 rfl rfl rfl rfl rfl okuJ5_append_cf1ce lkJ4_29 (by decide) S.1 rfl rfl rfl rfl rfl (kJ5_appendS hi hW7 S h0 (AW.k1 ?_))
  refine AW.pop dJ4_append_15ec4_5 rfl ?_
  refine AW.aload_n dJ4_append_15ec4_6 rfl ?_
  exact AW.aret dJ4_append_15ec4_7 rfl k
theorem kJ1_canEncode {c : Int} (hc : 0 ≤ c ∧ c < 128) (k : Q h (.inl (some (vi 1)))) : AC mJ1_canEncode_fc78d 0 0 0 0 h [vi c] Q := by
  refine AC.mk (by decide) (Nat.le_of_ble_eq_true rfl) ?_
  refine AW.iload_n dJ1_canEncode_fc78d_0 rfl ?_
  refine AW.sipush dJ1_canEncode_fc78d_1 sp_255t (by decide) ?_
  refine AW.icmp_gt (tgt := 11) dJ1_canEncode_fc78d_4 rfl (fun c => absurd c (by omega)) (fun _ => ?_)
  refine AW.iconst dJ1_canEncode_fc78d_7 (by decide) ?_
  refine AW.goto (tgt := 12) dJ1_canEncode_fc78d_8 rfl ?_
  exact AW.zret dJ1_canEncode_fc78d_12 rfl (Or.inr rfl) k
theorem kJ5_appendC {c : Int} {L : Nat} (S : SbW h b) (hL : hI h (nSb b) 3 = (L : Int)) (hl : L < 16) (hc : 0 ≤ c ∧ c < 128) (k : Q (sI (sI h (nSb b) 3 ((L : Int) + 1)) (nVb b) L c) (.inl (some (vr (nSb b))))) : AC mJ5_append_3fe6f 1 22 0 0 h [vr (nSb b), vi c] Q := by
  refine AC.mk (by decide) (Nat.le_of_ble_eq_true rfl) ?_
  refine AW.aload_n dJ5_append_3fe6f_0 rfl ?_
  refine AW.aload_n dJ5_append_3fe6f_1 rfl ?_
  refine AW.getIE (j := 3) S.1 dJ5_append_3fe6f_2 lkJ5_79 rfl rfl inC0 rfl hL ?_
  refine AW.iconst dJ5_append_3fe6f_5 (by decide) ?_
  refine AW.iaddB dJ5_append_3fe6f_6 (by omega) ?_
  refine AW.callU (as := [vi _]) dJ5_append_3fe6f_7 rfl rfl rfl okuJ5_ensure lkJ5_100 (Or.inr (List.mem_cons_self)) S.1 rfl rfl rfl rfl rfl (kJ5_ensure S (by omega) (by omega) (AW.k0 ?_))
  refine AW.aload_n dJ5_append_3fe6f_10 rfl ?_
  refine AW.callU (as := []) dJ5_append_3fe6f_11 rfl rfl rfl okuJ5_isLatin1 lkJ5_83 (Or.inl slJ5_isLatin1_aae02) S.1 rfl rfl rfl rfl rfl (kJ5_isLatin1 S (AW.k1 ?_))
  refine AW.if_eq (tgt := 45) dJ5_append_3fe6f_14 rfl (fun c => absurd c (by decide)) (fun _ => ?_)
  refine AW.iload_n dJ5_append_3fe6f_17 rfl ?_
  refine AW.callSG (as := [vi _]) dJ5_append_3fe6f_18 rfl rfl rfl okJ1_canEncode_fc78d lkJ5_191 rfl rfl rfl rfl rfl (kJ1_canEncode hc (AW.k1 ?_))
  refine AW.if_eq (tgt := 45) dJ5_append_3fe6f_21 rfl (fun c => absurd c (by decide)) (fun _ => ?_)
  refine AW.aload_n dJ5_append_3fe6f_24 rfl ?_
  refine AW.getRE (j := 0) S.1 dJ5_append_3fe6f_25 lkJ5_15 rfl rfl inC0 rfl S.2.1 ?_
  refine AW.aload_n dJ5_append_3fe6f_28 rfl ?_
  refine AW.dup dJ5_append_3fe6f_29 rfl ?_
  refine AW.getIE (j := 3) S.1 dJ5_append_3fe6f_30 lkJ5_79 rfl rfl inC0 rfl hL ?_
  refine AW.dupx1 dJ5_append_3fe6f_33 rfl rfl ?_
  refine AW.iconst dJ5_append_3fe6f_34 (by decide) ?_
  refine AW.iaddB dJ5_append_3fe6f_35 (by omega) ?_
  refine AW.putI (j := 3) dJ5_append_3fe6f_36 S.1 rfl rfl inC0 lkJ5_79 rfl (Or.inl rfl) (Or.inl rfl) ?_
  refine AW.iload_n dJ5_append_3fe6f_39 rfl ?_
  refine AW.i2b dJ5_append_3fe6f_40 hc ?_
  refine AW.bst dJ5_append_3fe6f_41 S.2.2.1 (by omega) (by omega) hc ?_
  refine AW.goto (tgt := 75) dJ5_append_3fe6f_42 rfl ?_
  refine AW.aload_n dJ5_append_3fe6f_75 rfl ?_
  exact AW.aret dJ5_append_3fe6f_76 rfl k
theorem kJ4_appendC {c : Int} {L : Nat} (S : SbW h b) (hL : hI h (nSb b) 3 = (L : Int)) (hl : L < 16) (hc : 0 ≤ c ∧ c < 128) (k : Q (sI (sI h (nSb b) 3 ((L : Int) + 1)) (nVb b) L c) (.inl (some (vr (nSb b))))) : AC mJ4_append_cf468 2 43 0 0 h [vr (nSb b), vi c] Q := by
  refine AC.mk (by decide) (Nat.le_of_ble_eq_true rfl) ?_
  refine AW.aload_n dJ4_append_cf468_0 rfl ?_
  refine AW.iload_n dJ4_append_cf468_1 rfl ?_
  refine AW.callSU (as := [vi _]) dJ4_append_cf468_2 rfl rfl rfl rfl rfl okuJ5_append_3fe6f lkJ4_50 (by decide) S.1 rfl rfl rfl rfl rfl (kJ5_appendC S hL hl hc (AW.k1 ?_))
  refine AW.pop dJ4_append_cf468_5 rfl ?_
  refine AW.aload_n dJ4_append_cf468_6 rfl ?_
  exact AW.aret dJ4_append_cf468_7 rfl k
theorem kJ4_length {L : Int} (S : SbW h b) (hL : hI h (nSb b) 3 = L) (k : Q h (.inl (some (vi L)))) : AC mJ4_length_8abf5 1 20 0 0 h [vr (nSb b)] Q := by
  have k5 : ∀ {Q : AH → AO → Prop}, Q h (.inl (some (vi L))) → AC mJ5_length_8abf5 0 0 0 0 h [vr (nSb b)] Q := by
    intro Q k
    refine AC.mk (by decide) (Nat.le_of_ble_eq_true rfl) ?_
    refine AW.aload_n dJ5_length_8abf5_0 rfl ?_
    refine AW.getIE (j := 3) S.1 dJ5_length_8abf5_1 lkJ5_79 rfl rfl inC0 rfl hL ?_
    exact AW.iret dJ5_length_8abf5_4 rfl k
  refine AC.mk (by decide) (Nat.le_of_ble_eq_true rfl) ?_
  refine AW.aload_n dJ4_length_8abf5_0 rfl ?_
  refine AW.callSU (as := []) dJ4_length_8abf5_1 rfl rfl rfl rfl rfl okuJ5_length lkJ4_343 (by decide) S.1 rfl rfl rfl rfl rfl (k5 (AW.k1 ?_))
  exact AW.iret dJ4_length_8abf5_4 rfl k
theorem kJ0_checkIndex {x y : Int} (hx : 0 ≤ x) (hy : x < y) (k : Q h (.inl none)) : AC mJ0_checkIndex_df160 1 22 0 0 h [vi x, vi y] Q := by
  refine AC.mk (by decide) (Nat.le_of_ble_eq_true rfl) ?_
  refine AW.iload_n dJ0_checkIndex_df160_0 rfl ?_
  refine AW.iload_n dJ0_checkIndex_df160_1 rfl ?_
  refine AW.chk dJ0_checkIndex_df160_2 dJ0_checkIndex_df160_5 rfl lkJ0_1053 lkJ0_1059 hx hy rfl rfl rfl ?_
  refine AW.pop dJ0_checkIndex_df160_8 rfl ?_
  exact AW.vret dJ0_checkIndex_df160_9 rfl k
theorem kJ5_charAt {x : Int} {L : Nat} (S : SbW h b) (hL : hI h (nSb b) 3 = (L : Int)) (hl : L ≤ 16) (hx : 0 ≤ x) (hy : x < (L : Int)) (hb : 0 ≤ hI h (nVb b) x.toNat ∧ hI h (nVb b) x.toNat < 128) (k : Q h (.inl (some (vi (hI h (nVb b) x.toNat))))) : AC mJ5_charAt_5068e 2 43 0 0 h [vr (nSb b), vi x] Q := by
  refine AC.mk (by decide) (Nat.le_of_ble_eq_true rfl) ?_
  refine AW.aload_n dJ5_charAt_5068e_0 rfl ?_
  refine AW.getIE (j := 1) S.1 dJ5_charAt_5068e_1 lkJ5_22 rfl rfl inC0 rfl S.2.2.2 ?_
  refine AW.istore_n dJ5_charAt_5068e_4 rfl ?_
  refine AW.aload_n dJ5_charAt_5068e_5 rfl ?_
  refine AW.getRE (j := 0) S.1 dJ5_charAt_5068e_6 lkJ5_15 rfl rfl inC0 rfl S.2.1 ?_
  refine AW.astore_n dJ5_charAt_5068e_9 rfl ?_
  refine AW.aload_n dJ5_charAt_5068e_10 rfl ?_
  refine AW.getIE (j := 3) S.1 dJ5_charAt_5068e_11 lkJ5_79 rfl rfl inC0 rfl hL ?_
  refine AW.aload_n dJ5_charAt_5068e_14 rfl ?_
  refine AW.alen (t := 10) dJ5_charAt_5068e_15 S.2.2.1 (by omega) (by omega) ?_
  refine AW.iload_n dJ5_charAt_5068e_16 rfl ?_
  refine AW.ishr0 dJ5_charAt_5068e_17 ?_
  refine AW.mmin dJ5_charAt_5068e_18 lkJ5_138 mn1 iniMath mn2 rfl rfl rfl ?_
  refine AW.istore dJ5_charAt_5068e_21 rfl ?_
  refine AW.iload_n dJ5_charAt_5068e_23 rfl ?_
  refine AW.iload dJ5_charAt_5068e_24 rfl ?_
  refine AW.callSG (as := [vi _, vi _]) dJ5_charAt_5068e_26 rfl rfl rfl okJ0_checkIndex_df160 lkJ5_144 rfl rfl rfl rfl rfl (kJ0_checkIndex hx (by omega) (AW.k0 ?_))
  refine AW.iload_n dJ5_charAt_5068e_29 rfl ?_
  refine AW.if_ne (tgt := 42) dJ5_charAt_5068e_30 rfl (fun c => absurd rfl c) (fun _ => ?_)
  refine AW.aload_n dJ5_charAt_5068e_33 rfl ?_
  refine AW.iload_n dJ5_charAt_5068e_34 rfl ?_
  refine AW.bld dJ5_charAt_5068e_35 S.2.2.1 hx (by omega) ?_
  refine AW.sipush dJ5_charAt_5068e_36 sp_255t (by decide) ?_
  refine AW.iand dJ5_charAt_5068e_39 ?_
  refine AW.top (and_255 hb) ?_
  refine AW.i2c dJ5_charAt_5068e_40 (by omega) ?_
  exact AW.cret dJ5_charAt_5068e_41 rfl (by omega) k
theorem kJ4_charAt {x : Int} {L : Nat} (S : SbW h b) (hL : hI h (nSb b) 3 = (L : Int)) (hl : L ≤ 16) (hx : 0 ≤ x) (hy : x < (L : Int)) (hb : 0 ≤ hI h (nVb b) x.toNat ∧ hI h (nVb b) x.toNat < 128) (k : Q h (.inl (some (vi (hI h (nVb b) x.toNat))))) : AC mJ4_charAt_5068e 3 67 0 0 h [vr (nSb b), vi x] Q := by
  refine AC.mk (by decide) (Nat.le_of_ble_eq_true rfl) ?_
  refine AW.aload_n dJ4_charAt_5068e_0 rfl ?_
  refine AW.iload_n dJ4_charAt_5068e_1 rfl ?_
  refine AW.callSU (as := [vi _]) dJ4_charAt_5068e_2 rfl rfl rfl rfl rfl okuJ5_charAt lkJ4_329 (by decide) S.1 rfl rfl rfl rfl rfl (kJ5_charAt S hL hl hx hy hb (AW.k1 ?_))
  exact AW.cret dJ4_charAt_5068e_5 rfl (by omega) k
theorem kJ4_init (hn : hT h (nSb b) = some (0, 0)) (hv : hT h (nVb b) = none) (k : Q (sI (sR (aN h (nVb b) 30 16) (nSb b) 0 (some (nVb b))) (nSb b) 1 0) (.inl none)) : AC mJ4_init_da8c8 2 41 1 16 h [vr (nSb b)] Q := by
  have hn2 : hT (aN h (nVb b) 30 16) (nSb b) = some (0, 0) := by rw [hT_aN, if_neg (fun z => by cases z), hn]
  have k5 : ∀ {Q : AH → AO → Prop}, Q (sI (sR (aN h (nVb b) 30 16) (nSb b) 0 (some (nVb b))) (nSb b) 1 0) (.inl none) → AC mJ5_init_d00df 1 20 1 16 h [vr (nSb b), vi 16] Q := by
    intro Q k
    refine AC.mk (by decide) (Nat.le_of_ble_eq_true rfl) ?_
    refine AW.aload_n dJ5_init_d00df_0 rfl ?_
    refine AW.objInit dJ5_init_d00df_1 lkJ5_3 oi1 oi2 rfl rfl rfl ?_
    refine AW.getsC dJ5_init_d00df_4 lkJ5_18 ?_
    refine AW.if_eq (tgt := 25) dJ5_init_d00df_7 rfl (fun c => absurd c (by decide)) (fun _ => ?_)
    refine AW.aload_n dJ5_init_d00df_10 rfl ?_
    refine AW.iload_n dJ5_init_d00df_11 rfl ?_
    refine AW.newa (t := 10) (N := 16) (nVb b) hv dJ5_init_d00df_12 (by decide) rfl arc_byte rfl (by decide) (by decide) (by intro C e; cases e) rfl rfl ?_
    refine AW.putR (kc := 0) (len := 0) (j := 0) dJ5_init_d00df_14 hn2 rfl rfl inC0 lkJ5_15 rfl (Or.inl rfl) ?_
    refine AW.aload_n dJ5_init_d00df_17 rfl ?_
    refine AW.iconst dJ5_init_d00df_18 (by decide) ?_
    refine AW.putB (kc := 0) (len := 0) (j := 1) dJ5_init_d00df_19 hn2 rfl rfl inC0 lkJ5_22 rfl rfl (by omega) ?_
    refine AW.goto (tgt := 38) dJ5_init_d00df_22 rfl ?_
    exact AW.vret dJ5_init_d00df_38 rfl k
  refine AC.mk (by decide) (Nat.le_of_ble_eq_true rfl) ?_
  refine AW.aload_n dJ4_init_da8c8_0 rfl ?_
  refine AW.bipush dJ4_init_da8c8_1 bp_16t (by decide) ?_
  refine AW.callI (as := [vi _]) dJ4_init_da8c8_3 rfl rfl rfl okJ5_init_d00df lkJ4_1 rfl rfl rfl rfl rfl (k5 (AW.k0 ?_))
  exact AW.vret dJ4_init_da8c8_6 rfl k
end T4
