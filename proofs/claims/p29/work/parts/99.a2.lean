/-! ===== the law's small methods ===== -/
section A2
variable {Q : AH → AO → Prop} {h g : AH} {Z : ZT}
theorem leb {a b : Nat} (k : a ≤ b) : Nat.ble a b = true := Nat.ble_eq_true_of_le k
theorem tdv {x y : Int} (hx : 0 ≤ x) : x.tdiv y = x / y := Int.tdiv_eq_ediv_of_nonneg hx
theorem tmd {x y : Int} (hx : 0 ≤ x) : x.tmod y = x % y := Int.tmod_eq_emod_of_nonneg hx
theorem tmr {x n : Int} (hx : 0 ≤ x) (hn : 0 < n) : 0 ≤ x.tmod n ∧ x.tmod n < n := ⟨Int.tmod_nonneg n hx, Int.tmod_lt_of_pos x hn⟩
theorem and31 (x : Int32) : 0 ≤ (x &&& Int32.ofInt 2147483647).toInt := by
  rw [← Int32.toInt_toBitVec, Int32.toBitVec_and]
  have : (x.toBitVec &&& (Int32.ofInt 2147483647).toBitVec).msb = false := by
    rw [BitVec.msb_and, show (Int32.ofInt 2147483647).toBitVec.msb = false from by decide, Bool.and_false]
  rw [BitVec.toInt_eq_toNat_of_msb this]
  omega
/-- a number of the script -/
theorem kL_part {L : Nat} {i n : Int} (hS : hT h nS = some (40, L)) (hL9 : L < 2147483648) (hi : 0 ≤ i ∧ i < 1000) (hn : 0 < n) (k : ∀ x, 0 ≤ x → x < n → Q h (.inl (some (vi x)))) : AC mL_part fL_part loL_part 0 0 h [vr nS, vi i, vi n] Q := by
  refine AC.mk (by decide) (Nat.le_of_ble_eq_true rfl) ?_
  refine AW.iload_n dL_part_0 rfl ?_
  refine AW.aload_n dL_part_1 rfl ?_
  refine AW.alenS dL_part_2 hS hL9 ?_
  refine' AW.icmp_geJ 25 (tgt := 12) dL_part_3 rfl _ _ _
  rotate_left 2
  · intro c_3 k_3
    refine AW.sipush dL_part_12 sp_571 (by decide) ?_
    refine AW.iload_n dL_part_15 rfl ?_
    refine AW.imul dL_part_16 ?_
    refine AW.sipush dL_part_17 sp_431 (by decide) ?_
    refine AW.iload_n dL_part_20 rfl ?_
    refine AW.imul dL_part_21 ?_
    refine AW.iload_n dL_part_22 rfl ?_
    refine AW.imul dL_part_23 ?_
    refine AW.iadd dL_part_24 ?_
    exact k_3
  · intro c_3 k_3
    refine AW.aload_n dL_part_6 rfl ?_
    refine AW.iload_n dL_part_7 rfl ?_
    refine AW.aldS dL_part_8 hS (by omega) (by omega) ?_
    refine AW.goto (tgt := 25) dL_part_9 rfl ?_
    exact k_3
  refine AW.istore_n dL_part_25 rfl ?_
  refine AW.iload_n dL_part_26 rfl ?_
  refine AW.ldcI dL_part_27 lkL_7 (by decide) ?_
  refine AW.iand dL_part_29 ?_
  refine AW.iload_n dL_part_30 rfl ?_
  refine AW.irem dL_part_31 (by omega) ?_
  refine AW.iret dL_part_32 rfl ?_
  have r := tmr (n := n) (and31 (Int32.ofInt (if (L : Int) ≤ i then wr (wr (571 * i) + wr (wr (431 * i) * i)) else hI h nS i.toNat))) hn
  exact k _ r.1 r.2
theorem kL_state {a f : Nat} (T : LT h) (ha : a < 13) (hf : f < 10) (k : Q h (.inl (some (vi (stt (hL h (la 1) a) f))))) : AC mL_state fL_state loL_state 0 0 h [vr (la 1), vi (a : Int), vi (f : Int)] Q := by
  refine AC.mk (by decide) (Nat.le_of_ble_eq_true rfl) ?_
  refine AW.aload_n dL_state_0 rfl ?_
  refine AW.iload_n dL_state_1 rfl ?_
  refine AW.aldLE dL_state_2 T.a1 (by omega) (by omega) (by rw [Int.toNat_natCast]) ?_
  refine AW.bipush dL_state_3 bp_6 (by decide) ?_
  refine AW.iload_n dL_state_5 rfl ?_
  refine AW.imulB dL_state_6 (by omega) ?_
  refine AW.lshr dL_state_7 (by omega) ?_
  refine AW.ldc2 dL_state_8 lkL_77 ?_
  refine AW.land dL_state_11 ?_
  refine AW.l2i dL_state_12 ?_
  exact AW.iret dL_state_13 rfl k
theorem kL_isNeeded {a f : Nat} (T : LT h) (ha : a < 13) (hf : f < 10) (k : Q h (.inl (some (vi (bz (31 < stt (hL h (la 1) a) f)))))) : AC mL_isNeeded fL_isNeeded loL_isNeeded 0 0 h [vr (la 1), vi (a : Int), vi (f : Int)] Q := by
  refine AC.mk (by decide) (Nat.le_of_ble_eq_true rfl) ?_
  refine AW.aload_n dL_isNeeded_0 rfl ?_
  refine AW.iload_n dL_isNeeded_1 rfl ?_
  refine AW.iload_n dL_isNeeded_2 rfl ?_
  refine AW.callS (as := [vq _, vi _, vi _]) dL_isNeeded_3 rfl rfl rfl okL_state lkL_79 rfl rfl rfl (leb (by omega)) (leb (by omega)) rfl (kL_state T ha hf (AW.k1 ?_))
  refine AW.bipush dL_isNeeded_6 bp_31 (by decide) ?_
  refine' AW.icmp_leJ 16 (tgt := 15) dL_isNeeded_8 rfl _ _ _
  rotate_left 2
  · intro c_8 k_8
    refine AW.iconst dL_isNeeded_15 (by decide) ?_
    exact k_8
  · intro c_8 k_8
    refine AW.iconst dL_isNeeded_11 (by decide) ?_
    refine AW.goto (tgt := 16) dL_isNeeded_12 rfl ?_
    exact k_8
  refine AW.top (y := bz (31 < stt (hL h (la 1) a) f)) (by unfold bz; (repeat' split) <;> first | rfl | omega) ?_
  refine AW.zret dL_isNeeded_16 rfl ?_ ?_
  · exact bz01 _
  exact k
theorem kL_by {a : Nat} {x : Int} (T : LT h) (ha : a < 13) (e : hI h (la 2) a = x) (k : Q h (.inl (some (vi (x.tdiv 524288))))) : AC mL_by fL_by loL_by 0 0 h [vr (la 2), vi (a : Int)] Q := by
  refine AC.mk (by decide) (Nat.le_of_ble_eq_true rfl) ?_
  refine AW.aload_n dL_by_0 rfl ?_
  refine AW.iload_n dL_by_1 rfl ?_
  refine AW.aldIE dL_by_2 T.a2 (by omega) (by omega) (by exact e) ?_
  refine AW.ldcI dL_by_3 lkL_85 (by decide) ?_
  refine AW.idiv dL_by_5 (by omega) ?_
  refine AW.iret dL_by_6 rfl ?_
  exact k
theorem kL_kind {f : Int} {x : Int} (T : LT h) (hf : -1 ≤ f ∧ f < 12) (e : 0 ≤ f → hI h (la 3) f.toNat = x) (k : Q h (.inl (some (vi (if 0 ≤ f then x.tmod 3 else 0))))) : AC mL_kind fL_kind loL_kind 0 0 h [vr (la 3), vi f] Q := by
  refine AC.mk (by decide) (Nat.le_of_ble_eq_true rfl) ?_
  by_cases c : 0 ≤ f
  · rw [if_pos c] at k
    refine AW.iload_n dL_kind_0 rfl ?_
    refine AW.if_geT (tgt := 8) dL_kind_1 rfl (by omega) ?_
    refine AW.aload_n dL_kind_8 rfl ?_
    refine AW.iload_n dL_kind_9 rfl ?_
    refine AW.aldIE dL_kind_10 T.a3 (by omega) (by omega) (by exact e c) ?_
    refine AW.iconst dL_kind_11 (by decide) ?_
    refine AW.irem dL_kind_12 (by omega) ?_
    refine AW.iret dL_kind_13 rfl ?_
    exact k
  · rw [if_neg c] at k
    refine AW.iload_n dL_kind_0 rfl ?_
    refine AW.if_geF (tgt := 8) dL_kind_1 rfl (by omega) ?_
    refine AW.iconst dL_kind_4 (by decide) ?_
    refine AW.goto (tgt := 13) dL_kind_5 rfl ?_
    refine AW.iret dL_kind_13 rfl ?_
    exact k
theorem kL_turned {v f t : Int} (hv : -1 ≤ v ∧ v ≤ 9999) (k : Q h (.inl (some (vi (ztur v f t))))) : AC mL_turned fL_turned loL_turned 0 0 h [vi v, vi f, vi t] Q := by
  refine AC.mk (by decide) (Nat.le_of_ble_eq_true rfl) ?_
  have fin : ∀ {y : Int}, y = ztur v f t → Q h (.inl (some (vi y))) := fun e => by rw [e]; exact k
  refine AW.iload_n dL_turned_0 rfl ?_
  refine AW.iconst dL_turned_1 (by decide) ?_
  refine AW.icmp_lt (tgt := 15) dL_turned_2 rfl (fun c_2 => ?_) (fun c_2 => ?_)
  · refine AW.iload_n dL_turned_15 rfl ?_
    refine AW.iret dL_turned_16 rfl ?_
    refine fin ?_
    unfold ztur bz
    (repeat' split) <;> first | rfl | omega | (have hv0 : v = 0 := by omega) <;> (subst hv0; first | rfl | omega)
  · refine AW.iload_n dL_turned_5 rfl ?_
    refine AW.iload_n dL_turned_6 rfl ?_
    refine AW.icmp_eq (tgt := 15) dL_turned_7 rfl (fun c_7 => ?_) (fun c_7 => ?_)
    · refine AW.iload_n dL_turned_15 rfl ?_
      refine AW.iret dL_turned_16 rfl ?_
      refine fin ?_
      unfold ztur bz
      (repeat' split) <;> first | rfl | omega | (have hv0 : v = 0 := by omega) <;> (subst hv0; first | rfl | omega)
    · refine AW.iload_n dL_turned_10 rfl ?_
      refine AW.iconst dL_turned_11 (by decide) ?_
      refine AW.icmp_ne (tgt := 17) dL_turned_12 rfl (fun c_12 => ?_) (fun c_12 => ?_)
      · refine AW.iload_n dL_turned_17 rfl ?_
        refine AW.iconst dL_turned_18 (by decide) ?_
        refine' AW.icmp_neJ 41 (tgt := 26) dL_turned_19 rfl _ _ _
        rotate_left 2
        · intro c_19 k_19
          refine AW.iload_n dL_turned_26 rfl ?_
          refine' AW.if_neJ 41 (tgt := 37) dL_turned_27 rfl _ _ _
          rotate_left 2
          · intro c_27 k_27
            refine AW.bipush dL_turned_37 bp_10 (by decide) ?_
            refine AW.iload_n dL_turned_39 rfl ?_
            refine AW.imul dL_turned_40 ?_
            exact k_27
          · intro c_27 k_27
            refine AW.iload_n dL_turned_30 rfl ?_
            refine AW.bipush dL_turned_31 bp_10 (by decide) ?_
            refine AW.idiv dL_turned_33 (by omega) ?_
            refine AW.goto (tgt := 41) dL_turned_34 rfl ?_
            exact k_27
          exact k_19
        · intro c_19 k_19
          refine AW.iconst dL_turned_22 (by decide) ?_
          refine AW.goto (tgt := 41) dL_turned_23 rfl ?_
          exact k_19
        refine AW.iret dL_turned_41 rfl ?_
        refine fin ?_
        unfold ztur bz
        (repeat' split) <;> first | rfl | omega
      · refine AW.iload_n dL_turned_15 rfl ?_
        refine AW.iret dL_turned_16 rfl ?_
        refine fin ?_
        unfold ztur bz
        (repeat' split) <;> first | rfl | omega | (have hv0 : v = 0 := by omega) <;> (subst hv0; first | rfl | omega)
theorem kL_joined {a b f : Int} (ha : -1 ≤ a ∧ a ≤ 9999) (hb : -1 ≤ b ∧ b ≤ 9999) (hf : 0 ≤ f ∧ f ≤ 100) (k : Q h (.inl (some (vi (zjoi a b f))))) : AC mL_joined fL_joined loL_joined 0 0 h [vi a, vi b, vi f] Q := by
  refine AC.mk (by decide) (Nat.le_of_ble_eq_true rfl) ?_
  have fin : ∀ {y : Int}, y = zjoi a b f → Q h (.inl (some (vi y))) := fun e => by rw [e]; exact k
  refine AW.iload_n dL_joined_0 rfl ?_
  refine' AW.if_ltJ 34 (tgt := 8) dL_joined_1 rfl _ _ _
  rotate_left 2
  · intro c_1 k_1
    refine AW.iconst dL_joined_8 (by decide) ?_
    refine AW.goto (tgt := 34) dL_joined_9 rfl ?_
    exact k_1
  · intro c_1 k_1
    refine AW.iload_n dL_joined_4 rfl ?_
    refine' AW.if_geJ 34 (tgt := 12) dL_joined_5 rfl _ _ _
    rotate_left 2
    · intro c_5 k_5
      refine AW.iload_n dL_joined_12 rfl ?_
      refine AW.iload_n dL_joined_13 rfl ?_
      refine AW.imul dL_joined_14 ?_
      refine AW.iload_n dL_joined_15 rfl ?_
      refine AW.iadd dL_joined_16 ?_
      refine AW.sipush dL_joined_17 sp_9999 (by decide) ?_
      refine' AW.icmp_geJ 34 (tgt := 31) dL_joined_20 rfl _ _ _
      rotate_left 2
      · intro c_20 k_20
        refine AW.sipush dL_joined_31 sp_9999 (by decide) ?_
        exact k_20
      · intro c_20 k_20
        refine AW.iload_n dL_joined_23 rfl ?_
        refine AW.iload_n dL_joined_24 rfl ?_
        refine AW.imul dL_joined_25 ?_
        refine AW.iload_n dL_joined_26 rfl ?_
        refine AW.iadd dL_joined_27 ?_
        refine AW.goto (tgt := 34) dL_joined_28 rfl ?_
        exact k_20
      exact k_5
    · intro c_5 k_5
      refine AW.iconst dL_joined_8 (by decide) ?_
      refine AW.goto (tgt := 34) dL_joined_9 rfl ?_
      exact k_5
    exact k_1
  refine AW.iret dL_joined_34 rfl ?_
  refine fin ?_
  unfold zjoi
  rw [Int.mul_comm f a]
  (repeat' split) <;> first | rfl | omega
end A2
