/-! ===== the law: its rows ===== -/
section LW0
abbrev mL_law : MI := (yL_law, cL_law, 7, some .boolean, [])
/-- the law's locals -/
abbrev lwl (i : Int) : AL := [(0, vr nS), (1, vr mF), (2, vr mO), (3, vr nO), (4, vi i)]
variable {Q : AH → AO → Prop} {h g : AH} {Z Y : ZT} {c L : Nat} {sc : Nat → Int} {mc ms bc bs : Nat} {loc : AL} {st : List AV} {i k r : Int} {p : Nat}
def nzi (x : Int) : Int := if x = 0 then 0 else 1
theorem nz01 (x : Int) : nzi x = 0 ∨ nzi x = 1 := by unfold nzi; split <;> simp
theorem b0 {n : Nat} : Nat.ble 0 n = true := Nat.ble_eq_true_of_le (Nat.zero_le _)
/-- a number of the script -/
theorem AW.sarg {j : Int} (hS : hT h nS = some (40, L) ∧ ∀ i, hI h nS i = sc i) (hL9 : L < 2147483648) (hi : 0 ≤ i ∧ i + 6 ≤ (L : Int)) (hj : 0 ≤ j ∧ j ≤ 5) (l0 : lget loc 0 = some (vr nS)) (l4 : lget loc 4 = some (vi i))
    (d0 : decode mL_law.2.1 p = .ok (.aload_n 0, 1)) (d1 : decode mL_law.2.1 (p + 1) = .ok (.iload 4, 2)) (d3 : decode mL_law.2.1 (p + 3) = .ok (.iconst j, 1)) (d4 : decode mL_law.2.1 (p + 4) = .ok (.iadd, 1)) (d5 : decode mL_law.2.1 (p + 5) = .ok (.iaload, 1))
    (kk : AW mL_law 14 548 mc ms Q bc bs (p + 6) h loc (vi (sc (i + j).toNat) :: st)) : AW mL_law 14 548 mc ms Q bc bs p h loc st := by
  refine AW.aload_n d0 l0 ?_
  refine AW.iload d1 l4 ?_
  refine AW.iconst d3 (by rw [Bool.and_eq_true, decide_eq_true_eq, decide_eq_true_eq]; omega) ?_
  refine AW.iaddB d4 (by omega) ?_
  refine AW.aldS d5 hS.1 (by omega) (by omega) ?_
  rw [hS.2]
  exact kk
/-- a flag of the script -/
theorem AW.nz {x : Int} (d0 : decode mL_law.2.1 p = .ok (.ifCond .eq 7, 3)) (d3 : decode mL_law.2.1 (p + 3) = .ok (.iconst 1, 1)) (d4 : decode mL_law.2.1 (p + 4) = .ok (.goto 4, 3)) (d7 : decode mL_law.2.1 (p + 7) = .ok (.iconst 0, 1))
    (kk : AW mL_law 14 548 mc ms Q bc bs (p + 8) h loc (vi (nzi x) :: st)) : AW mL_law 14 548 mc ms Q bc bs p h loc (vi x :: st) := by
  refine AW.if_eq d0 (tgt := p + 7) (by show Nat.beq (p + 7) (p + 7) = true; exact Nat.beq_refl _) (fun e => ?_) (fun e => ?_)
  · refine AW.iconst d7 rfl ?_
    refine AW.top (show (0 : Int) = nzi x from (if_pos e).symm) ?_
    exact kk
  · refine AW.iconst d3 rfl ?_
    refine AW.goto d4 (tgt := p + 8) (by show Nat.beq (p + 8) (p + 8) = true; exact Nat.beq_refl _) ?_
    refine AW.top (show (1 : Int) = nzi x from (if_neg e).symm) ?_
    exact kk
set_option maxHeartbeats 1000000 in
/-- both have answered -/
theorem law_tail {Z' : ZT} {o : Int} (d0 : decode mL_law.2.1 p = .ok (.istore 6, 2)) (d2 : decode mL_law.2.1 (p + 2) = .ok (.aload_n 2, 1)) (d3 : decode mL_law.2.1 (p + 3) = .ok (.invokevirtual 113, 3)) (d6 : decode mL_law.2.1 (p + 6) = .ok (.iload 5, 2)) (d8 : decode mL_law.2.1 (p + 8) = .ok (.if_icmp .eq 5, 3))
    (d13 : decode mL_law.2.1 (p + 13) = .ok (.iload 5, 2)) (d15 : decode mL_law.2.1 (p + 15) = .ok (.ifCond .ne 15, 3)) (d18 : decode mL_law.2.1 (p + 18) = .ok (.aload_n 3, 1)) (d19 : decode mL_law.2.1 (p + 19) = .ok (.iconst 0, 1)) (d20 : decode mL_law.2.1 (p + 20) = .ok (.laload, 1)) (d21 : decode mL_law.2.1 (p + 21) = .ok (.iload 6, 2))
    (d23 : decode mL_law.2.1 (p + 23) = .ok (.i2l, 1)) (d24 : decode mL_law.2.1 (p + 24) = .ok (.lcmp, 1)) (d25 : decode mL_law.2.1 (p + 25) = .ok (.ifCond .eq 5, 3)) (d30 : decode mL_law.2.1 (p + 30) = .ok (.goto o, 3)) (hg : Nat.beq (p + 30 + o.toNat) (2094 + (-o).toNat) = true)
    (W : WfM g) (hthr : Z' 48 0 = k) (hout : k = 0 → hL g nO 0 = Int64.ofInt r) (hO : hT g nO = some (22, 1)) (kk : AW mL_law 14 548 mc ms Q bc bs 2094 (mput g Z') (lwl i) []) :
    AW mL_law 14 548 mc ms Q bc bs p (mput g Z') (lput 5 (vi k) (lwl i)) [vi r] := by
  have fin : AW mL_law 14 548 mc ms Q bc bs (p + 30) (mput g Z') (lput 6 (vi r) (lput 5 (vi k) (lwl i))) [] := by
    refine AW.goto d30 hg ?_
    refine AW.locs (lwl i) ⟨rfl, rfl, rfl, rfl, rfl, trivial⟩ ?_
    exact kk
  refine AW.istore d0 rfl ?_
  refine AW.aload_n d2 rfl ?_
  refine AW.callV (as := []) d3 rfl rfl rfl okX8_thrown lkL_113 W.1 rfl rfl rfl rfl b0 b0 rfl (kX8_thrown W (AW.k1 ?_))
  refine AW.top hthr ?_
  refine AW.iload d6 rfl ?_
  refine AW.icmp_eq d8 (tgt := p + 13) (by show Nat.beq (p + 13) (p + 13) = true; exact Nat.beq_refl _) (fun _ => ?_) (fun e => absurd rfl e)
  refine AW.iload d13 rfl ?_
  refine AW.if_ne d15 (tgt := p + 30) (by show Nat.beq (p + 30) (p + 30) = true; exact Nat.beq_refl _) (fun _ => fin) (fun e => ?_)
  refine AW.aload_n d18 rfl ?_
  refine AW.iconst d19 rfl ?_
  refine AW.aldL d20 hO (by decide) (by decide) ?_
  refine AW.iload d21 rfl ?_
  refine AW.i2l d23 ?_
  refine AW.lcmp d24 ?_
  refine AW.top (lcm_z.mpr (hout e)) ?_
  exact AW.if_eq d25 (tgt := p + 30) (by show Nat.beq (p + 30) (p + 30) = true; exact Nat.beq_refl _) (fun _ => fin) (fun e => absurd rfl e)
set_option maxHeartbeats 1000000 in
/-- both have answered, with a flag -/
theorem law_tailZ {Z' : ZT} {o : Int} (d0 : decode mL_law.2.1 p = .ok (.istore 6, 2)) (d2 : decode mL_law.2.1 (p + 2) = .ok (.aload_n 2, 1)) (d3 : decode mL_law.2.1 (p + 3) = .ok (.invokevirtual 113, 3)) (d6 : decode mL_law.2.1 (p + 6) = .ok (.iload 5, 2)) (d8 : decode mL_law.2.1 (p + 8) = .ok (.if_icmp .eq 5, 3))
    (d13 : decode mL_law.2.1 (p + 13) = .ok (.iload 5, 2)) (d15 : decode mL_law.2.1 (p + 15) = .ok (.ifCond .ne 22, 3)) (d18 : decode mL_law.2.1 (p + 18) = .ok (.aload_n 3, 1)) (d19 : decode mL_law.2.1 (p + 19) = .ok (.iconst 0, 1)) (d20 : decode mL_law.2.1 (p + 20) = .ok (.laload, 1)) (d21 : decode mL_law.2.1 (p + 21) = .ok (.iload 6, 2))
    (d23 : decode mL_law.2.1 (p + 23) = .ok (.ifCond .eq 7, 3)) (d26 : decode mL_law.2.1 (p + 26) = .ok (.lconst 1, 1)) (d27 : decode mL_law.2.1 (p + 27) = .ok (.goto 4, 3)) (d30 : decode mL_law.2.1 (p + 30) = .ok (.lconst 0, 1)) (d31 : decode mL_law.2.1 (p + 31) = .ok (.lcmp, 1)) (d32 : decode mL_law.2.1 (p + 32) = .ok (.ifCond .eq 5, 3)) (d37 : decode mL_law.2.1 (p + 37) = .ok (.goto o, 3)) (hg : Nat.beq (p + 37 + o.toNat) (2094 + (-o).toNat) = true)
    (W : WfM g) (hthr : Z' 48 0 = k) (hr : r = 0 ∨ r = 1) (hout : k = 0 → hL g nO 0 = Int64.ofInt r) (hO : hT g nO = some (22, 1)) (kk : AW mL_law 14 548 mc ms Q bc bs 2094 (mput g Z') (lwl i) []) :
    AW mL_law 14 548 mc ms Q bc bs p (mput g Z') (lput 5 (vi k) (lwl i)) [vi r] := by
  have fin : AW mL_law 14 548 mc ms Q bc bs (p + 37) (mput g Z') (lput 6 (vi r) (lput 5 (vi k) (lwl i))) [] := by
    refine AW.goto d37 hg ?_
    refine AW.locs (lwl i) ⟨rfl, rfl, rfl, rfl, rfl, trivial⟩ ?_
    exact kk
  refine AW.istore d0 rfl ?_
  refine AW.aload_n d2 rfl ?_
  refine AW.callV (as := []) d3 rfl rfl rfl okX8_thrown lkL_113 W.1 rfl rfl rfl rfl b0 b0 rfl (kX8_thrown W (AW.k1 ?_))
  refine AW.top hthr ?_
  refine AW.iload d6 rfl ?_
  refine AW.icmp_eq d8 (tgt := p + 13) (by show Nat.beq (p + 13) (p + 13) = true; exact Nat.beq_refl _) (fun _ => ?_) (fun e => absurd rfl e)
  refine AW.iload d13 rfl ?_
  refine AW.if_ne d15 (tgt := p + 37) (by show Nat.beq (p + 37) (p + 37) = true; exact Nat.beq_refl _) (fun _ => fin) (fun e => ?_)
  refine AW.aload_n d18 rfl ?_
  refine AW.iconst d19 rfl ?_
  refine AW.aldL d20 hO (by decide) (by decide) ?_
  refine AW.iload d21 rfl ?_
  have ho := hout e
  refine AW.if_eq d23 (tgt := p + 30) (by show Nat.beq (p + 30) (p + 30) = true; exact Nat.beq_refl _) (fun e9 => ?_) (fun e9 => ?_)
  · refine AW.lconst d30 ?_
    refine AW.lcmp d31 ?_
    refine AW.top (lcm_z.mpr (show hL g nO 0 = _ from by rw [ho, e9]; decide)) ?_
    exact AW.if_eq d32 (tgt := p + 37) (by show Nat.beq (p + 37) (p + 37) = true; exact Nat.beq_refl _) (fun _ => fin) (fun e => absurd rfl e)
  · have e8 : r = 1 := hr.resolve_left e9
    refine AW.lconst d26 ?_
    refine AW.goto d27 (tgt := p + 31) (by show Nat.beq (p + 31) (p + 31) = true; exact Nat.beq_refl _) ?_
    refine AW.lcmp d31 ?_
    refine AW.top (lcm_z.mpr (show hL g nO 0 = _ from by rw [ho, e8]; decide)) ?_
    exact AW.if_eq d32 (tgt := p + 37) (by show Nat.beq (p + 37) (p + 37) = true; exact Nat.beq_refl _) (fun _ => fin) (fun e => absurd rfl e)
/-! no error is told when all is well -/
theorem th_zla {s : Int} (e : Z 48 0 = 0) : zla Z s 48 0 = 0 := by rw [zla_o rfl (by decide) (by decide)]; exact e
theorem th_let {q n : Int} : zLet0 Z q n 48 0 = 0 := rfl
theorem th_ret {q : Int} : zRet0 Z q 48 0 = 0 := rfl
theorem th_rnw {q : Int} : zRnw0 Z q 48 0 = 0 := rfl
theorem th_see {r v : Int} : zsee (zs Z 48 0 0) r v 48 0 = 0 := by rw [zsee_o rfl]; rfl
theorem th_wri {q r n x : Int} : zWri (zs Z 48 0 0) q r n x 48 0 = 0 := by
  unfold zWri zcnt
  rw [zs_oj rfl, zs_oj rfl, zcpy_o rfl]
  unfold zWri2
  rw [zmt_o rfl]
  unfold zWri1
  rw [zs_oj rfl, zsee_o rfl]
  rfl
theorem th_stp {r m : Int} : zStp Z r m 48 0 = 0 := by
  unfold zStp
  rw [zs_oj rfl, zs_oj rfl, zs_oj rfl]
  unfold zStp3 zcnt
  rw [zs_oj rfl, zs_oj rfl, zmv_o rfl]
  unfold zStp2
  rw [zRecJ_o rfl, zRecJ_o rfl]
  rfl
theorem th_und {m t : Int} : zUnd Z m t 48 0 = 0 := by
  unfold zUnd
  rw [zs_oj rfl, zs_oj rfl]
  unfold zUnd2
  rw [zUf_o rfl, zUf_o rfl]
  unfold zUnd1
  rw [zUb_o rfl, zUb_o rfl]
  rfl
theorem th_dro {s f : Int} : zdo (zs Z 48 0 0) s f 48 0 = 0 := by rw [zdo_o2 rfl]; rfl
theorem th_add {s n hw v nd : Int} : zAdd Z s n hw v nd 48 0 = 0 := rfl
theorem th_ren {s n o : Int} : zRen Z s n o 48 0 = 0 := rfl
theorem th_tur {s n o : Int} : zTur Z s n o 48 0 = 0 := rfl
theorem th_tog {s n : Int} : zTog Z s n 48 0 = 0 := rfl
theorem th_spl {s n o1 o2 d : Int} : zSpl Z s n o1 o2 d 48 0 = 0 := rfl
theorem th_joi {s n o1 o2 d : Int} : zJoi Z s n o1 o2 d 48 0 = 0 := rfl
theorem th_row {s v : Int} : zRow Z s v 48 0 = 0 := rfl
theorem th_set {r n x : Int} : zSet Z r n x 48 0 = 0 := rfl
theorem th_mov {s v : Int} : zMov Z s v 48 0 = 0 := rfl
theorem th_for {s : Int} : zFor Z s 48 0 = 0 := rfl
theorem th_tak {q n w : Int} : zTak Z q n w 48 0 = 0 := rfl
theorem LK.S9 (J : LK sc L g Z c) : hT g nS = some (40, L) ∧ ∀ i, hI g nS i = sc i := J.2.2.2.2.2.1
theorem oO {v : Int64} : hL (sL g nO 0 v) nO 0 = v := by rw [hL_sL, if_pos ⟨rfl, rfl⟩]
end LW0
