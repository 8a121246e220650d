/-! ===== the law: its loop, its start ===== -/
section LX0
variable {Q : AH → AO → Prop} {h g : AH} {Z : ZT} {c L : Nat} {sc : Nat → Int} {mc ms : Nat}
set_option maxHeartbeats 2000000 in
theorem law_loop (hL : L < 3078) (k : ∀ g, Q g (.inl (some (vi 1)))) : ∀ (n c : Nat) (h : AH) (Z : ZT), L < 6 * (c + n) + 6 → c + n ≤ 512 → LK sc L h Z c → SIM h Z c → AW mL_law 14 548 mc ms Q (200 * n) (1200 * n) 23 h (lwl (6 * (c : Int))) []
  | n, c, h, Z, h1, h2, J, S => by
    refine AW.iload dL_law_23 rfl ?_
    refine AW.aload_n dL_law_25 rfl ?_
    refine AW.alenS dL_law_26 J.S9.1 (by omega) ?_
    refine AW.bipush dL_law_27 bp_6 (by decide) ?_
    refine AW.isubB dL_law_29 (by omega) ?_
    refine AW.icmp_gt (tgt := 2100) dL_law_30 rfl (fun _ => ?_) (fun e => ?_)
    · refine AW.iconst dL_law_2100 (by decide) ?_
      exact AW.zret dL_law_2101 rfl (Or.inr rfl) (k _)
    · cases n with
      | zero => exact absurd e (by omega)
      | succ n =>
        have hL9 : L < 2147483648 := by omega
        have hc : c < 512 := by omega
        have hi : 0 ≤ 6 * (c : Int) ∧ 6 * (c : Int) + 6 ≤ (L : Int) := by omega
        have kk : ∀ h2 Z2, LK sc L h2 Z2 (c + 1) → SIM h2 Z2 (c + 1) → AW mL_law 14 548 mc ms Q (200 * n) (1200 * n) 2094 h2 (lwl (6 * (c : Int))) [] := fun h2 Z2 J2 S2 => by
          refine AW.iincB dL_law_2094 rfl rfl (by omega) ?_
          refine AW.goto (tgt := 23) dL_law_2097 rfl ?_
          have e6 : 6 * (c : Int) + 6 = 6 * ((c + 1 : Nat) : Int) := by omega
          rw [e6]
          refine AW.locs (lwl (6 * ((c + 1 : Nat) : Int))) ⟨rfl, rfl, rfl, rfl, rfl, trivial⟩ ?_
          exact law_loop hL k n (c + 1) h2 Z2 (by omega) (by omega) J2 S2
        refine AW.aload_n dL_law_33 rfl ?_
        refine AW.iload dL_law_34 rfl ?_
        refine AW.aldS dL_law_36 J.S9.1 (by omega) (by omega) ?_
        refine AW.bipush dL_law_37 bp_31 (by decide) ?_
        refine AW.iand dL_law_39 ?_
        refine AW.tsw [160, 204, 324, 404, 484, 588, 692, 767, 842, 898, 978, 1058, 1114, 1210, 1278, 1334, 1390, 1470, 1562, 1630, 1710, 1790, 1858, 1914, 1982, 2038] (td := 2094) dL_law_40 rfl rfl rfl ?_ (fun _ => AW.less (by omega) (by omega) (kk h Z (J.up (Nat.le_succ _)) (S.up (Nat.le_succ _))))
        exact ⟨fun _ => lw1_schema J S hL9 hc hi kk, fun _ => lw1_add J S hL9 hc hi kk, fun _ => lw1_rename J S hL9 hc hi kk, fun _ => lw1_turn J S hL9 hc hi kk, fun _ => lw1_split J S hL9 hc hi kk, fun _ => lw1_join J S hL9 hc hi kk, fun _ => lw1_toggleNeed J S hL9 hc hi kk, fun _ => lw1_drop J S hL9 hc hi kk, fun _ => lw1_head J S hL9 hc hi kk,
          fun _ => lw1_field J S hL9 hc hi kk, fun _ => lw1_text J S hL9 hc hi kk, fun _ => lw1_form J S hL9 hc hi kk, fun _ => lw1_take J S hL9 hc hi kk, fun _ => lw1_letGo J S hL9 hc hi kk, fun _ => lw1_retire J S hL9 hc hi kk, fun _ => lw1_renew J S hL9 hc hi kk, fun _ => lw1_read J S hL9 hc hi kk, fun _ => lw1_write J S hL9 hc hi kk,
          fun _ => lw1_row J S hL9 hc hi kk, fun _ => lw1_set J S hL9 hc hi kk, fun _ => lw1_value J S hL9 hc hi kk, fun _ => lw1_replayed J S hL9 hc hi kk, fun _ => lw1_standing J S hL9 hc hi kk, fun _ => lw1_mover J S hL9 hc hi kk, fun _ => lw1_step J S hL9 hc hi kk, fun _ => lw1_undo J S hL9 hc hi kk, trivial⟩
  termination_by n => n
/-- the reference's cells beside the class's -/
theorem iG {n : Nm} (hn : 3 ≤ n.1) : hT (mput (iH (aN g mO 9 0) 49) Z) n = hT g n ∧ (∀ i, hI (mput (iH (aN g mO 9 0) 49) Z) n i = hI g n i) ∧ (∀ i, hL (mput (iH (aN g mO 9 0) 49) Z) n i = hL g n i) ∧ ∀ i, hR (mput (iH (aN g mO 9 0) 49) Z) n i = hR g n i := by
  have n1 : ¬ n = mO := fun z => by rw [z] at hn; exact absurd hn (by decide)
  have n2 : ∀ {P : Prop}, ¬ (n.1 = 2 ∧ P) := fun z => by rw [z.1] at hn; exact absurd hn (by decide)
  have n3 : ∀ {P : Prop}, ¬ (n = (1, 0, 0) ∧ P) := fun z => n1 z.1
  refine ⟨?_, fun i => ?_, fun i => ?_, fun i => ?_⟩
  · show hT (iH (aN g mO 9 0) 49) n = _
    rw [hT_iH, if_neg n2, hT_aN, if_neg n1]
  · show (if n = (1, 0, 0) ∧ isSc i = true then Z i 0 else if n.1 = 2 ∧ n.2.2 = 0 ∧ isSc n.2.1 = false then Z n.2.1 i else hI (iH (aN g mO 9 0) 49) n i) = _
    rw [if_neg n3, if_neg n2, hI_iH, if_neg n2, hI_aN, if_neg n1]
  · show (if n.1 = 2 ∧ n.2.2 = 0 ∧ n.2.1 < 49 ∧ isSc n.2.1 = false then 0 else hL (aN g mO 9 0) n i) = _
    rw [if_neg n2, hL_aN, if_neg n1]
  · show hR (iH (aN g mO 9 0) 49) n i = _
    rw [hR_iH, if_neg n2, if_neg n3, hR_aN, if_neg n1]
set_option maxHeartbeats 4000000 in
theorem kL_law (hS : hT h nS = some (40, L) ∧ ∀ i, hI h nS i = sc i) (hL : L < 3078) (W7 : WW h) (hN : ∀ n : Nm, n.1 < 98 → hT h n = none) (hI0 : ∀ n : Nm, n.1 < 3 → ∀ i, hI h n i = 0) (k : ∀ g, Q g (.inl (some (vi 1)))) : AW mL_law 14 548 601024 7293034 Q 601024 7293034 0 h (largs 0 [vr nS]) [] := by
  refine AW.new (kc := 8) mF (hN _ (by decide)) dL_law_0 rfl inC8 lkL_8 insX7 iniX7 rfl rfl ?_
  refine AW.dup dL_law_3 rfl ?_
  refine AW.callI (as := []) dL_law_4 rfl rfl rfl okX7_init lkL_103 rfl rfl rfl rfl rfl (kX7_n (fun x => hN _ (show (3 : Nat) < 98 by decide)) (fun x => hN _ (show (12 : Nat) < 98 by decide)) (fun g1 I1 => AW.k0 ?_))
  have nf : ∀ a b i : Nat, 4 ≤ a → a ≤ 14 → hT h (a, b, i) = none := fun a b i _ h2 => hN _ (show a < 98 by omega)
  have Z0h : Z00 (zini (mget (iH (aN h mO 9 0) 49)) 4608) := Z00_m fun n hn i => by
    rw [hI_aN]
    split
    · rfl
    · exact hI0 n hn i
  refine AW.gen (P := fun g => (∀ Z, Z00 Z → SIM g Z 0) ∧ Fr nMo h g) ⟨fun Z Z0 => (SIM_0 (h := h) Z0 nf I1).1, (SIM_0 (h := h) (Z := zini (mget (iH (aN h mO 9 0) 49)) 4608) Z0h nf I1).2⟩ (fun g ⟨S1, F1⟩ => ?_)
  have Tg : ∀ n : Nm, n.1 < 3 → hT g n = none := fun n hn => by rw [F1.T (Or.inl hn)]; exact hN n (by omega)
  refine AW.astore_n dL_law_7 rfl ?_
  refine AW.new (kc := 9) mO (Tg _ (by decide)) dL_law_8 rfl inC9 lkL_104 insX8 iniX8 rfl rfl ?_
  refine AW.dup dL_law_11 rfl ?_
  have hT0 : hT (aN g mO 9 0) (1, 0, 0) = some (9, 0) := by rw [hT_aN, if_pos rfl]
  refine AW.callI (as := []) dL_law_12 rfl rfl rfl okX8_init lkL_106 rfl rfl rfl rfl rfl (kX8_init hT0 (fun j => by rw [hT_aN, if_neg (fun z => by cases z)]; exact Tg _ (show (2 : Nat) < 3 by decide)) (AW.k0 ?_))
  have Z0 : Z00 (zini (mget (iH (aN g mO 9 0) 49)) 4608) := Z00_m fun n hn i => by
    rw [hI_aN]
    split
    · rfl
    · rw [F1.I (Or.inl hn)]; exact hI0 n hn i
  generalize zini (mget (iH (aN g mO 9 0) 49)) 4608 = Y at Z0 ⊢
  have WG : WfM (mput (iH (aN g mO 9 0) 49) Y) := iH_W hT0
  have nK : ∀ n : Nm, 15 ≤ n.1 → nMo n := fun n hn => Or.inr hn
  have GT : ∀ n : Nm, 15 ≤ n.1 → hT (mput (iH (aN g mO 9 0) 49) Y) n = hT h n := fun n hn => by rw [(iG (by omega)).1, F1.T (nK n hn)]
  have SG : SIM (mput (iH (aN g mO 9 0) 49) Y) Y 0 := SIM.mo (h := g) (fun n hn => iG (by unfold nIn nMo at hn; omega)) (S1 Y Z0)
  have ES : ∀ i, hI (mput (iH (aN g mO 9 0) 49) Y) nS i = sc i := fun i => by rw [(iG (by decide)).2.1, F1.I (nK _ (by decide))]; exact hS.2 i
  have EG : mput (iH (aN g mO 9 0) 49) Y = mput (mput (iH (aN g mO 9 0) 49) Y) Y := (mput_mput _ _ _).symm
  generalize mput (iH (aN g mO 9 0) 49) Y = G at *
  refine AW.astore_n dL_law_15 rfl ?_
  refine AW.iconst dL_law_16 (by decide) ?_
  refine AW.newa (t := 2) (N := 1) nO (by rw [GT _ (by decide)]; exact hN _ (by decide)) dL_law_17 (by decide) rfl arc_long rfl (by decide) (by decide) (by intro C e; cases e) rfl rfl ?_
  refine AW.astore_n dL_law_19 rfl ?_
  refine AW.iconst dL_law_20 (by decide) ?_
  refine AW.istore dL_law_21 rfl ?_
  have xo : ∀ {n : Nm}, ¬ n.1 = 15 → ¬ n = nO := fun hn z => hn (by rw [z])
  have J : LK sc L (aN G nO 22 1) Y 0 := by
    refine ⟨mp_e EG (fun n hn i => by rw [hI_aN, if_neg (xo (by omega))]), ⟨?_, fun j hj hs => ?_⟩, ZI_0 Z0, fun i hi => ?_, by rw [hT_aN, if_pos rfl], ⟨?_, fun i => ?_⟩, fun k _ => ?_⟩
    · rw [hT_aN, if_neg (xo (by decide))]; exact WG.1
    · rw [hR_aN, if_neg (xo (by decide)), hT_aN, if_neg (xo (show ¬ (2 : Nat) = 15 by decide))]; exact WG.2 j hj hs
    · rw [hT_aN, if_neg (xo (show ¬ (98 : Nat) = 15 by decide)), hT_aN, if_neg (xo (show ¬ (98 : Nat) = 15 by decide)), GT _ (show 15 ≤ 98 by decide), GT _ (show 15 ≤ 98 by decide)]; exact W7 i hi
    · rw [hT_aN, if_neg (xo (by decide)), GT _ (by decide)]; exact hS.1
    · rw [hI_aN, if_neg (xo (by decide))]; exact ES i
    · rw [hT_aN, if_neg (xo (show ¬ (96 : Nat) = 15 by decide)), hT_aN, if_neg (xo (show ¬ (96 : Nat) = 15 by decide)), GT _ (show 15 ≤ 96 by decide), GT _ (show 15 ≤ 96 by decide)]; exact ⟨hN _ (show 96 < 98 by decide), hN _ (show 96 < 98 by decide)⟩
  have SJ : SIM (aN G nO 22 1) Y 0 := SG.mo (Fr.rf.nw (fun z => z (Or.inr (by decide))))
  refine AW.less (bc' := 200 * 512) (bs' := 1200 * 512) (by decide) (by decide) ?_
  refine AW.locs (lwl (6 * ((0 : Nat) : Int))) ⟨rfl, rfl, rfl, rfl, rfl, trivial⟩ ?_
  exact law_loop hL k 512 0 _ Y (by omega) (by omega) J SJ
end LX0
