/-! ===== the law: the calls ===== -/
section LW2
variable {Q : AH → AO → Prop} {h g : AH} {Z : ZT} {c L : Nat} {sc : Nat → Int} {mc ms bc bs : Nat} {i k : Int}
set_option maxHeartbeats 1000000 in
theorem lw1_schema (J : LK sc L h Z c) (S : SIM h Z c) (hL9 : L < 2147483648) (hc : c < 512) (hi : 0 ≤ i ∧ i + 6 ≤ (L : Int))
    (kk : ∀ h2 Z2, LK sc L h2 Z2 (c + 1) → SIM h2 Z2 (c + 1) → AW mL_law 14 548 mc ms Q bc bs 2094 h2 (lwl i) []) : AW mL_law 14 548 mc ms Q (bc + 200) (bs + 1200) 160 h (lwl i) [] := by
  refine AW.aload_n dL_law_160 rfl ?_
  refine AW.aload_n dL_law_161 rfl ?_
  refine AW.callSH (as := [vr mF, vr nO]) dL_law_162 rfl rfl rfl okL_schema lkL_107 rfl rfl rfl (by omega) (by omega) rfl (kL_schema S.f (sX7_schema S J.I.2.1 (fun e => ?_) (fun e g S2 F => ?_)))
  · exact ⟨1, by simp, AW.k1 (AW.less (by omega) (by omega) (lw2_schema (J.up (Nat.le_succ _)) hL9 hi (fun _ => ⟨rfl, S.up (Nat.le_succ _)⟩) (fun z => absurd z (by omega)) kk))⟩
  · exact ⟨(J.mo F).O, AW.k1 (AW.less (by omega) (by omega) (lw2_schema ((J.mo F).out.up (Nat.le_succ _)) hL9 hi (fun z => absurd z (by omega)) (fun _ => ⟨rfl, S2.out.up (Nat.le_succ _), ZI.sch J.I e, oO⟩) kk))⟩
set_option maxHeartbeats 1000000 in
theorem lw1_add (J : LK sc L h Z c) (S : SIM h Z c) (hL9 : L < 2147483648) (hc : c < 512) (hi : 0 ≤ i ∧ i + 6 ≤ (L : Int))
    (kk : ∀ h2 Z2, LK sc L h2 Z2 (c + 1) → SIM h2 Z2 (c + 1) → AW mL_law 14 548 mc ms Q bc bs 2094 h2 (lwl i) []) : AW mL_law 14 548 mc ms Q (bc + 200) (bs + 1200) 204 h (lwl i) [] := by
  refine AW.aload_n dL_law_204 rfl ?_
  refine AW.sarg J.S9 hL9 hi (by decide) rfl rfl dL_law_205 dL_law_206 dL_law_208 dL_law_209 dL_law_210 ?_
  refine AW.sarg J.S9 hL9 hi (by decide) rfl rfl dL_law_211 dL_law_212 dL_law_214 dL_law_215 dL_law_216 ?_
  refine AW.sarg J.S9 hL9 hi (by decide) rfl rfl dL_law_217 dL_law_218 dL_law_220 dL_law_221 dL_law_222 ?_
  refine AW.sarg J.S9 hL9 hi (by decide) rfl rfl dL_law_223 dL_law_224 dL_law_226 dL_law_227 dL_law_228 ?_
  refine AW.sarg J.S9 hL9 hi (by decide) rfl rfl dL_law_229 dL_law_230 dL_law_232 dL_law_233 dL_law_234 ?_
  refine AW.nz dL_law_235 dL_law_238 dL_law_239 dL_law_242 ?_
  refine AW.aload_n dL_law_243 rfl ?_
  refine AW.callSH (as := [vr mF, vi _, vi _, vi _, vi _, vi _, vr nO]) dL_law_244 rfl rfl rfl okL_add lkL_116 rfl rfl rfl (by omega) (by omega) rfl (kL_add S.f (sX7_add S J.I.1 (nz01 _) (fun e => ?_) (fun e => ?_) (fun e => ?_) (fun e g S2 F => ?_)))
  · exact ⟨1, by simp, AW.k1 (AW.less (by omega) (by omega) (lw2_add (J.up (Nat.le_succ _)) hL9 hi (fun _ => ⟨e.symm, S.up (Nat.le_succ _)⟩) (fun z => absurd z (by omega)) kk))⟩
  · exact ⟨2, by simp, AW.k1 (AW.less (by omega) (by omega) (lw2_add (J.up (Nat.le_succ _)) hL9 hi (fun _ => ⟨e.symm, S.up (Nat.le_succ _)⟩) (fun z => absurd z (by omega)) kk))⟩
  · exact ⟨3, by simp, AW.k1 (AW.less (by omega) (by omega) (lw2_add (J.up (Nat.le_succ _)) hL9 hi (fun _ => ⟨e.symm, S.up (Nat.le_succ _)⟩) (fun z => absurd z (by omega)) kk))⟩
  · exact ⟨(J.mo F).O, AW.k1 (AW.less (by omega) (by omega) (lw2_add ((J.mo F).out.up (Nat.le_succ _)) hL9 hi (fun z => absurd z (by omega)) (fun _ => ⟨rfl, S2.out.up (Nat.le_succ _), zi_add J.I S e (nz01 _) S2, oO⟩) kk))⟩
set_option maxHeartbeats 1000000 in
theorem lw1_rename (J : LK sc L h Z c) (S : SIM h Z c) (hL9 : L < 2147483648) (hc : c < 512) (hi : 0 ≤ i ∧ i + 6 ≤ (L : Int))
    (kk : ∀ h2 Z2, LK sc L h2 Z2 (c + 1) → SIM h2 Z2 (c + 1) → AW mL_law 14 548 mc ms Q bc bs 2094 h2 (lwl i) []) : AW mL_law 14 548 mc ms Q (bc + 200) (bs + 1200) 324 h (lwl i) [] := by
  refine AW.aload_n dL_law_324 rfl ?_
  refine AW.sarg J.S9 hL9 hi (by decide) rfl rfl dL_law_325 dL_law_326 dL_law_328 dL_law_329 dL_law_330 ?_
  refine AW.sarg J.S9 hL9 hi (by decide) rfl rfl dL_law_331 dL_law_332 dL_law_334 dL_law_335 dL_law_336 ?_
  refine AW.sarg J.S9 hL9 hi (by decide) rfl rfl dL_law_337 dL_law_338 dL_law_340 dL_law_341 dL_law_342 ?_
  refine AW.aload_n dL_law_343 rfl ?_
  refine AW.callSH (as := [vr mF, vi _, vi _, vi _, vr nO]) dL_law_344 rfl rfl rfl okL_rename lkL_120 rfl rfl rfl (by omega) (by omega) rfl (kL_rename S.f (sX7_rename S J.I.1 (fun e => ?_) (fun e => ?_) (fun e => ?_) (fun e g S2 F => ?_)))
  · exact ⟨1, by simp, AW.k1 (AW.less (by omega) (by omega) (lw2_rename (J.up (Nat.le_succ _)) hL9 hi (fun _ => ⟨e.symm, S.up (Nat.le_succ _)⟩) (fun z => absurd z (by omega)) kk))⟩
  · exact ⟨2, by simp, AW.k1 (AW.less (by omega) (by omega) (lw2_rename (J.up (Nat.le_succ _)) hL9 hi (fun _ => ⟨e.symm, S.up (Nat.le_succ _)⟩) (fun z => absurd z (by omega)) kk))⟩
  · exact ⟨3, by simp, AW.k1 (AW.less (by omega) (by omega) (lw2_rename (J.up (Nat.le_succ _)) hL9 hi (fun _ => ⟨e.symm, S.up (Nat.le_succ _)⟩) (fun z => absurd z (by omega)) kk))⟩
  · exact ⟨(J.mo F).O, AW.k1 (AW.less (by omega) (by omega) (lw2_rename ((J.mo F).out.up (Nat.le_succ _)) hL9 hi (fun z => absurd z (by omega)) (fun _ => ⟨rfl, S2.out.up (Nat.le_succ _), zi_ren J.I S e S2, oO⟩) kk))⟩
set_option maxHeartbeats 1000000 in
theorem lw1_turn (J : LK sc L h Z c) (S : SIM h Z c) (hL9 : L < 2147483648) (hc : c < 512) (hi : 0 ≤ i ∧ i + 6 ≤ (L : Int))
    (kk : ∀ h2 Z2, LK sc L h2 Z2 (c + 1) → SIM h2 Z2 (c + 1) → AW mL_law 14 548 mc ms Q bc bs 2094 h2 (lwl i) []) : AW mL_law 14 548 mc ms Q (bc + 200) (bs + 1200) 404 h (lwl i) [] := by
  refine AW.aload_n dL_law_404 rfl ?_
  refine AW.sarg J.S9 hL9 hi (by decide) rfl rfl dL_law_405 dL_law_406 dL_law_408 dL_law_409 dL_law_410 ?_
  refine AW.sarg J.S9 hL9 hi (by decide) rfl rfl dL_law_411 dL_law_412 dL_law_414 dL_law_415 dL_law_416 ?_
  refine AW.sarg J.S9 hL9 hi (by decide) rfl rfl dL_law_417 dL_law_418 dL_law_420 dL_law_421 dL_law_422 ?_
  refine AW.aload_n dL_law_423 rfl ?_
  refine AW.callSH (as := [vr mF, vi _, vi _, vi _, vr nO]) dL_law_424 rfl rfl rfl okL_turn lkL_124 rfl rfl rfl (by omega) (by omega) rfl (kL_turn S.f (sX7_turn S J.I.1 (fun e => ?_) (fun e => ?_) (fun e => ?_) (fun e g S2 F => ?_)))
  · exact ⟨1, by simp, AW.k1 (AW.less (by omega) (by omega) (lw2_turn (J.up (Nat.le_succ _)) hL9 hi (fun _ => ⟨e.symm, S.up (Nat.le_succ _)⟩) (fun z => absurd z (by omega)) kk))⟩
  · exact ⟨2, by simp, AW.k1 (AW.less (by omega) (by omega) (lw2_turn (J.up (Nat.le_succ _)) hL9 hi (fun _ => ⟨e.symm, S.up (Nat.le_succ _)⟩) (fun z => absurd z (by omega)) kk))⟩
  · exact ⟨3, by simp, AW.k1 (AW.less (by omega) (by omega) (lw2_turn (J.up (Nat.le_succ _)) hL9 hi (fun _ => ⟨e.symm, S.up (Nat.le_succ _)⟩) (fun z => absurd z (by omega)) kk))⟩
  · exact ⟨(J.mo F).O, AW.k1 (AW.less (by omega) (by omega) (lw2_turn ((J.mo F).out.up (Nat.le_succ _)) hL9 hi (fun z => absurd z (by omega)) (fun _ => ⟨rfl, S2.out.up (Nat.le_succ _), zi_tur J.I S e S2, oO⟩) kk))⟩
set_option maxHeartbeats 1000000 in
theorem lw1_split (J : LK sc L h Z c) (S : SIM h Z c) (hL9 : L < 2147483648) (hc : c < 512) (hi : 0 ≤ i ∧ i + 6 ≤ (L : Int))
    (kk : ∀ h2 Z2, LK sc L h2 Z2 (c + 1) → SIM h2 Z2 (c + 1) → AW mL_law 14 548 mc ms Q bc bs 2094 h2 (lwl i) []) : AW mL_law 14 548 mc ms Q (bc + 200) (bs + 1200) 484 h (lwl i) [] := by
  refine AW.aload_n dL_law_484 rfl ?_
  refine AW.sarg J.S9 hL9 hi (by decide) rfl rfl dL_law_485 dL_law_486 dL_law_488 dL_law_489 dL_law_490 ?_
  refine AW.sarg J.S9 hL9 hi (by decide) rfl rfl dL_law_491 dL_law_492 dL_law_494 dL_law_495 dL_law_496 ?_
  refine AW.sarg J.S9 hL9 hi (by decide) rfl rfl dL_law_497 dL_law_498 dL_law_500 dL_law_501 dL_law_502 ?_
  refine AW.sarg J.S9 hL9 hi (by decide) rfl rfl dL_law_503 dL_law_504 dL_law_506 dL_law_507 dL_law_508 ?_
  refine AW.sarg J.S9 hL9 hi (by decide) rfl rfl dL_law_509 dL_law_510 dL_law_512 dL_law_513 dL_law_514 ?_
  refine AW.aload_n dL_law_515 rfl ?_
  refine AW.callSH (as := [vr mF, vi _, vi _, vi _, vi _, vi _, vr nO]) dL_law_516 rfl rfl rfl okL_split lkL_127 rfl rfl rfl (by omega) (by omega) rfl (kL_split S.f (sX7_split S J.I.1 (fun e => ?_) (fun e => ?_) (fun e => ?_) (fun e g S2 F => ?_)))
  · exact ⟨1, by simp, AW.k1 (AW.less (by omega) (by omega) (lw2_split (J.up (Nat.le_succ _)) hL9 hi (fun _ => ⟨e.symm, S.up (Nat.le_succ _)⟩) (fun z => absurd z (by omega)) kk))⟩
  · exact ⟨2, by simp, AW.k1 (AW.less (by omega) (by omega) (lw2_split (J.up (Nat.le_succ _)) hL9 hi (fun _ => ⟨e.symm, S.up (Nat.le_succ _)⟩) (fun z => absurd z (by omega)) kk))⟩
  · exact ⟨3, by simp, AW.k1 (AW.less (by omega) (by omega) (lw2_split (J.up (Nat.le_succ _)) hL9 hi (fun _ => ⟨e.symm, S.up (Nat.le_succ _)⟩) (fun z => absurd z (by omega)) kk))⟩
  · exact ⟨(J.mo F).O, AW.k1 (AW.less (by omega) (by omega) (lw2_split ((J.mo F).out.up (Nat.le_succ _)) hL9 hi (fun z => absurd z (by omega)) (fun _ => ⟨rfl, S2.out.up (Nat.le_succ _), zi_spl J.I S e S2, oO⟩) kk))⟩
set_option maxHeartbeats 1000000 in
theorem lw1_join (J : LK sc L h Z c) (S : SIM h Z c) (hL9 : L < 2147483648) (hc : c < 512) (hi : 0 ≤ i ∧ i + 6 ≤ (L : Int))
    (kk : ∀ h2 Z2, LK sc L h2 Z2 (c + 1) → SIM h2 Z2 (c + 1) → AW mL_law 14 548 mc ms Q bc bs 2094 h2 (lwl i) []) : AW mL_law 14 548 mc ms Q (bc + 200) (bs + 1200) 588 h (lwl i) [] := by
  refine AW.aload_n dL_law_588 rfl ?_
  refine AW.sarg J.S9 hL9 hi (by decide) rfl rfl dL_law_589 dL_law_590 dL_law_592 dL_law_593 dL_law_594 ?_
  refine AW.sarg J.S9 hL9 hi (by decide) rfl rfl dL_law_595 dL_law_596 dL_law_598 dL_law_599 dL_law_600 ?_
  refine AW.sarg J.S9 hL9 hi (by decide) rfl rfl dL_law_601 dL_law_602 dL_law_604 dL_law_605 dL_law_606 ?_
  refine AW.sarg J.S9 hL9 hi (by decide) rfl rfl dL_law_607 dL_law_608 dL_law_610 dL_law_611 dL_law_612 ?_
  refine AW.sarg J.S9 hL9 hi (by decide) rfl rfl dL_law_613 dL_law_614 dL_law_616 dL_law_617 dL_law_618 ?_
  refine AW.aload_n dL_law_619 rfl ?_
  refine AW.callSH (as := [vr mF, vi _, vi _, vi _, vi _, vi _, vr nO]) dL_law_620 rfl rfl rfl okL_join lkL_131 rfl rfl rfl (by omega) (by omega) rfl (kL_join S.f (sX7_join S J.I.1 (fun e => ?_) (fun e => ?_) (fun e => ?_) (fun e g S2 F => ?_)))
  · exact ⟨1, by simp, AW.k1 (AW.less (by omega) (by omega) (lw2_join (J.up (Nat.le_succ _)) hL9 hi (fun _ => ⟨e.symm, S.up (Nat.le_succ _)⟩) (fun z => absurd z (by omega)) kk))⟩
  · exact ⟨2, by simp, AW.k1 (AW.less (by omega) (by omega) (lw2_join (J.up (Nat.le_succ _)) hL9 hi (fun _ => ⟨e.symm, S.up (Nat.le_succ _)⟩) (fun z => absurd z (by omega)) kk))⟩
  · exact ⟨3, by simp, AW.k1 (AW.less (by omega) (by omega) (lw2_join (J.up (Nat.le_succ _)) hL9 hi (fun _ => ⟨e.symm, S.up (Nat.le_succ _)⟩) (fun z => absurd z (by omega)) kk))⟩
  · exact ⟨(J.mo F).O, AW.k1 (AW.less (by omega) (by omega) (lw2_join ((J.mo F).out.up (Nat.le_succ _)) hL9 hi (fun z => absurd z (by omega)) (fun _ => ⟨rfl, S2.out.up (Nat.le_succ _), zi_joi J.I S e S2, oO⟩) kk))⟩
set_option maxHeartbeats 1000000 in
theorem lw1_toggleNeed (J : LK sc L h Z c) (S : SIM h Z c) (hL9 : L < 2147483648) (hc : c < 512) (hi : 0 ≤ i ∧ i + 6 ≤ (L : Int))
    (kk : ∀ h2 Z2, LK sc L h2 Z2 (c + 1) → SIM h2 Z2 (c + 1) → AW mL_law 14 548 mc ms Q bc bs 2094 h2 (lwl i) []) : AW mL_law 14 548 mc ms Q (bc + 200) (bs + 1200) 692 h (lwl i) [] := by
  refine AW.aload_n dL_law_692 rfl ?_
  refine AW.sarg J.S9 hL9 hi (by decide) rfl rfl dL_law_693 dL_law_694 dL_law_696 dL_law_697 dL_law_698 ?_
  refine AW.sarg J.S9 hL9 hi (by decide) rfl rfl dL_law_699 dL_law_700 dL_law_702 dL_law_703 dL_law_704 ?_
  refine AW.aload_n dL_law_705 rfl ?_
  refine AW.callSH (as := [vr mF, vi _, vi _, vr nO]) dL_law_706 rfl rfl rfl okL_toggleNeed lkL_134 rfl rfl rfl (by omega) (by omega) rfl (kL_toggleNeed S.f (sX7_toggleNeed S J.I.1 (fun e => ?_) (fun e => ?_) (fun e g S2 F => ?_)))
  · exact ⟨⟨1, by simp, AW.k1 (AW.less (by omega) (by omega) (lw2_toggleNeed (J.up (Nat.le_succ _)) hL9 hi (fun _ => ⟨e.symm, S.up (Nat.le_succ _)⟩) (fun z => absurd z (by omega)) kk))⟩, fun v hv => by cases hv⟩
  · exact ⟨⟨2, by simp, AW.k1 (AW.less (by omega) (by omega) (lw2_toggleNeed (J.up (Nat.le_succ _)) hL9 hi (fun _ => ⟨e.symm, S.up (Nat.le_succ _)⟩) (fun z => absurd z (by omega)) kk))⟩, fun v hv => by cases hv⟩
  · exact ⟨⟨(J.mo F).O, AW.k1 (AW.less (by omega) (by omega) (lw2_toggleNeed ((J.mo F).out.up (Nat.le_succ _)) hL9 hi (fun z => absurd z (by omega)) (fun _ => ⟨rfl, S2.out.up (Nat.le_succ _), zi_tog J.I S e S2, oO⟩) kk))⟩, fun v hv => by cases hv; exact bz01 _⟩
set_option maxHeartbeats 1000000 in
theorem lw1_drop (J : LK sc L h Z c) (S : SIM h Z c) (hL9 : L < 2147483648) (hc : c < 512) (hi : 0 ≤ i ∧ i + 6 ≤ (L : Int))
    (kk : ∀ h2 Z2, LK sc L h2 Z2 (c + 1) → SIM h2 Z2 (c + 1) → AW mL_law 14 548 mc ms Q bc bs 2094 h2 (lwl i) []) : AW mL_law 14 548 mc ms Q (bc + 200) (bs + 1200) 767 h (lwl i) [] := by
  refine AW.aload_n dL_law_767 rfl ?_
  refine AW.sarg J.S9 hL9 hi (by decide) rfl rfl dL_law_768 dL_law_769 dL_law_771 dL_law_772 dL_law_773 ?_
  refine AW.sarg J.S9 hL9 hi (by decide) rfl rfl dL_law_774 dL_law_775 dL_law_777 dL_law_778 dL_law_779 ?_
  refine AW.aload_n dL_law_780 rfl ?_
  refine AW.callSH (as := [vr mF, vi _, vi _, vr nO]) dL_law_781 rfl rfl rfl okL_drop lkL_138 rfl rfl rfl (by omega) (by omega) rfl (kL_drop S.f (sX7_drop S J.I.1 (fun e => ?_) (fun e => ?_) (fun e z g S2 F => ?_) (fun e z g S2 F => ?_)))
  · exact ⟨⟨1, by simp, AW.k1 (AW.less (by omega) (by omega) (lw2_drop (J.up (Nat.le_succ _)) hL9 hi (fun _ => ⟨e.symm, S.up (Nat.le_succ _)⟩) (fun z => absurd z (by omega)) (fun z => absurd z (by omega)) kk))⟩, fun v hv => by cases hv⟩
  · exact ⟨⟨2, by simp, AW.k1 (AW.less (by omega) (by omega) (lw2_drop (J.up (Nat.le_succ _)) hL9 hi (fun _ => ⟨e.symm, S.up (Nat.le_succ _)⟩) (fun z => absurd z (by omega)) (fun z => absurd z (by omega)) kk))⟩, fun v hv => by cases hv⟩
  · exact ⟨⟨(J.mo F).O, AW.k1 (AW.less (by omega) (by omega) (lw2_drop ((J.mo F).out.up (Nat.le_succ _)) hL9 hi (fun z => absurd z (by omega)) (fun _ _ => ⟨rfl, S2.out.up (Nat.le_succ _), zi_dro J.I S e S2, oO⟩) (fun _ y => absurd z y) kk))⟩, fun v hv => by cases hv; exact Or.inr rfl⟩
  · exact ⟨⟨(J.mo F).O, AW.k1 (AW.less (by omega) (by omega) (lw2_drop ((J.mo F).out.up (Nat.le_succ _)) hL9 hi (fun z => absurd z (by omega)) (fun _ y => absurd y z) (fun _ _ => ⟨rfl, S2.out.up (Nat.le_succ _), zi_wt J.I e S2, oO⟩) kk))⟩, fun v hv => by cases hv; exact Or.inl rfl⟩
set_option maxHeartbeats 1000000 in
theorem lw1_head (J : LK sc L h Z c) (S : SIM h Z c) (hL9 : L < 2147483648) (hc : c < 512) (hi : 0 ≤ i ∧ i + 6 ≤ (L : Int))
    (kk : ∀ h2 Z2, LK sc L h2 Z2 (c + 1) → SIM h2 Z2 (c + 1) → AW mL_law 14 548 mc ms Q bc bs 2094 h2 (lwl i) []) : AW mL_law 14 548 mc ms Q (bc + 200) (bs + 1200) 842 h (lwl i) [] := by
  refine AW.aload_n dL_law_842 rfl ?_
  refine AW.sarg J.S9 hL9 hi (by decide) rfl rfl dL_law_843 dL_law_844 dL_law_846 dL_law_847 dL_law_848 ?_
  refine AW.aload_n dL_law_849 rfl ?_
  refine AW.callSH (as := [vr mF, vi _, vr nO]) dL_law_850 rfl rfl rfl okL_head lkL_141 rfl rfl rfl (by omega) (by omega) rfl (kL_head S.f (sX7_head S (fun e => ?_) (fun e => ?_)))
  · exact ⟨1, by simp, AW.k1 (AW.less (by omega) (by omega) (lw2_head (J.up (Nat.le_succ _)) hL9 hi (fun _ => ⟨rfl, S.up (Nat.le_succ _)⟩) (fun z => absurd z e) kk))⟩
  · exact ⟨J.O, AW.k1 (AW.less (by omega) (by omega) (lw2_head (J.out.up (Nat.le_succ _)) hL9 hi (fun z => absurd e z) (fun _ => ⟨rfl, (S.zj (Y := zs Z 48 0 0) zs48_j).out.up (Nat.le_succ _), J.I.w48, oO⟩) kk))⟩
set_option maxHeartbeats 1000000 in
theorem lw1_field (J : LK sc L h Z c) (S : SIM h Z c) (hL9 : L < 2147483648) (hc : c < 512) (hi : 0 ≤ i ∧ i + 6 ≤ (L : Int))
    (kk : ∀ h2 Z2, LK sc L h2 Z2 (c + 1) → SIM h2 Z2 (c + 1) → AW mL_law 14 548 mc ms Q bc bs 2094 h2 (lwl i) []) : AW mL_law 14 548 mc ms Q (bc + 200) (bs + 1200) 898 h (lwl i) [] := by
  refine AW.aload_n dL_law_898 rfl ?_
  refine AW.sarg J.S9 hL9 hi (by decide) rfl rfl dL_law_899 dL_law_900 dL_law_902 dL_law_903 dL_law_904 ?_
  refine AW.sarg J.S9 hL9 hi (by decide) rfl rfl dL_law_905 dL_law_906 dL_law_908 dL_law_909 dL_law_910 ?_
  refine AW.sarg J.S9 hL9 hi (by decide) rfl rfl dL_law_911 dL_law_912 dL_law_914 dL_law_915 dL_law_916 ?_
  refine AW.aload_n dL_law_917 rfl ?_
  refine AW.callSH (as := [vr mF, vi _, vi _, vi _, vr nO]) dL_law_918 rfl rfl rfl okL_field lkL_145 rfl rfl rfl (by omega) (by omega) rfl (kL_field S.f (sX7_field S J.I.1 (fun e => ?_) (fun e => ?_) (fun e => ?_)))
  · exact ⟨1, by simp, AW.k1 (AW.less (by omega) (by omega) (lw2_field (J.up (Nat.le_succ _)) hL9 hi (fun _ => ⟨e.symm, S.up (Nat.le_succ _)⟩) (fun z => absurd z (by omega)) kk))⟩
  · exact ⟨2, by simp, AW.k1 (AW.less (by omega) (by omega) (lw2_field (J.up (Nat.le_succ _)) hL9 hi (fun _ => ⟨e.symm, S.up (Nat.le_succ _)⟩) (fun z => absurd z (by omega)) kk))⟩
  · exact ⟨J.O, AW.k1 (AW.less (by omega) (by omega) (lw2_field (J.out.up (Nat.le_succ _)) hL9 hi (fun z => absurd z (by omega)) (fun _ => ⟨rfl, (S.zj (Y := zs Z 48 0 0) zs48_j).out.up (Nat.le_succ _), J.I.w48, oO⟩) kk))⟩
set_option maxHeartbeats 1000000 in
theorem lw1_text (J : LK sc L h Z c) (S : SIM h Z c) (hL9 : L < 2147483648) (hc : c < 512) (hi : 0 ≤ i ∧ i + 6 ≤ (L : Int))
    (kk : ∀ h2 Z2, LK sc L h2 Z2 (c + 1) → SIM h2 Z2 (c + 1) → AW mL_law 14 548 mc ms Q bc bs 2094 h2 (lwl i) []) : AW mL_law 14 548 mc ms Q (bc + 200) (bs + 1200) 978 h (lwl i) [] := by
  refine AW.aload_n dL_law_978 rfl ?_
  refine AW.sarg J.S9 hL9 hi (by decide) rfl rfl dL_law_979 dL_law_980 dL_law_982 dL_law_983 dL_law_984 ?_
  refine AW.sarg J.S9 hL9 hi (by decide) rfl rfl dL_law_985 dL_law_986 dL_law_988 dL_law_989 dL_law_990 ?_
  refine AW.sarg J.S9 hL9 hi (by decide) rfl rfl dL_law_991 dL_law_992 dL_law_994 dL_law_995 dL_law_996 ?_
  refine AW.aload_n dL_law_997 rfl ?_
  refine AW.callSH (as := [vr mF, vi _, vi _, vi _, vr nO]) dL_law_998 rfl rfl rfl okL_text lkL_148 rfl rfl rfl (by omega) (by omega) rfl (kL_text S.f (sX7_text S J.I J.2.2.2.1 (J.2.2.2.2.2.2 c (Nat.le_refl _)).1 (J.2.2.2.2.2.2 c (Nat.le_refl _)).2 (fun e g F => ?_) (fun e g F => ?_)))
  · exact ⟨1, by simp, AW.k1 (AW.less (by omega) (by omega) (lw2_text (J.tx F) hL9 hi (fun _ => ⟨rfl, (S.tx F).up (Nat.le_succ _)⟩) (fun z => absurd z (by omega)) kk))⟩
  · exact ⟨(J.tx F).O, AW.k1 (AW.less (by omega) (by omega) (lw2_text (J.tx F).out hL9 hi (fun z => absurd z (by omega)) (fun _ => ⟨rfl, ((S.tx F).zj (Y := zs Z 48 0 0) zs48_j).out.up (Nat.le_succ _), J.I.w48, oO⟩) kk))⟩
set_option maxHeartbeats 1000000 in
theorem lw1_form (J : LK sc L h Z c) (S : SIM h Z c) (hL9 : L < 2147483648) (hc : c < 512) (hi : 0 ≤ i ∧ i + 6 ≤ (L : Int))
    (kk : ∀ h2 Z2, LK sc L h2 Z2 (c + 1) → SIM h2 Z2 (c + 1) → AW mL_law 14 548 mc ms Q bc bs 2094 h2 (lwl i) []) : AW mL_law 14 548 mc ms Q (bc + 200) (bs + 1200) 1058 h (lwl i) [] := by
  refine AW.aload_n dL_law_1058 rfl ?_
  refine AW.sarg J.S9 hL9 hi (by decide) rfl rfl dL_law_1059 dL_law_1060 dL_law_1062 dL_law_1063 dL_law_1064 ?_
  refine AW.aload_n dL_law_1065 rfl ?_
  refine AW.callSH (as := [vr mF, vi _, vr nO]) dL_law_1066 rfl rfl rfl okL_form lkL_151 rfl rfl rfl (by omega) (by omega) rfl (kL_form S.f (sX7_form S J.I.2.1 (fun e => ?_) (fun e => ?_) (fun e g S2 F => ?_)))
  · exact ⟨1, by simp, AW.k1 (AW.less (by omega) (by omega) (lw2_form (J.up (Nat.le_succ _)) hL9 hi (fun _ => ⟨e.symm, S.up (Nat.le_succ _)⟩) (fun z => absurd z (by omega)) kk))⟩
  · exact ⟨2, by simp, AW.k1 (AW.less (by omega) (by omega) (lw2_form (J.up (Nat.le_succ _)) hL9 hi (fun _ => ⟨e.symm, S.up (Nat.le_succ _)⟩) (fun z => absurd z (by omega)) kk))⟩
  · exact ⟨(J.mo F).O, AW.k1 (AW.less (by omega) (by omega) (lw2_form ((J.mo F).out.up (Nat.le_succ _)) hL9 hi (fun z => absurd z (by omega)) (fun _ => ⟨rfl, S2.out.up (Nat.le_succ _), zi_for J.I e, oO⟩) kk))⟩
set_option maxHeartbeats 1000000 in
theorem lw1_take (J : LK sc L h Z c) (S : SIM h Z c) (hL9 : L < 2147483648) (hc : c < 512) (hi : 0 ≤ i ∧ i + 6 ≤ (L : Int))
    (kk : ∀ h2 Z2, LK sc L h2 Z2 (c + 1) → SIM h2 Z2 (c + 1) → AW mL_law 14 548 mc ms Q bc bs 2094 h2 (lwl i) []) : AW mL_law 14 548 mc ms Q (bc + 200) (bs + 1200) 1114 h (lwl i) [] := by
  refine AW.aload_n dL_law_1114 rfl ?_
  refine AW.sarg J.S9 hL9 hi (by decide) rfl rfl dL_law_1115 dL_law_1116 dL_law_1118 dL_law_1119 dL_law_1120 ?_
  refine AW.sarg J.S9 hL9 hi (by decide) rfl rfl dL_law_1121 dL_law_1122 dL_law_1124 dL_law_1125 dL_law_1126 ?_
  refine AW.sarg J.S9 hL9 hi (by decide) rfl rfl dL_law_1127 dL_law_1128 dL_law_1130 dL_law_1131 dL_law_1132 ?_
  refine AW.nz dL_law_1133 dL_law_1136 dL_law_1137 dL_law_1140 ?_
  refine AW.aload_n dL_law_1141 rfl ?_
  refine AW.callSH (as := [vr mF, vi _, vi _, vi _, vr nO]) dL_law_1142 rfl rfl rfl okL_take lkL_154 rfl rfl rfl (by omega) (by omega) rfl (kL_take S.f (sX7_take S J.I.1 (nz01 _) (fun e => ?_) (fun e => ?_) (fun e g S2 F => ?_)))
  · exact ⟨1, by simp, AW.k1 (AW.less (by omega) (by omega) (lw2_take (J.up (Nat.le_succ _)) hL9 hi (fun _ => ⟨e.symm, S.up (Nat.le_succ _)⟩) (fun z => absurd z (by omega)) kk))⟩
  · exact ⟨2, by simp, AW.k1 (AW.less (by omega) (by omega) (lw2_take (J.up (Nat.le_succ _)) hL9 hi (fun _ => ⟨e.symm, S.up (Nat.le_succ _)⟩) (fun z => absurd z (by omega)) kk))⟩
  · exact ⟨(J.mo F).O, AW.k1 (AW.less (by omega) (by omega) (lw2_take ((J.mo F).out.up (Nat.le_succ _)) hL9 hi (fun z => absurd z (by omega)) (fun _ => ⟨rfl, S2.out.up (Nat.le_succ _), zi_tak J.I (nz01 _) e, oO⟩) kk))⟩
set_option maxHeartbeats 1000000 in
theorem lw1_letGo (J : LK sc L h Z c) (S : SIM h Z c) (hL9 : L < 2147483648) (hc : c < 512) (hi : 0 ≤ i ∧ i + 6 ≤ (L : Int))
    (kk : ∀ h2 Z2, LK sc L h2 Z2 (c + 1) → SIM h2 Z2 (c + 1) → AW mL_law 14 548 mc ms Q bc bs 2094 h2 (lwl i) []) : AW mL_law 14 548 mc ms Q (bc + 200) (bs + 1200) 1210 h (lwl i) [] := by
  refine AW.aload_n dL_law_1210 rfl ?_
  refine AW.sarg J.S9 hL9 hi (by decide) rfl rfl dL_law_1211 dL_law_1212 dL_law_1214 dL_law_1215 dL_law_1216 ?_
  refine AW.sarg J.S9 hL9 hi (by decide) rfl rfl dL_law_1217 dL_law_1218 dL_law_1220 dL_law_1221 dL_law_1222 ?_
  refine AW.aload_n dL_law_1223 rfl ?_
  refine AW.callSH (as := [vr mF, vi _, vi _, vr nO]) dL_law_1224 rfl rfl rfl okL_letGo lkL_158 rfl rfl rfl (by omega) (by omega) rfl (kL_letGo S.f (sX7_letGo S J.I.1 (fun e => ?_) (fun e g S2 F => ?_)))
  · exact ⟨1, by simp, AW.k1 (AW.less (by omega) (by omega) (lw2_letGo (J.up (Nat.le_succ _)) hL9 hi (fun _ => ⟨rfl, S.up (Nat.le_succ _)⟩) (fun z => absurd z (by omega)) kk))⟩
  · exact ⟨(J.mo F).O, AW.k1 (AW.less (by omega) (by omega) (lw2_letGo ((J.mo F).out.up (Nat.le_succ _)) hL9 hi (fun z => absurd z (by omega)) (fun _ => ⟨rfl, S2.out.up (Nat.le_succ _), zi_let J.I S e S2, oO⟩) kk))⟩
set_option maxHeartbeats 1000000 in
theorem lw1_retire (J : LK sc L h Z c) (S : SIM h Z c) (hL9 : L < 2147483648) (hc : c < 512) (hi : 0 ≤ i ∧ i + 6 ≤ (L : Int))
    (kk : ∀ h2 Z2, LK sc L h2 Z2 (c + 1) → SIM h2 Z2 (c + 1) → AW mL_law 14 548 mc ms Q bc bs 2094 h2 (lwl i) []) : AW mL_law 14 548 mc ms Q (bc + 200) (bs + 1200) 1278 h (lwl i) [] := by
  refine AW.aload_n dL_law_1278 rfl ?_
  refine AW.sarg J.S9 hL9 hi (by decide) rfl rfl dL_law_1279 dL_law_1280 dL_law_1282 dL_law_1283 dL_law_1284 ?_
  refine AW.aload_n dL_law_1285 rfl ?_
  refine AW.callSH (as := [vr mF, vi _, vr nO]) dL_law_1286 rfl rfl rfl okL_retire lkL_161 rfl rfl rfl (by omega) (by omega) rfl (kL_retire S.f (sX7_retire S J.I.1 (fun e => ?_) (fun e => ?_) (fun e g S2 F => ?_)))
  · exact ⟨1, by simp, AW.k1 (AW.less (by omega) (by omega) (lw2_retire (J.up (Nat.le_succ _)) hL9 hi (fun _ => ⟨e.symm, S.up (Nat.le_succ _)⟩) (fun z => absurd z (by omega)) kk))⟩
  · exact ⟨2, by simp, AW.k1 (AW.less (by omega) (by omega) (lw2_retire (J.up (Nat.le_succ _)) hL9 hi (fun _ => ⟨e.symm, S.up (Nat.le_succ _)⟩) (fun z => absurd z (by omega)) kk))⟩
  · exact ⟨(J.mo F).O, AW.k1 (AW.less (by omega) (by omega) (lw2_retire ((J.mo F).out.up (Nat.le_succ _)) hL9 hi (fun z => absurd z (by omega)) (fun _ => ⟨rfl, S2.out.up (Nat.le_succ _), zi_ret J.I S e S2, oO⟩) kk))⟩
set_option maxHeartbeats 1000000 in
theorem lw1_renew (J : LK sc L h Z c) (S : SIM h Z c) (hL9 : L < 2147483648) (hc : c < 512) (hi : 0 ≤ i ∧ i + 6 ≤ (L : Int))
    (kk : ∀ h2 Z2, LK sc L h2 Z2 (c + 1) → SIM h2 Z2 (c + 1) → AW mL_law 14 548 mc ms Q bc bs 2094 h2 (lwl i) []) : AW mL_law 14 548 mc ms Q (bc + 200) (bs + 1200) 1334 h (lwl i) [] := by
  refine AW.aload_n dL_law_1334 rfl ?_
  refine AW.sarg J.S9 hL9 hi (by decide) rfl rfl dL_law_1335 dL_law_1336 dL_law_1338 dL_law_1339 dL_law_1340 ?_
  refine AW.aload_n dL_law_1341 rfl ?_
  refine AW.callSH (as := [vr mF, vi _, vr nO]) dL_law_1342 rfl rfl rfl okL_renew lkL_164 rfl rfl rfl (by omega) (by omega) rfl (kL_renew S.f (sX7_renew S J.I.1 (fun e => ?_) (fun e => ?_) (fun e g S2 F => ?_)))
  · exact ⟨1, by simp, AW.k1 (AW.less (by omega) (by omega) (lw2_renew (J.up (Nat.le_succ _)) hL9 hi (fun _ => ⟨e.symm, S.up (Nat.le_succ _)⟩) (fun z => absurd z (by omega)) kk))⟩
  · exact ⟨2, by simp, AW.k1 (AW.less (by omega) (by omega) (lw2_renew (J.up (Nat.le_succ _)) hL9 hi (fun _ => ⟨e.symm, S.up (Nat.le_succ _)⟩) (fun z => absurd z (by omega)) kk))⟩
  · exact ⟨(J.mo F).O, AW.k1 (AW.less (by omega) (by omega) (lw2_renew ((J.mo F).out.up (Nat.le_succ _)) hL9 hi (fun z => absurd z (by omega)) (fun _ => ⟨rfl, S2.out.up (Nat.le_succ _), zi_rnw J.I S e S2, oO⟩) kk))⟩
set_option maxHeartbeats 1000000 in
theorem lw1_read (J : LK sc L h Z c) (S : SIM h Z c) (hL9 : L < 2147483648) (hc : c < 512) (hi : 0 ≤ i ∧ i + 6 ≤ (L : Int))
    (kk : ∀ h2 Z2, LK sc L h2 Z2 (c + 1) → SIM h2 Z2 (c + 1) → AW mL_law 14 548 mc ms Q bc bs 2094 h2 (lwl i) []) : AW mL_law 14 548 mc ms Q (bc + 200) (bs + 1200) 1390 h (lwl i) [] := by
  refine AW.aload_n dL_law_1390 rfl ?_
  refine AW.sarg J.S9 hL9 hi (by decide) rfl rfl dL_law_1391 dL_law_1392 dL_law_1394 dL_law_1395 dL_law_1396 ?_
  refine AW.sarg J.S9 hL9 hi (by decide) rfl rfl dL_law_1397 dL_law_1398 dL_law_1400 dL_law_1401 dL_law_1402 ?_
  refine AW.sarg J.S9 hL9 hi (by decide) rfl rfl dL_law_1403 dL_law_1404 dL_law_1406 dL_law_1407 dL_law_1408 ?_
  refine AW.aload_n dL_law_1409 rfl ?_
  refine AW.callSH (as := [vr mF, vi _, vi _, vi _, vr nO]) dL_law_1410 rfl rfl rfl okL_read lkL_167 rfl rfl rfl (by omega) (by omega) rfl (kL_read S.f (sX7_read S J.I.1 (fun e => ?_) (fun e => ?_) (fun e g S2 F => ?_)))
  · exact ⟨1, by simp, AW.k1 (AW.less (by omega) (by omega) (lw2_read (J.up (Nat.le_succ _)) hL9 hi (fun _ => ⟨e.symm, S.up (Nat.le_succ _)⟩) (fun z => absurd z (by omega)) kk))⟩
  · exact ⟨2, by simp, AW.k1 (AW.less (by omega) (by omega) (lw2_read (J.up (Nat.le_succ _)) hL9 hi (fun _ => ⟨e.symm, S.up (Nat.le_succ _)⟩) (fun z => absurd z (by omega)) kk))⟩
  · exact ⟨(J.mo F).O, AW.k1 (AW.less (by omega) (by omega) (lw2_read ((J.mo F).out.up (Nat.le_succ _)) hL9 hi (fun z => absurd z (by omega)) (fun _ => ⟨rfl, S2.out.up (Nat.le_succ _), zi_rea J.I S e S2, oO⟩) kk))⟩
set_option maxHeartbeats 1000000 in
theorem lw1_write (J : LK sc L h Z c) (S : SIM h Z c) (hL9 : L < 2147483648) (hc : c < 512) (hi : 0 ≤ i ∧ i + 6 ≤ (L : Int))
    (kk : ∀ h2 Z2, LK sc L h2 Z2 (c + 1) → SIM h2 Z2 (c + 1) → AW mL_law 14 548 mc ms Q bc bs 2094 h2 (lwl i) []) : AW mL_law 14 548 mc ms Q (bc + 200) (bs + 1200) 1470 h (lwl i) [] := by
  refine AW.aload_n dL_law_1470 rfl ?_
  refine AW.sarg J.S9 hL9 hi (by decide) rfl rfl dL_law_1471 dL_law_1472 dL_law_1474 dL_law_1475 dL_law_1476 ?_
  refine AW.sarg J.S9 hL9 hi (by decide) rfl rfl dL_law_1477 dL_law_1478 dL_law_1480 dL_law_1481 dL_law_1482 ?_
  refine AW.sarg J.S9 hL9 hi (by decide) rfl rfl dL_law_1483 dL_law_1484 dL_law_1486 dL_law_1487 dL_law_1488 ?_
  refine AW.sarg J.S9 hL9 hi (by decide) rfl rfl dL_law_1489 dL_law_1490 dL_law_1492 dL_law_1493 dL_law_1494 ?_
  refine AW.aload_n dL_law_1495 rfl ?_
  refine AW.callSH (as := [vr mF, vi _, vi _, vi _, vi _, vr nO]) dL_law_1496 rfl rfl rfl okL_write lkL_170 rfl rfl rfl (by omega) (by omega) rfl (kL_write S.f (sX7_write S J.I.1 hc (fun e => ?_) (fun e => ?_) (fun e => ?_) (fun e g S2 F => ?_)))
  · exact ⟨1, by simp, AW.k1 (AW.less (by omega) (by omega) (lw2_write (J.up (Nat.le_succ _)) hL9 hi (fun _ => ⟨e.symm, S.up (Nat.le_succ _)⟩) (fun z => absurd z (by omega)) kk))⟩
  · exact ⟨2, by simp, AW.k1 (AW.less (by omega) (by omega) (lw2_write (J.up (Nat.le_succ _)) hL9 hi (fun _ => ⟨e.symm, S.up (Nat.le_succ _)⟩) (fun z => absurd z (by omega)) kk))⟩
  · exact ⟨3, by simp, AW.k1 (AW.less (by omega) (by omega) (lw2_write (J.up (Nat.le_succ _)) hL9 hi (fun _ => ⟨e.symm, S.up (Nat.le_succ _)⟩) (fun z => absurd z (by omega)) kk))⟩
  · exact ⟨(J.mo F).O, AW.k1 (AW.less (by omega) (by omega) (lw2_write ((J.mo F).out.up (Nat.le_succ _)) hL9 hi (fun z => absurd z (by omega)) (fun _ => ⟨rfl, S2.out, zi_wri J.I S e S2, oO⟩) kk))⟩
set_option maxHeartbeats 1000000 in
theorem lw1_row (J : LK sc L h Z c) (S : SIM h Z c) (hL9 : L < 2147483648) (hc : c < 512) (hi : 0 ≤ i ∧ i + 6 ≤ (L : Int))
    (kk : ∀ h2 Z2, LK sc L h2 Z2 (c + 1) → SIM h2 Z2 (c + 1) → AW mL_law 14 548 mc ms Q bc bs 2094 h2 (lwl i) []) : AW mL_law 14 548 mc ms Q (bc + 200) (bs + 1200) 1562 h (lwl i) [] := by
  refine AW.aload_n dL_law_1562 rfl ?_
  refine AW.sarg J.S9 hL9 hi (by decide) rfl rfl dL_law_1563 dL_law_1564 dL_law_1566 dL_law_1567 dL_law_1568 ?_
  refine AW.sarg J.S9 hL9 hi (by decide) rfl rfl dL_law_1569 dL_law_1570 dL_law_1572 dL_law_1573 dL_law_1574 ?_
  refine AW.aload_n dL_law_1575 rfl ?_
  refine AW.callSH (as := [vr mF, vi _, vi _, vr nO]) dL_law_1576 rfl rfl rfl okL_row lkL_174 rfl rfl rfl (by omega) (by omega) rfl (kL_row S.f (sX7_row S J.I.2.1 hc (fun e => ?_) (fun e => ?_) (fun e g S2 F => ?_)))
  · exact ⟨1, by simp, AW.k1 (AW.less (by omega) (by omega) (lw2_row (J.up (Nat.le_succ _)) hL9 hi (fun _ => ⟨e.symm, S.up (Nat.le_succ _)⟩) (fun z => absurd z (by omega)) kk))⟩
  · exact ⟨2, by simp, AW.k1 (AW.less (by omega) (by omega) (lw2_row (J.up (Nat.le_succ _)) hL9 hi (fun _ => ⟨e.symm, S.up (Nat.le_succ _)⟩) (fun z => absurd z (by omega)) kk))⟩
  · exact ⟨(J.mo F).O, AW.k1 (AW.less (by omega) (by omega) (lw2_row ((J.mo F).out.up (Nat.le_succ _)) hL9 hi (fun z => absurd z (by omega)) (fun _ => ⟨rfl, S2.out, zi_row J.I S hc e, oO⟩) kk))⟩
set_option maxHeartbeats 1000000 in
theorem lw1_set (J : LK sc L h Z c) (S : SIM h Z c) (hL9 : L < 2147483648) (hc : c < 512) (hi : 0 ≤ i ∧ i + 6 ≤ (L : Int))
    (kk : ∀ h2 Z2, LK sc L h2 Z2 (c + 1) → SIM h2 Z2 (c + 1) → AW mL_law 14 548 mc ms Q bc bs 2094 h2 (lwl i) []) : AW mL_law 14 548 mc ms Q (bc + 200) (bs + 1200) 1630 h (lwl i) [] := by
  refine AW.aload_n dL_law_1630 rfl ?_
  refine AW.sarg J.S9 hL9 hi (by decide) rfl rfl dL_law_1631 dL_law_1632 dL_law_1634 dL_law_1635 dL_law_1636 ?_
  refine AW.sarg J.S9 hL9 hi (by decide) rfl rfl dL_law_1637 dL_law_1638 dL_law_1640 dL_law_1641 dL_law_1642 ?_
  refine AW.sarg J.S9 hL9 hi (by decide) rfl rfl dL_law_1643 dL_law_1644 dL_law_1646 dL_law_1647 dL_law_1648 ?_
  refine AW.aload_n dL_law_1649 rfl ?_
  refine AW.callSH (as := [vr mF, vi _, vi _, vi _, vr nO]) dL_law_1650 rfl rfl rfl okL_set lkL_177 rfl rfl rfl (by omega) (by omega) rfl (kL_set S.f (sX7_set S J.I.1 hc (fun e => ?_) (fun e => ?_) (fun e g S2 F => ?_)))
  · exact ⟨1, by simp, AW.k1 (AW.less (by omega) (by omega) (lw2_set (J.up (Nat.le_succ _)) hL9 hi (fun _ => ⟨e.symm, S.up (Nat.le_succ _)⟩) (fun z => absurd z (by omega)) kk))⟩
  · exact ⟨2, by simp, AW.k1 (AW.less (by omega) (by omega) (lw2_set (J.up (Nat.le_succ _)) hL9 hi (fun _ => ⟨e.symm, S.up (Nat.le_succ _)⟩) (fun z => absurd z (by omega)) kk))⟩
  · exact ⟨(J.mo F).O, AW.k1 (AW.less (by omega) (by omega) (lw2_set ((J.mo F).out.up (Nat.le_succ _)) hL9 hi (fun z => absurd z (by omega)) (fun _ => ⟨rfl, S2.out, zi_set J.I e S2, oO⟩) kk))⟩
set_option maxHeartbeats 1000000 in
theorem lw1_value (J : LK sc L h Z c) (S : SIM h Z c) (hL9 : L < 2147483648) (hc : c < 512) (hi : 0 ≤ i ∧ i + 6 ≤ (L : Int))
    (kk : ∀ h2 Z2, LK sc L h2 Z2 (c + 1) → SIM h2 Z2 (c + 1) → AW mL_law 14 548 mc ms Q bc bs 2094 h2 (lwl i) []) : AW mL_law 14 548 mc ms Q (bc + 200) (bs + 1200) 1710 h (lwl i) [] := by
  refine AW.aload_n dL_law_1710 rfl ?_
  refine AW.sarg J.S9 hL9 hi (by decide) rfl rfl dL_law_1711 dL_law_1712 dL_law_1714 dL_law_1715 dL_law_1716 ?_
  refine AW.sarg J.S9 hL9 hi (by decide) rfl rfl dL_law_1717 dL_law_1718 dL_law_1720 dL_law_1721 dL_law_1722 ?_
  refine AW.sarg J.S9 hL9 hi (by decide) rfl rfl dL_law_1723 dL_law_1724 dL_law_1726 dL_law_1727 dL_law_1728 ?_
  refine AW.aload_n dL_law_1729 rfl ?_
  refine AW.callSH (as := [vr mF, vi _, vi _, vi _, vr nO]) dL_law_1730 rfl rfl rfl okL_value lkL_180 rfl rfl rfl (by omega) (by omega) rfl (kL_value S.f (sX7_value S J.I.1 (fun e => ?_) (fun e g S2 F => ?_)))
  · exact ⟨1, by simp, AW.k1 (AW.less (by omega) (by omega) (lw2_value (J.up (Nat.le_succ _)) hL9 hi (fun _ => ⟨rfl, S.up (Nat.le_succ _)⟩) (fun z => absurd e z) kk))⟩
  · exact ⟨(J.mo F).O, AW.k1 (AW.less (by omega) (by omega) (lw2_value ((J.mo F).out.up (Nat.le_succ _)) hL9 hi (fun z => absurd z e) (fun _ => ⟨rfl, S2.out.up (Nat.le_succ _), zi_val J.I S e S2, oO⟩) kk))⟩
set_option maxHeartbeats 1000000 in
theorem lw1_replayed (J : LK sc L h Z c) (S : SIM h Z c) (hL9 : L < 2147483648) (hc : c < 512) (hi : 0 ≤ i ∧ i + 6 ≤ (L : Int))
    (kk : ∀ h2 Z2, LK sc L h2 Z2 (c + 1) → SIM h2 Z2 (c + 1) → AW mL_law 14 548 mc ms Q bc bs 2094 h2 (lwl i) []) : AW mL_law 14 548 mc ms Q (bc + 200) (bs + 1200) 1790 h (lwl i) [] := by
  refine AW.aload_n dL_law_1790 rfl ?_
  refine AW.sarg J.S9 hL9 hi (by decide) rfl rfl dL_law_1791 dL_law_1792 dL_law_1794 dL_law_1795 dL_law_1796 ?_
  refine AW.sarg J.S9 hL9 hi (by decide) rfl rfl dL_law_1797 dL_law_1798 dL_law_1800 dL_law_1801 dL_law_1802 ?_
  refine AW.aload_n dL_law_1803 rfl ?_
  refine AW.callSH (as := [vr mF, vi _, vi _, vr nO]) dL_law_1804 rfl rfl rfl okL_replayed lkL_183 rfl rfl rfl (by omega) (by omega) rfl (kL_replayed S.f (sX7_replayed S (fun e => ?_) (fun e => ?_)))
  · exact ⟨1, by simp, AW.k1 (AW.less (by omega) (by omega) (lw2_replayed (J.up (Nat.le_succ _)) hL9 hi (fun _ => ⟨rfl, S.up (Nat.le_succ _)⟩) (fun z => absurd e z) kk))⟩
  · exact ⟨J.O, AW.k1 (AW.less (by omega) (by omega) (lw2_replayed (J.out.up (Nat.le_succ _)) hL9 hi (fun z => absurd z e) (fun _ => ⟨rfl, (S.zj (Y := zs Z 48 0 0) zs48_j).out.up (Nat.le_succ _), J.I.w48, oO⟩) kk))⟩
set_option maxHeartbeats 1000000 in
theorem lw1_standing (J : LK sc L h Z c) (S : SIM h Z c) (hL9 : L < 2147483648) (hc : c < 512) (hi : 0 ≤ i ∧ i + 6 ≤ (L : Int))
    (kk : ∀ h2 Z2, LK sc L h2 Z2 (c + 1) → SIM h2 Z2 (c + 1) → AW mL_law 14 548 mc ms Q bc bs 2094 h2 (lwl i) []) : AW mL_law 14 548 mc ms Q (bc + 200) (bs + 1200) 1858 h (lwl i) [] := by
  refine AW.aload_n dL_law_1858 rfl ?_
  refine AW.sarg J.S9 hL9 hi (by decide) rfl rfl dL_law_1859 dL_law_1860 dL_law_1862 dL_law_1863 dL_law_1864 ?_
  refine AW.aload_n dL_law_1865 rfl ?_
  refine AW.callSH (as := [vr mF, vi _, vr nO]) dL_law_1866 rfl rfl rfl okL_standing lkL_186 rfl rfl rfl (by omega) (by omega) rfl (kL_standing S.f (sX7_standing S (fun e => ?_) (fun e => ?_)))
  · exact ⟨1, by simp, AW.k1 (AW.less (by omega) (by omega) (lw2_standing (J.up (Nat.le_succ _)) hL9 hi (fun _ => ⟨rfl, S.up (Nat.le_succ _)⟩) (fun z => absurd z e) kk))⟩
  · exact ⟨J.O, AW.k1 (AW.less (by omega) (by omega) (lw2_standing (J.out.up (Nat.le_succ _)) hL9 hi (fun z => absurd e z) (fun _ => ⟨rfl, (S.zj (Y := zs Z 48 0 0) zs48_j).out.up (Nat.le_succ _), J.I.w48, oO⟩) kk))⟩
set_option maxHeartbeats 1000000 in
theorem lw1_mover (J : LK sc L h Z c) (S : SIM h Z c) (hL9 : L < 2147483648) (hc : c < 512) (hi : 0 ≤ i ∧ i + 6 ≤ (L : Int))
    (kk : ∀ h2 Z2, LK sc L h2 Z2 (c + 1) → SIM h2 Z2 (c + 1) → AW mL_law 14 548 mc ms Q bc bs 2094 h2 (lwl i) []) : AW mL_law 14 548 mc ms Q (bc + 200) (bs + 1200) 1914 h (lwl i) [] := by
  refine AW.aload_n dL_law_1914 rfl ?_
  refine AW.sarg J.S9 hL9 hi (by decide) rfl rfl dL_law_1915 dL_law_1916 dL_law_1918 dL_law_1919 dL_law_1920 ?_
  refine AW.sarg J.S9 hL9 hi (by decide) rfl rfl dL_law_1921 dL_law_1922 dL_law_1924 dL_law_1925 dL_law_1926 ?_
  refine AW.aload_n dL_law_1927 rfl ?_
  refine AW.callSH (as := [vr mF, vi _, vi _, vr nO]) dL_law_1928 rfl rfl rfl okL_mover lkL_189 rfl rfl rfl (by omega) (by omega) rfl (kL_mover S.f (sX7_mover S (fun e => ?_) (fun e => ?_) (fun e g S2 F => ?_)))
  · exact ⟨1, by simp, AW.k1 (AW.less (by omega) (by omega) (lw2_mover (J.up (Nat.le_succ _)) hL9 hi (fun _ => ⟨e.symm, S.up (Nat.le_succ _)⟩) (fun z => absurd z (by omega)) kk))⟩
  · exact ⟨2, by simp, AW.k1 (AW.less (by omega) (by omega) (lw2_mover (J.up (Nat.le_succ _)) hL9 hi (fun _ => ⟨e.symm, S.up (Nat.le_succ _)⟩) (fun z => absurd z (by omega)) kk))⟩
  · exact ⟨(J.mo F).O, AW.k1 (AW.less (by omega) (by omega) (lw2_mover ((J.mo F).out.up (Nat.le_succ _)) hL9 hi (fun z => absurd z (by omega)) (fun _ => ⟨rfl, S2.out.up (Nat.le_succ _), zi_mov J.I S e, oO⟩) kk))⟩
set_option maxHeartbeats 1000000 in
theorem lw1_step (J : LK sc L h Z c) (S : SIM h Z c) (hL9 : L < 2147483648) (hc : c < 512) (hi : 0 ≤ i ∧ i + 6 ≤ (L : Int))
    (kk : ∀ h2 Z2, LK sc L h2 Z2 (c + 1) → SIM h2 Z2 (c + 1) → AW mL_law 14 548 mc ms Q bc bs 2094 h2 (lwl i) []) : AW mL_law 14 548 mc ms Q (bc + 200) (bs + 1200) 1982 h (lwl i) [] := by
  have hX : 0 ≤ Z 32 0 ∧ Z 32 0 < 4096 := by obtain ⟨A, S9⟩ := S; have := S9.c32; have := S9.1.2.2.2.2.2.2.2; omega
  refine AW.aload_n dL_law_1982 rfl ?_
  refine AW.sarg J.S9 hL9 hi (by decide) rfl rfl dL_law_1983 dL_law_1984 dL_law_1986 dL_law_1987 dL_law_1988 ?_
  refine AW.aload_n dL_law_1989 rfl ?_
  refine AW.callSH (as := [vr mF, vi _, vr nO]) dL_law_1990 rfl rfl rfl okL_step lkL_192 rfl rfl rfl (by omega) (by omega) rfl (kL_step S.f (sX7_step S J.I.1 hc (fun e => ?_) (fun e => ?_) (fun e g S2 F => ?_)))
  · exact ⟨1, by simp, AW.k1 (AW.less (by omega) (by omega) (lw2_step (J.up (Nat.le_succ _)) hX hL9 hi (fun _ => ⟨e.symm, S.up (Nat.le_succ _)⟩) (fun z => absurd z (by omega)) kk))⟩
  · exact ⟨2, by simp, AW.k1 (AW.less (by omega) (by omega) (lw2_step (J.up (Nat.le_succ _)) hX hL9 hi (fun _ => ⟨e.symm, S.up (Nat.le_succ _)⟩) (fun z => absurd z (by omega)) kk))⟩
  · exact ⟨(J.mo F).O, AW.k1 (AW.less (by omega) (by omega) (lw2_step ((J.mo F).out.up (Nat.le_succ _)) hX hL9 hi (fun z => absurd z (by omega)) (fun _ => ⟨rfl, S2.out, zi_stp J.I S hc hc e S2, oO⟩) kk))⟩
set_option maxHeartbeats 1000000 in
theorem lw1_undo (J : LK sc L h Z c) (S : SIM h Z c) (hL9 : L < 2147483648) (hc : c < 512) (hi : 0 ≤ i ∧ i + 6 ≤ (L : Int))
    (kk : ∀ h2 Z2, LK sc L h2 Z2 (c + 1) → SIM h2 Z2 (c + 1) → AW mL_law 14 548 mc ms Q bc bs 2094 h2 (lwl i) []) : AW mL_law 14 548 mc ms Q (bc + 200) (bs + 1200) 2038 h (lwl i) [] := by
  refine AW.aload_n dL_law_2038 rfl ?_
  refine AW.sarg J.S9 hL9 hi (by decide) rfl rfl dL_law_2039 dL_law_2040 dL_law_2042 dL_law_2043 dL_law_2044 ?_
  refine AW.aload_n dL_law_2045 rfl ?_
  refine AW.callSH (as := [vr mF, vi _, vr nO]) dL_law_2046 rfl rfl rfl okL_undo lkL_195 rfl rfl rfl (by omega) (by omega) rfl (kL_undo S.f (sX7_undo S J.I.2.2 (fun e => ?_) (fun e => ?_) (fun e g S2 F => ?_)))
  · exact ⟨1, by simp, AW.k1 (AW.less (by omega) (by omega) (lw2_undo (J.up (Nat.le_succ _)) hL9 hi (fun _ => ⟨e.symm, S.up (Nat.le_succ _)⟩) (fun z => absurd z (by omega)) kk))⟩
  · exact ⟨2, by simp, AW.k1 (AW.less (by omega) (by omega) (lw2_undo (J.up (Nat.le_succ _)) hL9 hi (fun _ => ⟨e.symm, S.up (Nat.le_succ _)⟩) (fun z => absurd z (by omega)) kk))⟩
  · exact ⟨(J.mo F).O, AW.k1 (AW.less (by omega) (by omega) (lw2_undo ((J.mo F).out.up (Nat.le_succ _)) hL9 hi (fun z => absurd z (by omega)) (fun _ => ⟨rfl, S2.out.up (Nat.le_succ _), zi_und J.I S (Nat.le_of_lt hc) e S2, oO⟩) kk))⟩
end LW2
