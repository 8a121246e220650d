/-! ===== the calls, relation and model together ===== -/
section S1x
variable {Q : AH → AO → Prop} {h g : AH} {Z : ZT} {c : Nat}
theorem jX7_schema (S : SIM h Z c) (I : ZI Z) (k1 : Z 0 0 = 4 → Q h (.inr eIs)) (k0 : Z 0 0 < 4 → ∀ g, SIM g (zs (zs Z 48 0 0) 0 0 (Z 0 0 + 1)) c → ZI (zs (zs Z 48 0 0) 0 0 (Z 0 0 + 1)) → Fr nMo h g → Q g (.inl (some (vi (Z 0 0))))) : AC mX7_schema fX7_schema loX7_schema 36 900 h [vr mF] Q :=
  sX7_schema S I.2.1 k1 (fun h4 g S' F => k0 h4 g S' (I.sch h4) F)
theorem jX7_undo {m : Int} (S : SIM h Z c) (I : ZI Z) (k1 : zcUnd Z m = 1 → Q h (.inr eIx)) (k2 : zcUnd Z m = 2 → Q h (.inr eIs))
    (k0 : zcUnd Z m = 0 → ∀ g, SIM g (zUnd Z m (Z 31 m.toNat)) c → Fr nMo h g → Q g (.inl (some (vi (Z 34 (Z 31 m.toNat).toNat))))) : AC mX7_undo fX7_undo loX7_undo 6 36 h [vr mF, vi m] Q :=
  sX7_undo S I.2.2 k1 k2 k0
end S1x
