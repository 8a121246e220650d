/-! ===== the model: text ===== -/
section M22
variable {Q : AH → AO → Prop} {h : AH} {Z : ZT}
def swAll (P : Nat → Nat → Prop) : Nat → List Nat → Prop
  | _, [] => True
  | j, t :: ts => P j t ∧ swAll P (j + 1) ts
theorem swAll_get {P : Nat → Nat → Prop} : ∀ (ts : List Nat) (j0 j t : Nat), swAll P j0 ts → ts[j]? = some t → P (j0 + j) t
  | [], _, _, _, _, e => by simp at e
  | a :: ts, j0, 0, t, k, e => by
    simp at e; subst e; exact k.1
  | a :: ts, j0, j + 1, t, k, e => by
    have := swAll_get ts (j0 + 1) j t k.2 (by simpa using e)
    rw [show j0 + (j + 1) = j0 + 1 + j by omega]; exact this
theorem AW.tsw {M : MI} {fr lo mc ms bc bs pc : Nat} {Q : AH → AO → Prop} {h : AH} {loc : AL} {st : List AV} {x dflt lo9 hi9 : Int} {offs : Array Int} {len : Nat} (ts : List Nat) {td : Nat} (hd : decode M.2.1 pc = .ok (.tableswitch dflt lo9 hi9 offs, len)) (hts : (offs.toList == ts.map (fun t : Nat => (t : Int) - (pc : Int))) = true)
    (htd : Nat.beq (pc + dflt.toNat) (td + (-dflt).toNat) = true) (hlen : (hi9 - lo9 + 1 == (offs.size : Int)) = true) (kin : swAll (fun j tgt => x = lo9 + (j : Int) → AW M fr lo mc ms Q bc bs tgt h loc st) 0 ts) (kout : (x < lo9 ∨ hi9 < x) → AW M fr lo mc ms Q bc bs td h loc st) : AW M fr lo mc ms Q bc bs pc h loc (vi x :: st) := by
  have e := eq_of_beq hts
  refine AW.tswitch hd ?_ htd kout hlen ?_
  · intro j o tgt ho hx _ ht
    rw [← Array.getElem?_toList, e, List.getElem?_map] at ho
    cases q : ts[j]? with
    | none => rw [q] at ho; simp at ho
    | some t =>
      rw [q] at ho
      simp at ho
      have := swAll_get ts 0 j t kin q
      rw [Nat.zero_add] at this
      rw [show tgt = t by omega]
      exact this hx
  · rw [e, List.all_map]
    refine List.all_eq_true.mpr (fun t _ => ?_)
    simp only [Function.comp, decide_eq_true_eq]
    omega
theorem AW.rng {M : MI} {fr lo mc ms bc bs pc : Nat} {Q : AH → AO → Prop} {h : AH} {loc : AL} {st : List AV} {x : Int} (k : inR x → AW M fr lo mc ms Q bc bs pc h loc (vi x :: st)) : AW M fr lo mc ms Q bc bs pc h loc (vi x :: st) := by
  intro p l e s m args below meth c D dA B0 H0 C dom0 al0 al H locs cells slots ls hR hA hS hc hs ho hv hl
  exact k hv.hd p l e s m args below meth c D dA B0 H0 C dom0 al0 al H locs cells slots ls hR hA hS hc hs ho hv hl
def zl0 (i : Int) : Int := (if i = 0 then 97 else if i < 3 then 100 else 32)
def zl1 (i : Int) : Int := (if i = 0 then 114 else if i = 1 then 101 else if i = 5 then 101 else if i = 2 then 110 else if i = 3 then 97 else if i = 4 then 109 else 32)
def zl2 (i : Int) : Int := (if i = 0 then 116 else if i = 1 then 117 else if i = 2 then 114 else if i = 3 then 110 else 32)
def zl3 (i : Int) : Int := (if i = 0 then 115 else if i = 1 then 112 else if i = 2 then 108 else if i = 3 then 105 else if i = 4 then 116 else 32)
def zl4 (i : Int) : Int := (if i = 0 then 106 else if i = 1 then 111 else if i = 2 then 105 else if i = 3 then 110 else 32)
def zl5 (i : Int) : Int := (if i = 0 then 100 else if i = 1 then 114 else if i = 2 then 111 else if i = 3 then 112 else 32)
def zl6 (i : Int) : Int := (if i = 0 then 110 else if i = 1 then 101 else if i = 2 then 101 else if i = 3 then 100 else 32)
def zlet (w i : Int) : Int := if w = 0 then zl0 i else if w = 1 then zl1 i else if w = 2 then zl2 i else if w = 3 then zl3 i else if w = 4 then zl4 i else if w = 5 then zl5 i else zl6 i
theorem zlet_0 {w i : Int} (e : w = 0) : zlet w i = zl0 i := by unfold zlet; rw [if_pos e]
theorem zlet_1 {w i : Int} (e : w = 1) : zlet w i = zl1 i := by unfold zlet; rw [if_neg (by omega), if_pos e]
theorem zlet_2 {w i : Int} (e : w = 2) : zlet w i = zl2 i := by unfold zlet; rw [if_neg (by omega), if_neg (by omega), if_pos e]
theorem zlet_3 {w i : Int} (e : w = 3) : zlet w i = zl3 i := by unfold zlet; rw [if_neg (by omega), if_neg (by omega), if_neg (by omega), if_pos e]
theorem zlet_4 {w i : Int} (e : w = 4) : zlet w i = zl4 i := by unfold zlet; rw [if_neg (by omega), if_neg (by omega), if_neg (by omega), if_neg (by omega), if_pos e]
theorem zlet_5 {w i : Int} (e : w = 5) : zlet w i = zl5 i := by unfold zlet; rw [if_neg (by omega), if_neg (by omega), if_neg (by omega), if_neg (by omega), if_neg (by omega), if_pos e]
theorem zlet_6 {w i : Int} (e : w < 0 ∨ 5 < w) : zlet w i = zl6 i := by unfold zlet; rw [if_neg (by omega), if_neg (by omega), if_neg (by omega), if_neg (by omega), if_neg (by omega), if_neg (by omega)]
theorem kX8_letter {w i : Int} (k : Q h (.inl (some (vi (zlet w i))))) : AC mX8_letter fX8_letter loX8_letter 0 0 h [vi w, vi i] Q := by
  refine AC.mk (by decide) (Nat.le_of_ble_eq_true rfl) ?_
  refine AW.iload_n dX8_letter_0 rfl ?_
  refine AW.tsw [40, 62, 119, 161, 213, 255] (td := 297) dX8_letter_1 rfl rfl rfl ?_ (fun c_1 => ?_)
  · dsimp only [swAll]
    refine ⟨fun c_1 => ?_, fun c_1 => ?_, fun c_1 => ?_, fun c_1 => ?_, fun c_1 => ?_, fun c_1 => ?_, trivial⟩
    · refine AW.iload_n dX8_letter_40 rfl ?_
      refine' AW.if_neJ 61 (tgt := 49) dX8_letter_41 rfl _ _ _
      rotate_left 2
      · intro c_41 k_41
        refine AW.iload_n dX8_letter_49 rfl ?_
        refine AW.iconst dX8_letter_50 (by decide) ?_
        refine' AW.icmp_geJ 61 (tgt := 59) dX8_letter_51 rfl _ _ _
        rotate_left 2
        · intro c_51 k_51
          refine AW.bipush dX8_letter_59 bp_32 (by decide) ?_
          exact k_51
        · intro c_51 k_51
          refine AW.bipush dX8_letter_54 bp_100 (by decide) ?_
          refine AW.goto (tgt := 61) dX8_letter_56 rfl ?_
          exact k_51
        exact k_41
      · intro c_41 k_41
        refine AW.bipush dX8_letter_44 bp_97 (by decide) ?_
        refine AW.goto (tgt := 61) dX8_letter_46 rfl ?_
        exact k_41
      refine AW.cret dX8_letter_61 rfl ?_ ?_
      · (repeat' split) <;> omega
      refine fin1 k rfl ?_
      rw [zlet_0 (by omega)]
      clear k
      unfold zl0
      (repeat' split) <;> first | rfl | omega
    · refine AW.iload_n dX8_letter_62 rfl ?_
      refine' AW.if_neJ 118 (tgt := 71) dX8_letter_63 rfl _ _ _
      rotate_left 2
      · intro c_63 k_63
        refine AW.iload_n dX8_letter_71 rfl ?_
        refine AW.iconst dX8_letter_72 (by decide) ?_
        refine' AW.icmp_eqJ 118 (tgt := 81) dX8_letter_73 rfl _ _ _
        rotate_left 2
        · intro c_73 k_73
          refine AW.bipush dX8_letter_81 bp_101 (by decide) ?_
          refine AW.goto (tgt := 118) dX8_letter_83 rfl ?_
          exact k_73
        · intro c_73 k_73
          refine AW.iload_n dX8_letter_76 rfl ?_
          refine AW.iconst dX8_letter_77 (by decide) ?_
          refine' AW.icmp_neJ 118 (tgt := 86) dX8_letter_78 rfl _ _ _
          rotate_left 2
          · intro c_78 k_78
            refine AW.iload_n dX8_letter_86 rfl ?_
            refine AW.iconst dX8_letter_87 (by decide) ?_
            refine' AW.icmp_neJ 118 (tgt := 96) dX8_letter_88 rfl _ _ _
            rotate_left 2
            · intro c_88 k_88
              refine AW.iload_n dX8_letter_96 rfl ?_
              refine AW.iconst dX8_letter_97 (by decide) ?_
              refine' AW.icmp_neJ 118 (tgt := 106) dX8_letter_98 rfl _ _ _
              rotate_left 2
              · intro c_98 k_98
                refine AW.iload_n dX8_letter_106 rfl ?_
                refine AW.iconst dX8_letter_107 (by decide) ?_
                refine' AW.icmp_neJ 118 (tgt := 116) dX8_letter_108 rfl _ _ _
                rotate_left 2
                · intro c_108 k_108
                  refine AW.bipush dX8_letter_116 bp_32 (by decide) ?_
                  exact k_108
                · intro c_108 k_108
                  refine AW.bipush dX8_letter_111 bp_109 (by decide) ?_
                  refine AW.goto (tgt := 118) dX8_letter_113 rfl ?_
                  exact k_108
                exact k_98
              · intro c_98 k_98
                refine AW.bipush dX8_letter_101 bp_97 (by decide) ?_
                refine AW.goto (tgt := 118) dX8_letter_103 rfl ?_
                exact k_98
              exact k_88
            · intro c_88 k_88
              refine AW.bipush dX8_letter_91 bp_110 (by decide) ?_
              refine AW.goto (tgt := 118) dX8_letter_93 rfl ?_
              exact k_88
            exact k_78
          · intro c_78 k_78
            refine AW.bipush dX8_letter_81 bp_101 (by decide) ?_
            refine AW.goto (tgt := 118) dX8_letter_83 rfl ?_
            exact k_78
          exact k_73
        exact k_63
      · intro c_63 k_63
        refine AW.bipush dX8_letter_66 bp_114 (by decide) ?_
        refine AW.goto (tgt := 118) dX8_letter_68 rfl ?_
        exact k_63
      refine AW.cret dX8_letter_118 rfl ?_ ?_
      · (repeat' split) <;> omega
      refine fin1 k rfl ?_
      rw [zlet_1 (by omega)]
      clear k
      unfold zl1
      (repeat' split) <;> first | rfl | omega
    · refine AW.iload_n dX8_letter_119 rfl ?_
      refine' AW.if_neJ 160 (tgt := 128) dX8_letter_120 rfl _ _ _
      rotate_left 2
      · intro c_120 k_120
        refine AW.iload_n dX8_letter_128 rfl ?_
        refine AW.iconst dX8_letter_129 (by decide) ?_
        refine' AW.icmp_neJ 160 (tgt := 138) dX8_letter_130 rfl _ _ _
        rotate_left 2
        · intro c_130 k_130
          refine AW.iload_n dX8_letter_138 rfl ?_
          refine AW.iconst dX8_letter_139 (by decide) ?_
          refine' AW.icmp_neJ 160 (tgt := 148) dX8_letter_140 rfl _ _ _
          rotate_left 2
          · intro c_140 k_140
            refine AW.iload_n dX8_letter_148 rfl ?_
            refine AW.iconst dX8_letter_149 (by decide) ?_
            refine' AW.icmp_neJ 160 (tgt := 158) dX8_letter_150 rfl _ _ _
            rotate_left 2
            · intro c_150 k_150
              refine AW.bipush dX8_letter_158 bp_32 (by decide) ?_
              exact k_150
            · intro c_150 k_150
              refine AW.bipush dX8_letter_153 bp_110 (by decide) ?_
              refine AW.goto (tgt := 160) dX8_letter_155 rfl ?_
              exact k_150
            exact k_140
          · intro c_140 k_140
            refine AW.bipush dX8_letter_143 bp_114 (by decide) ?_
            refine AW.goto (tgt := 160) dX8_letter_145 rfl ?_
            exact k_140
          exact k_130
        · intro c_130 k_130
          refine AW.bipush dX8_letter_133 bp_117 (by decide) ?_
          refine AW.goto (tgt := 160) dX8_letter_135 rfl ?_
          exact k_130
        exact k_120
      · intro c_120 k_120
        refine AW.bipush dX8_letter_123 bp_116 (by decide) ?_
        refine AW.goto (tgt := 160) dX8_letter_125 rfl ?_
        exact k_120
      refine AW.cret dX8_letter_160 rfl ?_ ?_
      · (repeat' split) <;> omega
      refine fin1 k rfl ?_
      rw [zlet_2 (by omega)]
      clear k
      unfold zl2
      (repeat' split) <;> first | rfl | omega
    · refine AW.iload_n dX8_letter_161 rfl ?_
      refine' AW.if_neJ 212 (tgt := 170) dX8_letter_162 rfl _ _ _
      rotate_left 2
      · intro c_162 k_162
        refine AW.iload_n dX8_letter_170 rfl ?_
        refine AW.iconst dX8_letter_171 (by decide) ?_
        refine' AW.icmp_neJ 212 (tgt := 180) dX8_letter_172 rfl _ _ _
        rotate_left 2
        · intro c_172 k_172
          refine AW.iload_n dX8_letter_180 rfl ?_
          refine AW.iconst dX8_letter_181 (by decide) ?_
          refine' AW.icmp_neJ 212 (tgt := 190) dX8_letter_182 rfl _ _ _
          rotate_left 2
          · intro c_182 k_182
            refine AW.iload_n dX8_letter_190 rfl ?_
            refine AW.iconst dX8_letter_191 (by decide) ?_
            refine' AW.icmp_neJ 212 (tgt := 200) dX8_letter_192 rfl _ _ _
            rotate_left 2
            · intro c_192 k_192
              refine AW.iload_n dX8_letter_200 rfl ?_
              refine AW.iconst dX8_letter_201 (by decide) ?_
              refine' AW.icmp_neJ 212 (tgt := 210) dX8_letter_202 rfl _ _ _
              rotate_left 2
              · intro c_202 k_202
                refine AW.bipush dX8_letter_210 bp_32 (by decide) ?_
                exact k_202
              · intro c_202 k_202
                refine AW.bipush dX8_letter_205 bp_116 (by decide) ?_
                refine AW.goto (tgt := 212) dX8_letter_207 rfl ?_
                exact k_202
              exact k_192
            · intro c_192 k_192
              refine AW.bipush dX8_letter_195 bp_105 (by decide) ?_
              refine AW.goto (tgt := 212) dX8_letter_197 rfl ?_
              exact k_192
            exact k_182
          · intro c_182 k_182
            refine AW.bipush dX8_letter_185 bp_108 (by decide) ?_
            refine AW.goto (tgt := 212) dX8_letter_187 rfl ?_
            exact k_182
          exact k_172
        · intro c_172 k_172
          refine AW.bipush dX8_letter_175 bp_112 (by decide) ?_
          refine AW.goto (tgt := 212) dX8_letter_177 rfl ?_
          exact k_172
        exact k_162
      · intro c_162 k_162
        refine AW.bipush dX8_letter_165 bp_115 (by decide) ?_
        refine AW.goto (tgt := 212) dX8_letter_167 rfl ?_
        exact k_162
      refine AW.cret dX8_letter_212 rfl ?_ ?_
      · (repeat' split) <;> omega
      refine fin1 k rfl ?_
      rw [zlet_3 (by omega)]
      clear k
      unfold zl3
      (repeat' split) <;> first | rfl | omega
    · refine AW.iload_n dX8_letter_213 rfl ?_
      refine' AW.if_neJ 254 (tgt := 222) dX8_letter_214 rfl _ _ _
      rotate_left 2
      · intro c_214 k_214
        refine AW.iload_n dX8_letter_222 rfl ?_
        refine AW.iconst dX8_letter_223 (by decide) ?_
        refine' AW.icmp_neJ 254 (tgt := 232) dX8_letter_224 rfl _ _ _
        rotate_left 2
        · intro c_224 k_224
          refine AW.iload_n dX8_letter_232 rfl ?_
          refine AW.iconst dX8_letter_233 (by decide) ?_
          refine' AW.icmp_neJ 254 (tgt := 242) dX8_letter_234 rfl _ _ _
          rotate_left 2
          · intro c_234 k_234
            refine AW.iload_n dX8_letter_242 rfl ?_
            refine AW.iconst dX8_letter_243 (by decide) ?_
            refine' AW.icmp_neJ 254 (tgt := 252) dX8_letter_244 rfl _ _ _
            rotate_left 2
            · intro c_244 k_244
              refine AW.bipush dX8_letter_252 bp_32 (by decide) ?_
              exact k_244
            · intro c_244 k_244
              refine AW.bipush dX8_letter_247 bp_110 (by decide) ?_
              refine AW.goto (tgt := 254) dX8_letter_249 rfl ?_
              exact k_244
            exact k_234
          · intro c_234 k_234
            refine AW.bipush dX8_letter_237 bp_105 (by decide) ?_
            refine AW.goto (tgt := 254) dX8_letter_239 rfl ?_
            exact k_234
          exact k_224
        · intro c_224 k_224
          refine AW.bipush dX8_letter_227 bp_111 (by decide) ?_
          refine AW.goto (tgt := 254) dX8_letter_229 rfl ?_
          exact k_224
        exact k_214
      · intro c_214 k_214
        refine AW.bipush dX8_letter_217 bp_106 (by decide) ?_
        refine AW.goto (tgt := 254) dX8_letter_219 rfl ?_
        exact k_214
      refine AW.cret dX8_letter_254 rfl ?_ ?_
      · (repeat' split) <;> omega
      refine fin1 k rfl ?_
      rw [zlet_4 (by omega)]
      clear k
      unfold zl4
      (repeat' split) <;> first | rfl | omega
    · refine AW.iload_n dX8_letter_255 rfl ?_
      refine' AW.if_neJ 296 (tgt := 264) dX8_letter_256 rfl _ _ _
      rotate_left 2
      · intro c_256 k_256
        refine AW.iload_n dX8_letter_264 rfl ?_
        refine AW.iconst dX8_letter_265 (by decide) ?_
        refine' AW.icmp_neJ 296 (tgt := 274) dX8_letter_266 rfl _ _ _
        rotate_left 2
        · intro c_266 k_266
          refine AW.iload_n dX8_letter_274 rfl ?_
          refine AW.iconst dX8_letter_275 (by decide) ?_
          refine' AW.icmp_neJ 296 (tgt := 284) dX8_letter_276 rfl _ _ _
          rotate_left 2
          · intro c_276 k_276
            refine AW.iload_n dX8_letter_284 rfl ?_
            refine AW.iconst dX8_letter_285 (by decide) ?_
            refine' AW.icmp_neJ 296 (tgt := 294) dX8_letter_286 rfl _ _ _
            rotate_left 2
            · intro c_286 k_286
              refine AW.bipush dX8_letter_294 bp_32 (by decide) ?_
              exact k_286
            · intro c_286 k_286
              refine AW.bipush dX8_letter_289 bp_112 (by decide) ?_
              refine AW.goto (tgt := 296) dX8_letter_291 rfl ?_
              exact k_286
            exact k_276
          · intro c_276 k_276
            refine AW.bipush dX8_letter_279 bp_111 (by decide) ?_
            refine AW.goto (tgt := 296) dX8_letter_281 rfl ?_
            exact k_276
          exact k_266
        · intro c_266 k_266
          refine AW.bipush dX8_letter_269 bp_114 (by decide) ?_
          refine AW.goto (tgt := 296) dX8_letter_271 rfl ?_
          exact k_266
        exact k_256
      · intro c_256 k_256
        refine AW.bipush dX8_letter_259 bp_100 (by decide) ?_
        refine AW.goto (tgt := 296) dX8_letter_261 rfl ?_
        exact k_256
      refine AW.cret dX8_letter_296 rfl ?_ ?_
      · (repeat' split) <;> omega
      refine fin1 k rfl ?_
      rw [zlet_5 (by omega)]
      clear k
      unfold zl5
      (repeat' split) <;> first | rfl | omega
  · refine AW.iload_n dX8_letter_297 rfl ?_
    refine' AW.if_neJ 333 (tgt := 306) dX8_letter_298 rfl _ _ _
    rotate_left 2
    · intro c_298 k_298
      refine AW.iload_n dX8_letter_306 rfl ?_
      refine AW.iconst dX8_letter_307 (by decide) ?_
      refine' AW.icmp_eqJ 333 (tgt := 316) dX8_letter_308 rfl _ _ _
      rotate_left 2
      · intro c_308 k_308
        refine AW.bipush dX8_letter_316 bp_101 (by decide) ?_
        refine AW.goto (tgt := 333) dX8_letter_318 rfl ?_
        exact k_308
      · intro c_308 k_308
        refine AW.iload_n dX8_letter_311 rfl ?_
        refine AW.iconst dX8_letter_312 (by decide) ?_
        refine' AW.icmp_neJ 333 (tgt := 321) dX8_letter_313 rfl _ _ _
        rotate_left 2
        · intro c_313 k_313
          refine AW.iload_n dX8_letter_321 rfl ?_
          refine AW.iconst dX8_letter_322 (by decide) ?_
          refine' AW.icmp_neJ 333 (tgt := 331) dX8_letter_323 rfl _ _ _
          rotate_left 2
          · intro c_323 k_323
            refine AW.bipush dX8_letter_331 bp_32 (by decide) ?_
            exact k_323
          · intro c_323 k_323
            refine AW.bipush dX8_letter_326 bp_100 (by decide) ?_
            refine AW.goto (tgt := 333) dX8_letter_328 rfl ?_
            exact k_323
          exact k_313
        · intro c_313 k_313
          refine AW.bipush dX8_letter_316 bp_101 (by decide) ?_
          refine AW.goto (tgt := 333) dX8_letter_318 rfl ?_
          exact k_313
        exact k_308
      exact k_298
    · intro c_298 k_298
      refine AW.bipush dX8_letter_301 bp_110 (by decide) ?_
      refine AW.goto (tgt := 333) dX8_letter_303 rfl ?_
      exact k_298
    refine AW.cret dX8_letter_333 rfl ?_ ?_
    · (repeat' split) <;> omega
    refine fin1 k rfl ?_
    rw [zlet_6 (by omega)]
    clear k
    unfold zl6
    (repeat' split) <;> first | rfl | omega
def zlen (w : Int) : Int := if w = 0 then 3 else if w = 1 then 6 else if w = 3 then 5 else 4
theorem kX8_length {w : Int} (k : Q h (.inl (some (vi (zlen w))))) : AC mX8_length fX8_length loX8_length 0 0 h [vi w] Q := by
  refine AC.mk (by decide) (Nat.le_of_ble_eq_true rfl) ?_
  refine AW.iload_n dX8_length_0 rfl ?_
  refine' AW.if_neJ 28 (tgt := 8) dX8_length_1 rfl _ _ _
  rotate_left 2
  · intro c_1 k_1
    refine AW.iload_n dX8_length_8 rfl ?_
    refine AW.iconst dX8_length_9 (by decide) ?_
    refine' AW.icmp_neJ 28 (tgt := 18) dX8_length_10 rfl _ _ _
    rotate_left 2
    · intro c_10 k_10
      refine AW.iload_n dX8_length_18 rfl ?_
      refine AW.iconst dX8_length_19 (by decide) ?_
      refine' AW.icmp_neJ 28 (tgt := 27) dX8_length_20 rfl _ _ _
      rotate_left 2
      · intro c_20 k_20
        refine AW.iconst dX8_length_27 (by decide) ?_
        exact k_20
      · intro c_20 k_20
        refine AW.iconst dX8_length_23 (by decide) ?_
        refine AW.goto (tgt := 28) dX8_length_24 rfl ?_
        exact k_20
      exact k_10
    · intro c_10 k_10
      refine AW.bipush dX8_length_13 bp_6 (by decide) ?_
      refine AW.goto (tgt := 28) dX8_length_15 rfl ?_
      exact k_10
    exact k_1
  · intro c_1 k_1
    refine AW.iconst dX8_length_4 (by decide) ?_
    refine AW.goto (tgt := 28) dX8_length_5 rfl ?_
    exact k_1
  refine AW.iret dX8_length_28 rfl ?_
  refine fin1 k rfl ?_
  unfold zlen
  (repeat' split) <;> first | rfl | omega
/-- how many fields a step has in front, and behind -/
def zfn (Z : ZT) (p : Int) : Int := (if zfr Z p 0 = -1 then 0 else 1) + (if zfr Z p 1 = -1 then 0 else 1)
def zbn (Z : ZT) (p : Int) : Int := (if zbe Z p 0 = -1 then 0 else 1) + (if zbe Z p 1 = -1 then 0 else 1)
def zsg2 (Z : ZT) (s a p d : Int) : Int :=
  if d < 0 then 62
  else if d < 2 * zbn Z p then (if d.tmod 2 = 0 then 32 else 97 + Z 5 (48 * (24 * s + a) + zbe Z p (d.tdiv 2)).toNat)
  else 0
def zsg1 (Z : ZT) (s a p d : Int) : Int :=
  if d < 2 * zfn Z p then (if d.tmod 2 = 0 then 32 else 97 + Z 5 (48 * (24 * s + (a - 1)) + zfr Z p (d.tdiv 2)).toNat)
  else zsg2 Z s a p (d - (2 * zfn Z p + 1))
def zsgn (Z : ZT) (s a i : Int) : Int :=
  if i < 0 then 0 else if i - zlen (Z 7 (24 * s + a).toNat) < 0 then zlet (Z 7 (24 * s + a).toNat) i
  else zsg1 Z s a (24 * s + a) (i - zlen (Z 7 (24 * s + a).toNat))
theorem zlen_rng {w : Int} : 3 ≤ zlen w ∧ zlen w ≤ 6 := by unfold zlen; (repeat' split) <;> omega
/-- names lie in -1 to 25 -/
def BN (Z : ZT) : Prop := ∀ i, -1 ≤ Z 5 i ∧ Z 5 i ≤ 25
/-- a step's second field is there only where its first is -/
def stF (Z : ZT) (p : Int) : Prop := (zfr Z p 0 = -1 → zfr Z p 1 = -1) ∧ (zbe Z p 0 = -1 → zbe Z p 1 = -1)
theorem zfr_ix {p d : Int} (hd : 0 ≤ d) (s : stF Z p) (h2 : ¬ d.tmod 2 = 0) (hl : d < 2 * zfn Z p) : (d.tdiv 2 = 0 ∨ d.tdiv 2 = 1) ∧ ¬ zfr Z p (d.tdiv 2) = -1 := by
  rw [Int.tdiv_eq_ediv_of_nonneg hd]
  rw [Int.tmod_eq_emod_of_nonneg hd] at h2
  have s1 := s.1
  have hn : zfn Z p ≤ 2 := by unfold zfn; (repeat' split) <;> omega
  have hc : d / 2 = 0 ∨ d / 2 = 1 := by omega
  refine ⟨hc, ?_⟩
  unfold zfn at hl
  rcases hc with e | e <;> rw [e] <;> intro q
  · rw [if_pos q, if_pos (s1 q)] at hl; omega
  · rw [if_pos q] at hl; (split at hl) <;> omega
theorem zbe_ix {p d : Int} (hd : 0 ≤ d) (s : stF Z p) (h2 : ¬ d.tmod 2 = 0) (hl : d < 2 * zbn Z p) : (d.tdiv 2 = 0 ∨ d.tdiv 2 = 1) ∧ ¬ zbe Z p (d.tdiv 2) = -1 := by
  rw [Int.tdiv_eq_ediv_of_nonneg hd]
  rw [Int.tmod_eq_emod_of_nonneg hd] at h2
  have s1 := s.2
  have hn : zbn Z p ≤ 2 := by unfold zbn; (repeat' split) <;> omega
  have hc : d / 2 = 0 ∨ d / 2 = 1 := by omega
  refine ⟨hc, ?_⟩
  unfold zbn at hl
  rcases hc with e | e <;> rw [e] <;> intro q
  · rw [if_pos q, if_pos (s1 q)] at hl; omega
  · rw [if_pos q] at hl; (split at hl) <;> omega
theorem zfn_rng {p : Int} : 0 ≤ zfn Z p ∧ zfn Z p ≤ 2 := by unfold zfn; (repeat' split) <;> omega
theorem zbn_rng {p : Int} : 0 ≤ zbn Z p ∧ zbn Z p ≤ 2 := by unfold zbn; (repeat' split) <;> omega
set_option maxHeartbeats 1000000 in
theorem kX8_sign {s a i : Int} (W : WfM h) (B : BB Z) (N : BN Z) (hi : inR i) (hs : 0 ≤ s ∧ s < 4) (ha : 1 ≤ a ∧ a ≤ 23) (st : stF Z (24 * s + a)) (k : Q (mput h Z) (.inl (some (vi (zsgn Z s a i))))) : AC mX8_sign fX8_sign loX8_sign 0 0 (mput h Z) [vr mO, vi s, vi a, vi i] Q := by
  have hl := zlen_rng (w := Z 7 (24 * s + a).toNat)
  have e0 : 2 * (24 * s + a) = 2 * (24 * s + a) + 0 := by omega
  have ew : 0 ≤ i → wr (i - zlen (Z 7 (24 * s + a).toNat)) = i - zlen (Z 7 (24 * s + a).toNat) := fun q => wr_id ⟨by omega, by have := hi.2; omega⟩
  have hfn := zfn_rng (Z := Z) (p := 24 * s + a)
  have hbn := zbn_rng (Z := Z) (p := 24 * s + a)
  have hi2 := hi.2
  refine AC.mk (by decide) (Nat.le_of_ble_eq_true rfl) ?_
  have t252 : ∀ i (d : Int), 0 ≤ i → i - zlen (Z 7 (24 * s + a).toNat) = d → 0 ≤ d → d < 2147483648 → Q (mput h Z) (.inl (some (vi (zsg1 Z s a (24 * s + a) d)))) → AW mX8_sign fX8_sign loX8_sign 0 0 Q 0 0 51 (mput h Z) [(5, vi d), (4, vi (24 * s + a)), (0, vr mO), (1, vi s), (2, vi a), (3, vi i)] [] := by
    intro i d hi0 ed hd hd2 k
    refine AW.aload_n dX8_sign_51 rfl ?_
    refine AW.mA 8 W dX8_sign_52 lkX8_32 rfl rfl ?_
    refine AW.iconst dX8_sign_55 (by decide) ?_
    refine AW.iload dX8_sign_56 rfl ?_
    refine AW.imulB dX8_sign_58 (by omega) ?_
    refine AW.mldE (j := 8) W dX8_sign_59 rfl rfl (by simp only [mlen]; omega) rfl ?_
    refine AW.top (y := zfr Z (24 * s + a) 0) (congrArg (fun x => Z 8 (Int.toNat x)) e0) ?_
    refine AW.iconst dX8_sign_60 (by decide) ?_
    refine' AW.icmp_neJ 69 (tgt := 68) dX8_sign_61 rfl _ _ _
    rotate_left 2
    · intro c_61 k_61
      refine AW.iconst dX8_sign_68 (by decide) ?_
      exact k_61
    · intro c_61 k_61
      refine AW.iconst dX8_sign_64 (by decide) ?_
      refine AW.goto (tgt := 69) dX8_sign_65 rfl ?_
      exact k_61
    refine AW.aload_n dX8_sign_69 rfl ?_
    refine AW.mA 8 W dX8_sign_70 lkX8_32 rfl rfl ?_
    refine AW.iconst dX8_sign_73 (by decide) ?_
    refine AW.iload dX8_sign_74 rfl ?_
    refine AW.imulB dX8_sign_76 (by omega) ?_
    refine AW.iconst dX8_sign_77 (by decide) ?_
    refine AW.iaddB dX8_sign_78 (by omega) ?_
    refine AW.mldE (j := 8) W dX8_sign_79 rfl rfl (by simp only [mlen]; omega) rfl ?_
    refine AW.top (y := zfr Z (24 * s + a) 1) rfl ?_
    refine AW.iconst dX8_sign_80 (by decide) ?_
    refine' AW.icmp_neJ 89 (tgt := 88) dX8_sign_81 rfl _ _ _
    rotate_left 2
    · intro c_81 k_81
      refine AW.iconst dX8_sign_88 (by decide) ?_
      exact k_81
    · intro c_81 k_81
      refine AW.iconst dX8_sign_84 (by decide) ?_
      refine AW.goto (tgt := 89) dX8_sign_85 rfl ?_
      exact k_81
    refine AW.iaddB dX8_sign_89 (by omega) ?_
    refine AW.top (y := zfn Z (24 * s + a)) (by unfold zfn; (repeat' split) <;> first | rfl | omega) ?_
    refine AW.istore dX8_sign_90 rfl ?_
    refine AW.aload_n dX8_sign_92 rfl ?_
    refine AW.mA 9 W dX8_sign_93 lkX8_35 rfl rfl ?_
    refine AW.iconst dX8_sign_96 (by decide) ?_
    refine AW.iload dX8_sign_97 rfl ?_
    refine AW.imulB dX8_sign_99 (by omega) ?_
    refine AW.mldE (j := 9) W dX8_sign_100 rfl rfl (by simp only [mlen]; omega) rfl ?_
    refine AW.top (y := zbe Z (24 * s + a) 0) (congrArg (fun x => Z 9 (Int.toNat x)) e0) ?_
    refine AW.iconst dX8_sign_101 (by decide) ?_
    refine' AW.icmp_neJ 110 (tgt := 109) dX8_sign_102 rfl _ _ _
    rotate_left 2
    · intro c_102 k_102
      refine AW.iconst dX8_sign_109 (by decide) ?_
      exact k_102
    · intro c_102 k_102
      refine AW.iconst dX8_sign_105 (by decide) ?_
      refine AW.goto (tgt := 110) dX8_sign_106 rfl ?_
      exact k_102
    refine AW.aload_n dX8_sign_110 rfl ?_
    refine AW.mA 9 W dX8_sign_111 lkX8_35 rfl rfl ?_
    refine AW.iconst dX8_sign_114 (by decide) ?_
    refine AW.iload dX8_sign_115 rfl ?_
    refine AW.imulB dX8_sign_117 (by omega) ?_
    refine AW.iconst dX8_sign_118 (by decide) ?_
    refine AW.iaddB dX8_sign_119 (by omega) ?_
    refine AW.mldE (j := 9) W dX8_sign_120 rfl rfl (by simp only [mlen]; omega) rfl ?_
    refine AW.top (y := zbe Z (24 * s + a) 1) rfl ?_
    refine AW.iconst dX8_sign_121 (by decide) ?_
    refine' AW.icmp_neJ 130 (tgt := 129) dX8_sign_122 rfl _ _ _
    rotate_left 2
    · intro c_122 k_122
      refine AW.iconst dX8_sign_129 (by decide) ?_
      exact k_122
    · intro c_122 k_122
      refine AW.iconst dX8_sign_125 (by decide) ?_
      refine AW.goto (tgt := 130) dX8_sign_126 rfl ?_
      exact k_122
    refine AW.iaddB dX8_sign_130 (by omega) ?_
    refine AW.top (y := zbn Z (24 * s + a)) (by unfold zbn; (repeat' split) <;> first | rfl | omega) ?_
    refine AW.istore dX8_sign_131 rfl ?_
    refine AW.iload dX8_sign_133 rfl ?_
    refine AW.iconst dX8_sign_135 (by decide) ?_
    refine AW.iload dX8_sign_136 rfl ?_
    refine AW.imulB dX8_sign_138 (by omega) ?_
    refine AW.icmp_ge (tgt := 184) dX8_sign_139 rfl (fun c_139 => ?_) (fun c_139 => ?_)
    · refine AW.iload dX8_sign_184 rfl ?_
      refine AW.iconst dX8_sign_186 (by decide) ?_
      refine AW.iload dX8_sign_187 rfl ?_
      refine AW.imulB dX8_sign_189 (by omega) ?_
      refine AW.iconst dX8_sign_190 (by decide) ?_
      refine AW.iaddB dX8_sign_191 (by omega) ?_
      refine AW.isubB dX8_sign_192 (by omega) ?_
      refine AW.istore dX8_sign_193 rfl ?_
      refine AW.iload dX8_sign_195 rfl ?_
      refine AW.if_ge (tgt := 203) dX8_sign_197 rfl (fun c_197 => ?_) (fun c_197 => ?_)
      · refine AW.iload dX8_sign_203 rfl ?_
        refine AW.iconst dX8_sign_205 (by decide) ?_
        refine AW.iload dX8_sign_206 rfl ?_
        refine AW.imulB dX8_sign_208 (by omega) ?_
        refine AW.icmp_ge (tgt := 252) dX8_sign_209 rfl (fun c_209 => ?_) (fun c_209 => ?_)
        · refine AW.iconst dX8_sign_252 (by decide) ?_
          refine AW.iret dX8_sign_253 rfl ?_
          refine fin1 k rfl ?_
          unfold zsg1 zsg2
          (repeat' split) <;> first | rfl | omega
        · refine AW.iload dX8_sign_212 rfl ?_
          refine AW.iconst dX8_sign_214 (by decide) ?_
          refine AW.irem dX8_sign_215 (by omega) ?_
          refine AW.if_ne (tgt := 224) dX8_sign_216 rfl (fun c_216 => ?_) (fun c_216 => ?_)
          · have ix := zbe_ix (show 0 ≤ d - (2 * zfn Z (24 * s + a) + 1) by omega) st c_216 c_209
            have b : -1 ≤ zbe Z (24 * s + a) ((d - (2 * zfn Z (24 * s + a) + 1)).tdiv 2) ∧ zbe Z (24 * s + a) ((d - (2 * zfn Z (24 * s + a) + 1)).tdiv 2) < 48 := (B (2 * (24 * s + a) + (d - (2 * zfn Z (24 * s + a) + 1)).tdiv 2).toNat).2
            have nn := N (48 * (24 * s + a) + zbe Z (24 * s + a) ((d - (2 * zfn Z (24 * s + a) + 1)).tdiv 2)).toNat
            refine AW.bipush dX8_sign_224 bp_97 (by decide) ?_
            refine AW.aload_n dX8_sign_226 rfl ?_
            refine AW.mA 5 W dX8_sign_227 lkX8_22 rfl rfl ?_
            refine AW.iload_n dX8_sign_230 rfl ?_
            refine AW.iload_n dX8_sign_231 rfl ?_
            refine AW.aload_n dX8_sign_232 rfl ?_
            refine AW.mA 9 W dX8_sign_233 lkX8_35 rfl rfl ?_
            refine AW.iconst dX8_sign_236 (by decide) ?_
            refine AW.iload dX8_sign_237 rfl ?_
            refine AW.imulB dX8_sign_239 (by omega) ?_
            refine AW.iload dX8_sign_240 rfl ?_
            refine AW.iconst dX8_sign_242 (by decide) ?_
            refine AW.idiv dX8_sign_243 (by omega) ?_
            refine AW.iaddB dX8_sign_244 (by omega) ?_
            refine AW.mldE (j := 9) W dX8_sign_245 rfl rfl (by simp only [mlen]; omega) rfl ?_
            refine AW.top (y := zbe Z (24 * s + a) ((d - (2 * zfn Z (24 * s + a) + 1)).tdiv 2)) rfl ?_
            refine AW.callS (as := [vi _, vi _, vi _]) dX8_sign_246 rfl rfl rfl okX8_place lkX8_152 rfl rfl rfl rfl rfl rfl (kX8_place (by omega) (AW.k1 ?_))
            refine AW.mldE (j := 5) W dX8_sign_249 rfl rfl (by simp only [mlen]; omega) rfl ?_
            refine AW.iaddB dX8_sign_250 (by omega) ?_
            refine AW.iret dX8_sign_251 rfl ?_
            refine fin1 k rfl ?_
            unfold zsg1 zsg2
            (repeat' split) <;> first | rfl | omega
          · refine AW.bipush dX8_sign_219 bp_32 (by decide) ?_
            refine AW.goto (tgt := 251) dX8_sign_221 rfl ?_
            refine AW.iret dX8_sign_251 rfl ?_
            refine fin1 k rfl ?_
            unfold zsg1 zsg2
            (repeat' split) <;> first | rfl | omega
      · refine AW.bipush dX8_sign_200 bp_62 (by decide) ?_
        refine AW.iret dX8_sign_202 rfl ?_
        refine fin1 k rfl ?_
        unfold zsg1 zsg2
        (repeat' split) <;> first | rfl | omega
    · refine AW.iload dX8_sign_142 rfl ?_
      refine AW.iconst dX8_sign_144 (by decide) ?_
      refine AW.irem dX8_sign_145 (by omega) ?_
      refine AW.if_ne (tgt := 154) dX8_sign_146 rfl (fun c_146 => ?_) (fun c_146 => ?_)
      · have ix := zfr_ix hd st c_146 c_139
        have b : -1 ≤ zfr Z (24 * s + a) (d.tdiv 2) ∧ zfr Z (24 * s + a) (d.tdiv 2) < 48 := (B (2 * (24 * s + a) + d.tdiv 2).toNat).1
        have nn := N (48 * (24 * s + (a - 1)) + zfr Z (24 * s + a) (d.tdiv 2)).toNat
        refine AW.bipush dX8_sign_154 bp_97 (by decide) ?_
        refine AW.aload_n dX8_sign_156 rfl ?_
        refine AW.mA 5 W dX8_sign_157 lkX8_22 rfl rfl ?_
        refine AW.iload_n dX8_sign_160 rfl ?_
        refine AW.iload_n dX8_sign_161 rfl ?_
        refine AW.iconst dX8_sign_162 (by decide) ?_
        refine AW.isubB dX8_sign_163 (by omega) ?_
        refine AW.aload_n dX8_sign_164 rfl ?_
        refine AW.mA 8 W dX8_sign_165 lkX8_32 rfl rfl ?_
        refine AW.iconst dX8_sign_168 (by decide) ?_
        refine AW.iload dX8_sign_169 rfl ?_
        refine AW.imulB dX8_sign_171 (by omega) ?_
        refine AW.iload dX8_sign_172 rfl ?_
        refine AW.iconst dX8_sign_174 (by decide) ?_
        refine AW.idiv dX8_sign_175 (by omega) ?_
        refine AW.iaddB dX8_sign_176 (by omega) ?_
        refine AW.mldE (j := 8) W dX8_sign_177 rfl rfl (by simp only [mlen]; omega) rfl ?_
        refine AW.top (y := zfr Z (24 * s + a) (d.tdiv 2)) rfl ?_
        refine AW.callS (as := [vi _, vi _, vi _]) dX8_sign_178 rfl rfl rfl okX8_place lkX8_152 rfl rfl rfl rfl rfl rfl (kX8_place (by omega) (AW.k1 ?_))
        refine AW.mldE (j := 5) W dX8_sign_181 rfl rfl (by simp only [mlen]; omega) rfl ?_
        refine AW.iaddB dX8_sign_182 (by omega) ?_
        refine AW.iret dX8_sign_183 rfl ?_
        refine fin1 k rfl ?_
        unfold zsg1 zsg2
        (repeat' split) <;> first | rfl | omega
      · refine AW.bipush dX8_sign_149 bp_32 (by decide) ?_
        refine AW.goto (tgt := 183) dX8_sign_151 rfl ?_
        refine AW.iret dX8_sign_183 rfl ?_
        refine fin1 k rfl ?_
        unfold zsg1 zsg2
        (repeat' split) <;> first | rfl | omega
  refine AW.bipush dX8_sign_0 bp_24 (by decide) ?_
  refine AW.iload_n dX8_sign_2 rfl ?_
  refine AW.imulB dX8_sign_3 (by omega) ?_
  refine AW.iload_n dX8_sign_4 rfl ?_
  refine AW.iaddB dX8_sign_5 (by omega) ?_
  refine AW.istore dX8_sign_6 rfl ?_
  refine AW.iload_n dX8_sign_8 rfl ?_
  refine AW.aload_n dX8_sign_9 rfl ?_
  refine AW.mA 7 W dX8_sign_10 lkX8_29 rfl rfl ?_
  refine AW.iload dX8_sign_13 rfl ?_
  refine AW.mldE (j := 7) W dX8_sign_15 rfl rfl (by simp only [mlen]; omega) rfl ?_
  refine AW.callS (as := [vi _]) dX8_sign_16 rfl rfl rfl okX8_length lkX8_222 rfl rfl rfl rfl rfl rfl (kX8_length  (AW.k1 ?_))
  refine AW.isub dX8_sign_19 ?_
  refine AW.istore dX8_sign_20 rfl ?_
  refine AW.iload_n dX8_sign_22 rfl ?_
  refine AW.if_lt (tgt := 31) dX8_sign_23 rfl (fun c_23 => ?_) (fun c_23 => ?_)
  · refine AW.iload_n dX8_sign_31 rfl ?_
    refine AW.if_ge (tgt := 39) dX8_sign_32 rfl (fun c_32 => ?_) (fun c_32 => ?_)
    · refine AW.aload_n dX8_sign_39 rfl ?_
      refine AW.mA 7 W dX8_sign_40 lkX8_29 rfl rfl ?_
      refine AW.iload dX8_sign_43 rfl ?_
      refine AW.mldE (j := 7) W dX8_sign_45 rfl rfl (by simp only [mlen]; omega) rfl ?_
      refine AW.iload_n dX8_sign_46 rfl ?_
      refine AW.callS (as := [vi _, vi _]) dX8_sign_47 rfl rfl rfl okX8_letter lkX8_225 rfl rfl rfl rfl rfl rfl (kX8_letter  (AW.k1 ?_))
      refine AW.iret dX8_sign_50 rfl ?_
      refine fin1 k rfl ?_
      unfold zsgn
      first | (exfalso; omega) | (rw [if_pos (by omega)]; done) | (have ew := ew (by omega); rw [ew] at c_28; rw [if_neg (by omega), if_pos (by omega)]; done)
    · refine AW.iconst dX8_sign_35 (by decide) ?_
      refine AW.goto (tgt := 50) dX8_sign_36 rfl ?_
      refine AW.iret dX8_sign_50 rfl ?_
      refine fin1 k rfl ?_
      unfold zsgn
      first | (exfalso; omega) | (rw [if_pos (by omega)]; done) | (have ew := ew (by omega); rw [ew] at c_28; rw [if_neg (by omega), if_pos (by omega)]; done)
  · refine AW.iload dX8_sign_26 rfl ?_
    refine AW.if_ge (tgt := 51) dX8_sign_28 rfl (fun c_28 => ?_) (fun c_28 => ?_)
    · have ew := ew (by omega)
      rw [ew] at c_28
      refine AW.locs [(5, vi (i - zlen (Z 7 (24 * s + a).toNat))), (4, vi (24 * s + a)), (0, vr mO), (1, vi s), (2, vi a), (3, vi i)] ⟨by rw [ew]; rfl, rfl, rfl, rfl, rfl, rfl, trivial⟩ (t252 i _ (by omega) rfl (by omega) (by omega) ?_)
      refine fin1 k rfl ?_
      unfold zsgn
      rw [if_neg (by omega), if_neg (by omega)]
    · refine AW.iload_n dX8_sign_31 rfl ?_
      refine AW.if_ge (tgt := 39) dX8_sign_32 rfl (fun c_32 => ?_) (fun c_32 => ?_)
      · refine AW.aload_n dX8_sign_39 rfl ?_
        refine AW.mA 7 W dX8_sign_40 lkX8_29 rfl rfl ?_
        refine AW.iload dX8_sign_43 rfl ?_
        refine AW.mldE (j := 7) W dX8_sign_45 rfl rfl (by simp only [mlen]; omega) rfl ?_
        refine AW.iload_n dX8_sign_46 rfl ?_
        refine AW.callS (as := [vi _, vi _]) dX8_sign_47 rfl rfl rfl okX8_letter lkX8_225 rfl rfl rfl rfl rfl rfl (kX8_letter  (AW.k1 ?_))
        refine AW.iret dX8_sign_50 rfl ?_
        refine fin1 k rfl ?_
        unfold zsgn
        first | (exfalso; omega) | (rw [if_pos (by omega)]; done) | (have ew := ew (by omega); rw [ew] at c_28; rw [if_neg (by omega), if_pos (by omega)]; done)
      · refine AW.iconst dX8_sign_35 (by decide) ?_
        refine AW.goto (tgt := 50) dX8_sign_36 rfl ?_
        refine AW.iret dX8_sign_50 rfl ?_
        refine fin1 k rfl ?_
        unfold zsgn
        first | (exfalso; omega) | (rw [if_pos (by omega)]; done) | (have ew := ew (by omega); rw [ew] at c_28; rw [if_neg (by omega), if_pos (by omega)]; done)
end M22
