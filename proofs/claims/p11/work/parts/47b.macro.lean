noncomputable section
/-- tally, told in short: what it counts, nobody knows -/
def e_hv (c : Int) (w : eW) : eW := fun j k => if j = c then 2147483648 else w j k
def e_mTal (t : eS) : Option eS := match e_find t.2.1 0, e_find t.2.1 1, e_find t.2.1 2, t.2.2.1 with
  | some (1, j), some (0, x), some (0, _), [] => if j = 275 ∧ 0 ≤ x ∧ x ≤ 3 ∧ t.2.2.2 275 7 = 280 then some (25, t.2.1, [], e_hv 280 t.2.2.2) else none
  | _, _, _, _ => none
theorem e_rf.hv {w w' : eW} (hw : e_rf w w') (c : Int) : e_rf (e_hv c w) (e_hv c w') := by
  intro a b hab
  unfold e_hv at hab ⊢
  split
  · rename_i q
    exact absurd hab (by rw [if_pos q]; decide)
  · rename_i q
    rw [if_neg q] at hab
    exact hw a b hab
theorem ni0_mTal : e_NI0 e_mTal := fun p l l' st w w' t ht hs hw => by
  unfold e_mTal at ht ⊢
  simp only at ht ⊢
  split at ht
  · rename_i j x y h0 h1 h2
    split at ht
    · rename_i hc
      cases ht
      refine ⟨l', e_hv 280 w', ?_, hs, hw.hv 280, fun e => by rw [e]⟩
      rw [hs.find h0, hs.find h1, hs.find h2]
      have e : w' 275 7 = 280 := Eq.trans (hw 275 7 (by rw [hc.2.2.2]; decide)) hc.2.2.2
      exact if_pos ⟨hc.1, hc.2.1, hc.2.2.1, e⟩
    · cases ht
  · cases ht
theorem ni_mTal : e_NI elay e_mTal := ⟨ni0_mTal, fun t t' ht c k ho => by
  obtain ⟨p, l, st, w⟩ := t
  unfold e_mTal at ht
  simp only at ht
  split at ht
  · split at ht
    · cases ht
      show (if c = 280 then 2147483648 else w c k) = w c k
      rw [if_neg ho.2.1]
    · cases ht
  · cases ht⟩
def te_389m : Nat → eE := fun pc => bif Nat.beq pc 0 then (0, e_mTal, 0, 0) else te_389 pc
/-- the types lie within int -/
def tyP (x : Int × Int) : Prop := x.1 ≤ x.2 → -2147483648 ≤ x.1 ∧ x.2 ≤ 2147483647
theorem tyP.nth : ∀ {l : List (Int × Int)} (_ : ∀ x ∈ l, tyP x) (k : Nat), tyP (x_nthP l k) := fun {l} h k => by
  unfold x_nthP
  split
  · rename_i x hx
    rw [x_at_eq] at hx
    exact h x (List.mem_of_getElem? hx)
  · intro q; exact absurd q (by decide)
theorem tyP.ite {c : Prop} [Decidable c] {a b : Int × Int} (ha : tyP a) (hb : tyP b) : tyP (if c then a else b) := by
  by_cases h : c
  · rw [if_pos h]; exact ha
  · rw [if_neg h]; exact hb
theorem tyP.now (k : Int) : tyP (nowR k) := by
  have h0 : ∀ x ∈ nHead, tyP x := by unfold tyP; decide +kernel
  have h1 : ∀ x ∈ nArm, tyP x := by unfold tyP; decide +kernel
  have ha : tyP (-2147483648, 2147483647) := by unfold tyP; decide
  have ht : ∀ f, tyP (nTask f) := fun f => by
    refine tyP.ite (tyP.nth ?_ _) (tyP.ite (tyP.ite ?_ ?_) ha) <;> (unfold tyP; decide +kernel)
  refine tyP.ite (tyP.nth h0 _) (tyP.ite (tyP.nth h1 _) (tyP.ite ha (tyP.ite ?_ (tyP.ite ha (tyP.ite (ht _) (tyP.ite (tyP.ite ?_ ha) (tyP.ite (tyP.ite ?_ ?_) (tyP.ite (tyP.ite ha ?_) (tyP.ite ?_ (tyP.ite ha (tyP.ite ?_ ha))))))))))) <;> (unfold tyP; decide)
theorem tyP.m (c k : Int) : tyP (mTy c k) := by
  unfold mTy
  split
  · split
    · refine tyP.nth ?_ _
      unfold tyP; decide +kernel
    · unfold tyP; decide
  · exact tyP.now k
  · refine tyP.nth ?_ _
    unfold tyP; decide +kernel
theorem e_Has.rf {w w' : eW} (h : e_Has mTy w) (hw : e_rf w w') : e_Has mTy w' := fun c k hl => by
  have q := h c k hl
  have t := tyP.m c k hl
  rw [hw c k (by unfold e_okz; simp only [Bool.and_eq_true, decide_eq_true_eq]; omega)]
  exact q
/-- countJoints, told in short: it only counts -/
def e_mCj (t : eS) : Option eS := match e_find t.2.1 0, e_find t.2.1 1, t.2.2.1 with
  | some (1, j), some (0, _), [] => @ite (Option eS) (j = 275 ∧ e_Has mTy t.2.2.2) (Classical.propDecidable _) (some (185, [], [], e_hv 280 t.2.2.2)) none
  | _, _, _ => none
theorem ni0_mCj : e_NI0 e_mCj := fun p l l' st w w' t ht hs hw => by
  unfold e_mCj at ht ⊢
  simp only at ht ⊢
  split at ht
  · rename_i j x h0 h1
    split at ht
    · rename_i hc
      cases ht
      refine ⟨[], e_hv 280 w', ?_, ⟨List.nodup_nil, fun _ h => h⟩, hw.hv 280, fun e => by rw [e]⟩
      rw [hs.find h0, hs.find h1]
      exact if_pos ⟨hc.1, e_Has.rf hc.2 hw⟩
    · cases ht
  · cases ht
theorem ni_mCj : e_NI elay e_mCj := ⟨ni0_mCj, fun t t' ht c k ho => by
  obtain ⟨p, l, st, w⟩ := t
  unfold e_mCj at ht
  simp only at ht
  split at ht
  · split at ht
    · cases ht
      show (if c = 280 then 2147483648 else w c k) = w c k
      rw [if_neg ho.2.1]
    · cases ht
  · cases ht⟩
def te_403m : Nat → eE := fun pc => bif Nat.beq pc 0 then (0, e_mCj, 0, 0) else te_403 pc
/-! the places with texts, sines, the lesser of two longs -/
def e_S (g : List eV → Option (Nat × List eV)) : eS → Option eS := fun t => (g t.2.2.1).map (fun q => (q.1, t.2.1, q.2, t.2.2.2))
theorem ni_S {lay : List eY} {g : List eV → Option (Nat × List eV)} : e_NI lay (e_S g) := e_NI.stk g (fun _ => rfl)
def e_len (j : Int) : Option Int := if j = 357 then some 171 else if j = 358 then some 13 else none
def e_chr (j i : Int) : Option Int := if j = 357 ∧ 0 ≤ i ∧ i < 171 then some ((e_key.getD i.toNat 0).toInt) else if j = 358 ∧ 0 ≤ i ∧ i < 13 then some ((e_sgn.getD i.toNat 0).toInt) else none
def e_idx (j c : Int) : Option Int := if j = 358 then some (match e_sgn.findIdx? (fun z => decide (z.toInt = c)) with
  | some k => (k : Int)
  | none => -1) else none
def g_sl (nx : Nat) : List eV → Option (Nat × List eV)
  | (1, j) :: r => bif Nat.ble (e_cats r) 8 then (e_len j).map (fun n => (nx, (0, n) :: r)) else none
  | _ => none
def g_sc (nx : Nat) : List eV → Option (Nat × List eV)
  | (0, i) :: (1, j) :: r => bif Nat.ble (e_cats r) 8 then (e_chr j i).map (fun n => (nx, (0, n) :: r)) else none
  | _ => none
def g_ix (nx : Nat) : List eV → Option (Nat × List eV)
  | (0, c) :: (1, j) :: r => bif Nat.ble (e_cats r) 8 then (e_idx j c).map (fun n => (nx, (0, n) :: r)) else none
  | _ => none
def g_sn (nx : Nat) : List eV → Option (Nat × List eV)
  | (0, i) :: (1, j) :: r => if j = 359 ∧ 0 ≤ i ∧ i < 1025 then some (nx, (0, (e_sin.getD i.toNat 0).toInt) :: r) else none
  | _ => none
def g_ml (nx : Nat) : List eV → Option (Nat × List eV)
  | (4, y) :: (4, x) :: r => bif Nat.ble (e_cats r) 8 then some (nx, (4, if x ≤ y then x else y) :: r) else none
  | _ => none
def te_126m : Nat → eE := fun pc => bif Nat.beq pc 15 then (0, ei_push (1, 357) 17, 0, 0) else bif Nat.beq pc 17 then (0, e_S (g_sl 20), 0, 0) else bif Nat.beq pc 23 then (0, ei_push (1, 357) 25, 0, 0) else bif Nat.beq pc 27 then (0, e_S (g_sc 30), 0, 0) else te_126 pc
def te_127m : Nat → eE := fun pc => bif Nat.beq pc 49 then (0, e_S (g_ml 52), 0, 0) else te_127 pc
def te_128m : Nat → eE := fun pc => bif Nat.beq pc 10 then (0, ei_push (1, 358) 12, 0, 0) else bif Nat.beq pc 14 then (0, e_S (g_ix 17), 0, 0) else te_128 pc
def te_249m : Nat → eE := fun pc => bif Nat.beq pc 13 then (0, ei_push (1, 359) 16, 0, 0) else bif Nat.beq pc 17 then (0, e_S (g_sn 18), 0, 0) else bif Nat.beq pc 26 then (0, ei_push (1, 359) 29, 0, 0) else bif Nat.beq pc 34 then (0, e_S (g_sn 35), 0, 0) else bif Nat.beq pc 43 then (0, ei_push (1, 359) 46, 0, 0) else bif Nat.beq pc 51 then (0, e_S (g_sn 52), 0, 0) else bif Nat.beq pc 54 then (0, ei_push (1, 359) 57, 0, 0) else bif Nat.beq pc 62 then (0, e_S (g_sn 63), 0, 0) else te_249 pc
def te_328m : Nat → eE := fun pc => bif Nat.beq pc 63 then (0, ei_push (1, 357) 66, 0, 0) else bif Nat.beq pc 66 then (0, e_S (g_sl 69), 0, 0) else bif Nat.beq pc 75 then (0, ei_push (1, 357) 78, 0, 0) else bif Nat.beq pc 82 then (0, e_S (g_sc 85), 0, 0) else bif Nat.beq pc 90 then (0, ei_push (1, 357) 93, 0, 0) else bif Nat.beq pc 97 then (0, e_S (g_sc 100), 0, 0) else bif Nat.beq pc 120 then (0, ei_push (1, 357) 123, 0, 0) else bif Nat.beq pc 127 then (0, e_S (g_sc 130), 0, 0) else bif Nat.beq pc 159 then (0, ei_push (1, 357) 162, 0, 0) else bif Nat.beq pc 163 then (0, e_S (g_sc 166), 0, 0) else te_328 pc
def ecode : Nat → Nat → eE := (e_TC 225 (e_TC 112 (e_TC 55 (e_TC 27 (e_TC 13 (e_TC 6 (e_TC 2 (e_TC 0 (fun _ => fun _ => e_e7) (e_TC 1 (fun _ => te_1) (fun _ => te_2))) (e_TC 4 (e_TC 3 (fun _ => te_3) (fun _ => te_4)) (e_TC 5 (fun _ => te_5) (fun _ => te_6)))) (e_TC 9 (e_TC 7 (fun _ => te_7) (e_TC 8 (fun _ => te_8) (fun _ => te_9))) (e_TC 11 (e_TC 10 (fun _ => te_10) (fun _ => te_11)) (e_TC 12 (fun _ => te_12) (fun _ => te_13))))) (e_TC 20 (e_TC 16 (e_TC 14 (fun _ => te_14) (e_TC 15 (fun _ => te_15) (fun _ => te_16))) (e_TC 18 (e_TC 17 (fun _ => te_17) (fun _ => te_18)) (e_TC 19 (fun _ => te_19) (fun _ => te_20)))) (e_TC 23 (e_TC 21 (fun _ => te_21) (e_TC 22 (fun _ => te_22) (fun _ => te_23))) (e_TC 25 (e_TC 24 (fun _ => te_24) (fun _ => te_25)) (e_TC 26 (fun _ => te_26) (fun _ => te_27)))))) (e_TC 41 (e_TC 34 (e_TC 30 (e_TC 28 (fun _ => te_28) (e_TC 29 (fun _ => te_29) (fun _ => te_30))) (e_TC 32 (e_TC 31 (fun _ => te_31) (fun _ => te_32)) (e_TC 33 (fun _ => te_33) (fun _ => te_34)))) (e_TC 37 (e_TC 35 (fun _ => te_35) (e_TC 36 (fun _ => te_36) (fun _ => te_37))) (e_TC 39 (e_TC 38 (fun _ => te_38) (fun _ => te_39)) (e_TC 40 (fun _ => te_40) (fun _ => te_41))))) (e_TC 48 (e_TC 44 (e_TC 42 (fun _ => te_42) (e_TC 43 (fun _ => te_43) (fun _ => te_44))) (e_TC 46 (e_TC 45 (fun _ => te_45) (fun _ => te_46)) (e_TC 47 (fun _ => te_47) (fun _ => te_48)))) (e_TC 51 (e_TC 49 (fun _ => te_49) (e_TC 50 (fun _ => te_50) (fun _ => te_51))) (e_TC 53 (e_TC 52 (fun _ => te_52) (fun _ => te_53)) (e_TC 54 (fun _ => te_54) (fun _ => te_55))))))) (e_TC 83 (e_TC 69 (e_TC 62 (e_TC 58 (e_TC 56 (fun _ => te_56) (e_TC 57 (fun _ => te_57) (fun _ => te_58))) (e_TC 60 (e_TC 59 (fun _ => te_59) (fun _ => te_60)) (e_TC 61 (fun _ => te_61) (fun _ => te_62)))) (e_TC 65 (e_TC 63 (fun _ => te_63) (e_TC 64 (fun _ => te_64) (fun _ => te_65))) (e_TC 67 (e_TC 66 (fun _ => te_66) (fun _ => te_67)) (e_TC 68 (fun _ => te_68) (fun _ => te_69))))) (e_TC 76 (e_TC 72 (e_TC 70 (fun _ => te_70) (e_TC 71 (fun _ => te_71) (fun _ => te_72))) (e_TC 74 (e_TC 73 (fun _ => te_73) (fun _ => te_74)) (e_TC 75 (fun _ => te_75) (fun _ => te_76)))) (e_TC 79 (e_TC 77 (fun _ => te_77) (e_TC 78 (fun _ => te_78) (fun _ => te_79))) (e_TC 81 (e_TC 80 (fun _ => te_80) (fun _ => te_81)) (e_TC 82 (fun _ => te_82) (fun _ => te_83)))))) (e_TC 97 (e_TC 90 (e_TC 86 (e_TC 84 (fun _ => te_84) (e_TC 85 (fun _ => te_85) (fun _ => te_86))) (e_TC 88 (e_TC 87 (fun _ => te_87) (fun _ => te_88)) (e_TC 89 (fun _ => te_89) (fun _ => te_90)))) (e_TC 93 (e_TC 91 (fun _ => te_91) (e_TC 92 (fun _ => te_92) (fun _ => te_93))) (e_TC 95 (e_TC 94 (fun _ => te_94) (fun _ => te_95)) (e_TC 96 (fun _ => te_96) (fun _ => te_97))))) (e_TC 104 (e_TC 100 (e_TC 98 (fun _ => te_98) (e_TC 99 (fun _ => te_99) (fun _ => te_100))) (e_TC 102 (e_TC 101 (fun _ => te_101) (fun _ => te_102)) (e_TC 103 (fun _ => te_103) (fun _ => te_104)))) (e_TC 108 (e_TC 106 (e_TC 105 (fun _ => te_105) (fun _ => te_106)) (e_TC 107 (fun _ => te_107) (fun _ => te_108))) (e_TC 110 (e_TC 109 (fun _ => te_109) (fun _ => te_110)) (e_TC 111 (fun _ => te_111) (fun _ => te_112)))))))) (e_TC 168 (e_TC 140 (e_TC 126 (e_TC 119 (e_TC 115 (e_TC 113 (fun _ => te_113) (e_TC 114 (fun _ => te_114) (fun _ => te_115))) (e_TC 117 (e_TC 116 (fun _ => te_116) (fun _ => te_117)) (e_TC 118 (fun _ => te_118) (fun _ => te_119)))) (e_TC 122 (e_TC 120 (fun _ => te_120) (e_TC 121 (fun _ => te_121) (fun _ => te_122))) (e_TC 124 (e_TC 123 (fun _ => te_123) (fun _ => te_124)) (e_TC 125 (fun _ => te_125) (fun _ => te_126m))))) (e_TC 133 (e_TC 129 (e_TC 127 (fun _ => te_127m) (e_TC 128 (fun _ => te_128m) (fun _ => te_129))) (e_TC 131 (e_TC 130 (fun _ => te_130) (fun _ => te_131)) (e_TC 132 (fun _ => te_132) (fun _ => te_133)))) (e_TC 136 (e_TC 134 (fun _ => te_134) (e_TC 135 (fun _ => te_135) (fun _ => te_136))) (e_TC 138 (e_TC 137 (fun _ => te_137) (fun _ => te_138)) (e_TC 139 (fun _ => te_139) (fun _ => te_140)))))) (e_TC 154 (e_TC 147 (e_TC 143 (e_TC 141 (fun _ => te_141) (e_TC 142 (fun _ => te_142) (fun _ => te_143))) (e_TC 145 (e_TC 144 (fun _ => te_144) (fun _ => te_145)) (e_TC 146 (fun _ => te_146) (fun _ => te_147)))) (e_TC 150 (e_TC 148 (fun _ => te_148) (e_TC 149 (fun _ => te_149) (fun _ => te_150))) (e_TC 152 (e_TC 151 (fun _ => te_151) (fun _ => te_152)) (e_TC 153 (fun _ => te_153) (fun _ => te_154))))) (e_TC 161 (e_TC 157 (e_TC 155 (fun _ => te_155) (e_TC 156 (fun _ => te_156) (fun _ => te_157))) (e_TC 159 (e_TC 158 (fun _ => te_158) (fun _ => te_159)) (e_TC 160 (fun _ => te_160) (fun _ => te_161)))) (e_TC 164 (e_TC 162 (fun _ => te_162) (e_TC 163 (fun _ => te_163) (fun _ => te_164))) (e_TC 166 (e_TC 165 (fun _ => te_165) (fun _ => te_166)) (e_TC 167 (fun _ => te_167) (fun _ => te_168))))))) (e_TC 196 (e_TC 182 (e_TC 175 (e_TC 171 (e_TC 169 (fun _ => te_169) (e_TC 170 (fun _ => te_170) (fun _ => te_171))) (e_TC 173 (e_TC 172 (fun _ => te_172) (fun _ => te_173)) (e_TC 174 (fun _ => te_174) (fun _ => te_175)))) (e_TC 178 (e_TC 176 (fun _ => te_176) (e_TC 177 (fun _ => te_177) (fun _ => te_178))) (e_TC 180 (e_TC 179 (fun _ => te_179) (fun _ => te_180)) (e_TC 181 (fun _ => te_181) (fun _ => te_182))))) (e_TC 189 (e_TC 185 (e_TC 183 (fun _ => te_183) (e_TC 184 (fun _ => te_184) (fun _ => te_185))) (e_TC 187 (e_TC 186 (fun _ => te_186) (fun _ => te_187)) (e_TC 188 (fun _ => te_188) (fun _ => te_189)))) (e_TC 192 (e_TC 190 (fun _ => te_190) (e_TC 191 (fun _ => te_191) (fun _ => te_192))) (e_TC 194 (e_TC 193 (fun _ => te_193) (fun _ => te_194)) (e_TC 195 (fun _ => te_195) (fun _ => te_196)))))) (e_TC 210 (e_TC 203 (e_TC 199 (e_TC 197 (fun _ => te_197) (e_TC 198 (fun _ => te_198) (fun _ => te_199))) (e_TC 201 (e_TC 200 (fun _ => te_200) (fun _ => te_201)) (e_TC 202 (fun _ => te_202) (fun _ => te_203)))) (e_TC 206 (e_TC 204 (fun _ => te_204) (e_TC 205 (fun _ => te_205) (fun _ => te_206))) (e_TC 208 (e_TC 207 (fun _ => te_207) (fun _ => te_208)) (e_TC 209 (fun _ => te_209) (fun _ => te_210))))) (e_TC 217 (e_TC 213 (e_TC 211 (fun _ => te_211) (e_TC 212 (fun _ => te_212) (fun _ => te_213))) (e_TC 215 (e_TC 214 (fun _ => te_214) (fun _ => te_215)) (e_TC 216 (fun _ => te_216) (fun _ => te_217)))) (e_TC 221 (e_TC 219 (e_TC 218 (fun _ => te_218) (fun _ => te_219)) (e_TC 220 (fun _ => te_220) (fun _ => te_221))) (e_TC 223 (e_TC 222 (fun _ => te_222) (fun _ => te_223)) (e_TC 224 (fun _ => te_224) (fun _ => te_225))))))))) (e_TC 338 (e_TC 281 (e_TC 253 (e_TC 239 (e_TC 232 (e_TC 228 (e_TC 226 (fun _ => te_226) (e_TC 227 (fun _ => te_227) (fun _ => te_228))) (e_TC 230 (e_TC 229 (fun _ => te_229) (fun _ => te_230)) (e_TC 231 (fun _ => te_231) (fun _ => te_232)))) (e_TC 235 (e_TC 233 (fun _ => te_233) (e_TC 234 (fun _ => te_234) (fun _ => te_235))) (e_TC 237 (e_TC 236 (fun _ => te_236) (fun _ => te_237)) (e_TC 238 (fun _ => te_238) (fun _ => te_239))))) (e_TC 246 (e_TC 242 (e_TC 240 (fun _ => te_240) (e_TC 241 (fun _ => te_241) (fun _ => te_242))) (e_TC 244 (e_TC 243 (fun _ => te_243) (fun _ => te_244)) (e_TC 245 (fun _ => te_245) (fun _ => te_246)))) (e_TC 249 (e_TC 247 (fun _ => te_247) (e_TC 248 (fun _ => te_248) (fun _ => te_249m))) (e_TC 251 (e_TC 250 (fun _ => te_250) (fun _ => te_251)) (e_TC 252 (fun _ => te_252) (fun _ => te_253)))))) (e_TC 267 (e_TC 260 (e_TC 256 (e_TC 254 (fun _ => te_254) (e_TC 255 (fun _ => te_255) (fun _ => te_256))) (e_TC 258 (e_TC 257 (fun _ => te_257) (fun _ => te_258)) (e_TC 259 (fun _ => te_259) (fun _ => te_260)))) (e_TC 263 (e_TC 261 (fun _ => te_261) (e_TC 262 (fun _ => te_262) (fun _ => te_263))) (e_TC 265 (e_TC 264 (fun _ => te_264) (fun _ => te_265)) (e_TC 266 (fun _ => te_266) (fun _ => te_267))))) (e_TC 274 (e_TC 270 (e_TC 268 (fun _ => te_268) (e_TC 269 (fun _ => te_269) (fun _ => te_270))) (e_TC 272 (e_TC 271 (fun _ => te_271) (fun _ => te_272)) (e_TC 273 (fun _ => te_273) (fun _ => te_274)))) (e_TC 277 (e_TC 275 (fun _ => te_275) (e_TC 276 (fun _ => te_276) (fun _ => te_277))) (e_TC 279 (e_TC 278 (fun _ => te_278) (fun _ => te_279)) (e_TC 280 (fun _ => te_280) (fun _ => te_281))))))) (e_TC 309 (e_TC 295 (e_TC 288 (e_TC 284 (e_TC 282 (fun _ => te_282) (e_TC 283 (fun _ => te_283) (fun _ => te_284))) (e_TC 286 (e_TC 285 (fun _ => te_285) (fun _ => te_286)) (e_TC 287 (fun _ => te_287) (fun _ => te_288)))) (e_TC 291 (e_TC 289 (fun _ => te_289) (e_TC 290 (fun _ => te_290) (fun _ => te_291))) (e_TC 293 (e_TC 292 (fun _ => te_292) (fun _ => te_293)) (e_TC 294 (fun _ => te_294) (fun _ => te_295))))) (e_TC 302 (e_TC 298 (e_TC 296 (fun _ => te_296) (e_TC 297 (fun _ => te_297) (fun _ => te_298))) (e_TC 300 (e_TC 299 (fun _ => te_299) (fun _ => te_300)) (e_TC 301 (fun _ => te_301) (fun _ => te_302)))) (e_TC 305 (e_TC 303 (fun _ => te_303) (e_TC 304 (fun _ => te_304) (fun _ => te_305))) (e_TC 307 (e_TC 306 (fun _ => te_306) (fun _ => te_307)) (e_TC 308 (fun _ => te_308) (fun _ => te_309)))))) (e_TC 323 (e_TC 316 (e_TC 312 (e_TC 310 (fun _ => te_310) (e_TC 311 (fun _ => te_311) (fun _ => te_312))) (e_TC 314 (e_TC 313 (fun _ => te_313) (fun _ => te_314)) (e_TC 315 (fun _ => te_315) (fun _ => te_316)))) (e_TC 319 (e_TC 317 (fun _ => te_317) (e_TC 318 (fun _ => te_318) (fun _ => te_319))) (e_TC 321 (e_TC 320 (fun _ => te_320) (fun _ => te_321)) (e_TC 322 (fun _ => te_322) (fun _ => te_323))))) (e_TC 330 (e_TC 326 (e_TC 324 (fun _ => te_324) (e_TC 325 (fun _ => te_325) (fun _ => te_326))) (e_TC 328 (e_TC 327 (fun _ => te_327) (fun _ => te_328m)) (e_TC 329 (fun _ => te_329) (fun _ => te_330)))) (e_TC 334 (e_TC 332 (e_TC 331 (fun _ => te_331) (fun _ => te_332)) (e_TC 333 (fun _ => te_333) (fun _ => te_334))) (e_TC 336 (e_TC 335 (fun _ => te_335) (fun _ => te_336)) (e_TC 337 (fun _ => te_337) (fun _ => te_338)))))))) (e_TC 395 (e_TC 366 (e_TC 352 (e_TC 345 (e_TC 341 (e_TC 339 (fun _ => te_339) (e_TC 340 (fun _ => te_340) (fun _ => te_341))) (e_TC 343 (e_TC 342 (fun _ => te_342) (fun _ => te_343)) (e_TC 344 (fun _ => te_344) (fun _ => te_345)))) (e_TC 348 (e_TC 346 (fun _ => te_346) (e_TC 347 (fun _ => te_347) (fun _ => te_348))) (e_TC 350 (e_TC 349 (fun _ => te_349) (fun _ => te_350)) (e_TC 351 (fun _ => te_351) (fun _ => te_352))))) (e_TC 359 (e_TC 355 (e_TC 353 (fun _ => te_353) (e_TC 354 (fun _ => te_354) (fun _ => te_355))) (e_TC 357 (e_TC 356 (fun _ => te_356) (fun _ => te_357)) (e_TC 358 (fun _ => te_358) (fun _ => te_359)))) (e_TC 362 (e_TC 360 (fun _ => te_360) (e_TC 361 (fun _ => te_361) (fun _ => te_362))) (e_TC 364 (e_TC 363 (fun _ => te_363) (fun _ => te_364)) (e_TC 365 (fun _ => te_365) (fun _ => te_366)))))) (e_TC 380 (e_TC 373 (e_TC 369 (e_TC 367 (fun _ => te_367) (e_TC 368 (fun _ => te_368) (fun _ => te_369))) (e_TC 371 (e_TC 370 (fun _ => te_370) (fun _ => te_371)) (e_TC 372 (fun _ => te_372) (fun _ => te_373)))) (e_TC 376 (e_TC 374 (fun _ => te_374) (e_TC 375 (fun _ => te_375) (fun _ => te_376))) (e_TC 378 (e_TC 377 (fun _ => te_377) (fun _ => te_378)) (e_TC 379 (fun _ => te_379) (fun _ => te_380))))) (e_TC 387 (e_TC 383 (e_TC 381 (fun _ => te_381) (e_TC 382 (fun _ => te_382) (fun _ => te_383))) (e_TC 385 (e_TC 384 (fun _ => te_384) (fun _ => te_385)) (e_TC 386 (fun _ => te_386) (fun _ => te_387)))) (e_TC 391 (e_TC 389 (e_TC 388 (fun _ => te_388) (fun _ => te_389m)) (e_TC 390 (fun _ => te_390) (fun _ => te_391))) (e_TC 393 (e_TC 392 (fun _ => te_392) (fun _ => te_393)) (e_TC 394 (fun _ => te_394) (fun _ => te_395))))))) (e_TC 423 (e_TC 409 (e_TC 402 (e_TC 398 (e_TC 396 (fun _ => te_396) (e_TC 397 (fun _ => te_397) (fun _ => te_398))) (e_TC 400 (e_TC 399 (fun _ => te_399) (fun _ => te_400)) (e_TC 401 (fun _ => te_401) (fun _ => te_402)))) (e_TC 405 (e_TC 403 (fun _ => te_403m) (e_TC 404 (fun _ => te_404) (fun _ => te_405))) (e_TC 407 (e_TC 406 (fun _ => te_406) (fun _ => te_407)) (e_TC 408 (fun _ => te_408) (fun _ => te_409))))) (e_TC 416 (e_TC 412 (e_TC 410 (fun _ => te_410) (e_TC 411 (fun _ => te_411) (fun _ => te_412))) (e_TC 414 (e_TC 413 (fun _ => te_413) (fun _ => te_414)) (e_TC 415 (fun _ => te_415) (fun _ => te_416)))) (e_TC 419 (e_TC 417 (fun _ => te_417) (e_TC 418 (fun _ => te_418) (fun _ => te_419))) (e_TC 421 (e_TC 420 (fun _ => te_420) (fun _ => te_421)) (e_TC 422 (fun _ => te_422) (fun _ => te_423)))))) (e_TC 437 (e_TC 430 (e_TC 426 (e_TC 424 (fun _ => te_424) (e_TC 425 (fun _ => te_425) (fun _ => te_426))) (e_TC 428 (e_TC 427 (fun _ => te_427) (fun _ => te_428)) (e_TC 429 (fun _ => te_429) (fun _ => te_430)))) (e_TC 433 (e_TC 431 (fun _ => te_431) (e_TC 432 (fun _ => te_432) (fun _ => te_433))) (e_TC 435 (e_TC 434 (fun _ => te_434) (fun _ => te_435)) (e_TC 436 (fun _ => te_436) (fun _ => te_437))))) (e_TC 444 (e_TC 440 (e_TC 438 (fun _ => te_438) (e_TC 439 (fun _ => te_439) (fun _ => te_440))) (e_TC 442 (e_TC 441 (fun _ => te_441) (fun _ => te_442)) (e_TC 443 (fun _ => te_443) (fun _ => te_444)))) (e_TC 448 (e_TC 446 (e_TC 445 (fun _ => te_445) (fun _ => te_446)) (e_TC 447 (fun _ => te_447) (fun _ => te_448))) (e_TC 450 (e_TC 449 (fun _ => te_449) (fun _ => te_450)) (e_TC 451 (fun _ => te_451) (fun _ => te_452))))))))))
def e_niP (en : eE) : Prop := ∀ f a b, en = (0, f, a, b) → e_NI elay f
theorem e_niP.of {q : xM} {pc : Nat} {en : eE} (h : e_EOq eft cls elay eI q pc en) : e_niP en := fun f a b e => by
  rw [e] at h
  exact h.2.1
theorem e_niP.tc {k : Nat} {a b : Nat → Nat → eE} (ha : ∀ M pc, e_niP (a M pc)) (hb : ∀ M pc, e_niP (b M pc)) : ∀ M pc, e_niP (e_TC k a b M pc) := fun M pc => by
  unfold e_TC
  cases Nat.ble M k with
  | true => exact ha M pc
  | false => exact hb M pc
theorem e_ni_tal (pc : Nat) : e_niP (te_389m pc) := fun f a b e => by
  unfold te_389m at e
  cases hb : Nat.beq pc 0 with
  | true => rw [hb] at e; cases e; exact ni_mTal
  | false => rw [hb] at e; exact e_niP.of (te_389_ok pc) f a b e
theorem e_ni_cj (pc : Nat) : e_niP (te_403m pc) := fun f a b e => by
  unfold te_403m at e
  cases hb : Nat.beq pc 0 with
  | true => rw [hb] at e; cases e; exact ni_mCj
  | false => rw [hb] at e; exact e_niP.of (te_403_ok pc) f a b e
theorem e_niP.bif {c : Bool} {x y : eE} (hx : e_niP x) (hy : e_niP y) : e_niP (bif c then x else y) := by
  cases c
  · exact hy
  · exact hx
theorem e_niP.en {f : eS → Option eS} (h : e_NI elay f) : e_niP (0, f, 0, 0) := fun f' a b e => by cases e; exact h
theorem e_ni_126 (pc : Nat) : e_niP (te_126m pc) := (e_niP.bif (e_niP.en ni_push) (e_niP.bif (e_niP.en ni_S) (e_niP.bif (e_niP.en ni_push) (e_niP.bif (e_niP.en ni_S) (e_niP.of (te_126_ok pc))))))
theorem e_ni_127 (pc : Nat) : e_niP (te_127m pc) := (e_niP.bif (e_niP.en ni_S) (e_niP.of (te_127_ok pc)))
theorem e_ni_128 (pc : Nat) : e_niP (te_128m pc) := (e_niP.bif (e_niP.en ni_push) (e_niP.bif (e_niP.en ni_S) (e_niP.of (te_128_ok pc))))
theorem e_ni_249 (pc : Nat) : e_niP (te_249m pc) := (e_niP.bif (e_niP.en ni_push) (e_niP.bif (e_niP.en ni_S) (e_niP.bif (e_niP.en ni_push) (e_niP.bif (e_niP.en ni_S) (e_niP.bif (e_niP.en ni_push) (e_niP.bif (e_niP.en ni_S) (e_niP.bif (e_niP.en ni_push) (e_niP.bif (e_niP.en ni_S) (e_niP.of (te_249_ok pc))))))))))
theorem e_ni_328 (pc : Nat) : e_niP (te_328m pc) := (e_niP.bif (e_niP.en ni_push) (e_niP.bif (e_niP.en ni_S) (e_niP.bif (e_niP.en ni_push) (e_niP.bif (e_niP.en ni_S) (e_niP.bif (e_niP.en ni_push) (e_niP.bif (e_niP.en ni_S) (e_niP.bif (e_niP.en ni_push) (e_niP.bif (e_niP.en ni_S) (e_niP.bif (e_niP.en ni_push) (e_niP.bif (e_niP.en ni_S) (e_niP.of (te_328_ok pc))))))))))))
set_option maxRecDepth 20000 in
set_option maxHeartbeats 4000000 in
theorem e_ni : ∀ M pc, e_niP (ecode M pc) := (e_niP.tc (k := 225) (e_niP.tc (k := 112) (e_niP.tc (k := 55) (e_niP.tc (k := 27) (e_niP.tc (k := 13) (e_niP.tc (k := 6) (e_niP.tc (k := 2) (e_niP.tc (k := 0) (fun _ _ f a b e => by cases e)
 (e_niP.tc (k := 1) (fun _ pc => e_niP.of (te_1_ok pc))
 (fun _ pc => e_niP.of (te_2_ok pc))))
 (e_niP.tc (k := 4) (e_niP.tc (k := 3) (fun _ pc => e_niP.of (te_3_ok pc))
 (fun _ pc => e_niP.of (te_4_ok pc)))
 (e_niP.tc (k := 5) (fun _ pc => e_niP.of (te_5_ok pc))
 (fun _ pc => e_niP.of (te_6_ok pc)))))
 (e_niP.tc (k := 9) (e_niP.tc (k := 7) (fun _ pc => e_niP.of (te_7_ok pc))
 (e_niP.tc (k := 8) (fun _ pc => e_niP.of (te_8_ok pc))
 (fun _ pc => e_niP.of (te_9_ok pc))))
 (e_niP.tc (k := 11) (e_niP.tc (k := 10) (fun _ pc => e_niP.of (te_10_ok pc))
 (fun _ pc => e_niP.of (te_11_ok pc)))
 (e_niP.tc (k := 12) (fun _ pc => e_niP.of (te_12_ok pc))
 (fun _ pc => e_niP.of (te_13_ok pc))))))
 (e_niP.tc (k := 20) (e_niP.tc (k := 16) (e_niP.tc (k := 14) (fun _ pc => e_niP.of (te_14_ok pc))
 (e_niP.tc (k := 15) (fun _ pc => e_niP.of (te_15_ok pc))
 (fun _ pc => e_niP.of (te_16_ok pc))))
 (e_niP.tc (k := 18) (e_niP.tc (k := 17) (fun _ pc => e_niP.of (te_17_ok pc))
 (fun _ pc => e_niP.of (te_18_ok pc)))
 (e_niP.tc (k := 19) (fun _ pc => e_niP.of (te_19_ok pc))
 (fun _ pc => e_niP.of (te_20_ok pc)))))
 (e_niP.tc (k := 23) (e_niP.tc (k := 21) (fun _ pc => e_niP.of (te_21_ok pc))
 (e_niP.tc (k := 22) (fun _ pc => e_niP.of (te_22_ok pc))
 (fun _ pc => e_niP.of (te_23_ok pc))))
 (e_niP.tc (k := 25) (e_niP.tc (k := 24) (fun _ pc => e_niP.of (te_24_ok pc))
 (fun _ pc => e_niP.of (te_25_ok pc)))
 (e_niP.tc (k := 26) (fun _ pc => e_niP.of (te_26_ok pc))
 (fun _ pc => e_niP.of (te_27_ok pc)))))))
 (e_niP.tc (k := 41) (e_niP.tc (k := 34) (e_niP.tc (k := 30) (e_niP.tc (k := 28) (fun _ pc => e_niP.of (te_28_ok pc))
 (e_niP.tc (k := 29) (fun _ pc => e_niP.of (te_29_ok pc))
 (fun _ pc => e_niP.of (te_30_ok pc))))
 (e_niP.tc (k := 32) (e_niP.tc (k := 31) (fun _ pc => e_niP.of (te_31_ok pc))
 (fun _ pc => e_niP.of (te_32_ok pc)))
 (e_niP.tc (k := 33) (fun _ pc => e_niP.of (te_33_ok pc))
 (fun _ pc => e_niP.of (te_34_ok pc)))))
 (e_niP.tc (k := 37) (e_niP.tc (k := 35) (fun _ pc => e_niP.of (te_35_ok pc))
 (e_niP.tc (k := 36) (fun _ pc => e_niP.of (te_36_ok pc))
 (fun _ pc => e_niP.of (te_37_ok pc))))
 (e_niP.tc (k := 39) (e_niP.tc (k := 38) (fun _ pc => e_niP.of (te_38_ok pc))
 (fun _ pc => e_niP.of (te_39_ok pc)))
 (e_niP.tc (k := 40) (fun _ pc => e_niP.of (te_40_ok pc))
 (fun _ pc => e_niP.of (te_41_ok pc))))))
 (e_niP.tc (k := 48) (e_niP.tc (k := 44) (e_niP.tc (k := 42) (fun _ pc => e_niP.of (te_42_ok pc))
 (e_niP.tc (k := 43) (fun _ pc => e_niP.of (te_43_ok pc))
 (fun _ pc => e_niP.of (te_44_ok pc))))
 (e_niP.tc (k := 46) (e_niP.tc (k := 45) (fun _ pc => e_niP.of (te_45_ok pc))
 (fun _ pc => e_niP.of (te_46_ok pc)))
 (e_niP.tc (k := 47) (fun _ pc => e_niP.of (te_47_ok pc))
 (fun _ pc => e_niP.of (te_48_ok pc)))))
 (e_niP.tc (k := 51) (e_niP.tc (k := 49) (fun _ pc => e_niP.of (te_49_ok pc))
 (e_niP.tc (k := 50) (fun _ pc => e_niP.of (te_50_ok pc))
 (fun _ pc => e_niP.of (te_51_ok pc))))
 (e_niP.tc (k := 53) (e_niP.tc (k := 52) (fun _ pc => e_niP.of (te_52_ok pc))
 (fun _ pc => e_niP.of (te_53_ok pc)))
 (e_niP.tc (k := 54) (fun _ pc => e_niP.of (te_54_ok pc))
 (fun _ pc => e_niP.of (te_55_ok pc))))))))
 (e_niP.tc (k := 83) (e_niP.tc (k := 69) (e_niP.tc (k := 62) (e_niP.tc (k := 58) (e_niP.tc (k := 56) (fun _ pc => e_niP.of (te_56_ok pc))
 (e_niP.tc (k := 57) (fun _ pc => e_niP.of (te_57_ok pc))
 (fun _ pc => e_niP.of (te_58_ok pc))))
 (e_niP.tc (k := 60) (e_niP.tc (k := 59) (fun _ pc => e_niP.of (te_59_ok pc))
 (fun _ pc => e_niP.of (te_60_ok pc)))
 (e_niP.tc (k := 61) (fun _ pc => e_niP.of (te_61_ok pc))
 (fun _ pc => e_niP.of (te_62_ok pc)))))
 (e_niP.tc (k := 65) (e_niP.tc (k := 63) (fun _ pc => e_niP.of (te_63_ok pc))
 (e_niP.tc (k := 64) (fun _ pc => e_niP.of (te_64_ok pc))
 (fun _ pc => e_niP.of (te_65_ok pc))))
 (e_niP.tc (k := 67) (e_niP.tc (k := 66) (fun _ pc => e_niP.of (te_66_ok pc))
 (fun _ pc => e_niP.of (te_67_ok pc)))
 (e_niP.tc (k := 68) (fun _ pc => e_niP.of (te_68_ok pc))
 (fun _ pc => e_niP.of (te_69_ok pc))))))
 (e_niP.tc (k := 76) (e_niP.tc (k := 72) (e_niP.tc (k := 70) (fun _ pc => e_niP.of (te_70_ok pc))
 (e_niP.tc (k := 71) (fun _ pc => e_niP.of (te_71_ok pc))
 (fun _ pc => e_niP.of (te_72_ok pc))))
 (e_niP.tc (k := 74) (e_niP.tc (k := 73) (fun _ pc => e_niP.of (te_73_ok pc))
 (fun _ pc => e_niP.of (te_74_ok pc)))
 (e_niP.tc (k := 75) (fun _ pc => e_niP.of (te_75_ok pc))
 (fun _ pc => e_niP.of (te_76_ok pc)))))
 (e_niP.tc (k := 79) (e_niP.tc (k := 77) (fun _ pc => e_niP.of (te_77_ok pc))
 (e_niP.tc (k := 78) (fun _ pc => e_niP.of (te_78_ok pc))
 (fun _ pc => e_niP.of (te_79_ok pc))))
 (e_niP.tc (k := 81) (e_niP.tc (k := 80) (fun _ pc => e_niP.of (te_80_ok pc))
 (fun _ pc => e_niP.of (te_81_ok pc)))
 (e_niP.tc (k := 82) (fun _ pc => e_niP.of (te_82_ok pc))
 (fun _ pc => e_niP.of (te_83_ok pc)))))))
 (e_niP.tc (k := 97) (e_niP.tc (k := 90) (e_niP.tc (k := 86) (e_niP.tc (k := 84) (fun _ pc => e_niP.of (te_84_ok pc))
 (e_niP.tc (k := 85) (fun _ pc => e_niP.of (te_85_ok pc))
 (fun _ pc => e_niP.of (te_86_ok pc))))
 (e_niP.tc (k := 88) (e_niP.tc (k := 87) (fun _ pc => e_niP.of (te_87_ok pc))
 (fun _ pc => e_niP.of (te_88_ok pc)))
 (e_niP.tc (k := 89) (fun _ pc => e_niP.of (te_89_ok pc))
 (fun _ pc => e_niP.of (te_90_ok pc)))))
 (e_niP.tc (k := 93) (e_niP.tc (k := 91) (fun _ pc => e_niP.of (te_91_ok pc))
 (e_niP.tc (k := 92) (fun _ pc => e_niP.of (te_92_ok pc))
 (fun _ pc => e_niP.of (te_93_ok pc))))
 (e_niP.tc (k := 95) (e_niP.tc (k := 94) (fun _ pc => e_niP.of (te_94_ok pc))
 (fun _ pc => e_niP.of (te_95_ok pc)))
 (e_niP.tc (k := 96) (fun _ pc => e_niP.of (te_96_ok pc))
 (fun _ pc => e_niP.of (te_97_ok pc))))))
 (e_niP.tc (k := 104) (e_niP.tc (k := 100) (e_niP.tc (k := 98) (fun _ pc => e_niP.of (te_98_ok pc))
 (e_niP.tc (k := 99) (fun _ pc => e_niP.of (te_99_ok pc))
 (fun _ pc => e_niP.of (te_100_ok pc))))
 (e_niP.tc (k := 102) (e_niP.tc (k := 101) (fun _ pc => e_niP.of (te_101_ok pc))
 (fun _ pc => e_niP.of (te_102_ok pc)))
 (e_niP.tc (k := 103) (fun _ pc => e_niP.of (te_103_ok pc))
 (fun _ pc => e_niP.of (te_104_ok pc)))))
 (e_niP.tc (k := 108) (e_niP.tc (k := 106) (e_niP.tc (k := 105) (fun _ pc => e_niP.of (te_105_ok pc))
 (fun _ pc => e_niP.of (te_106_ok pc)))
 (e_niP.tc (k := 107) (fun _ pc => e_niP.of (te_107_ok pc))
 (fun _ pc => e_niP.of (te_108_ok pc))))
 (e_niP.tc (k := 110) (e_niP.tc (k := 109) (fun _ pc => e_niP.of (te_109_ok pc))
 (fun _ pc => e_niP.of (te_110_ok pc)))
 (e_niP.tc (k := 111) (fun _ pc => e_niP.of (te_111_ok pc))
 (fun _ pc => e_niP.of (te_112_ok pc)))))))))
 (e_niP.tc (k := 168) (e_niP.tc (k := 140) (e_niP.tc (k := 126) (e_niP.tc (k := 119) (e_niP.tc (k := 115) (e_niP.tc (k := 113) (fun _ pc => e_niP.of (te_113_ok pc))
 (e_niP.tc (k := 114) (fun _ pc => e_niP.of (te_114_ok pc))
 (fun _ pc => e_niP.of (te_115_ok pc))))
 (e_niP.tc (k := 117) (e_niP.tc (k := 116) (fun _ pc => e_niP.of (te_116_ok pc))
 (fun _ pc => e_niP.of (te_117_ok pc)))
 (e_niP.tc (k := 118) (fun _ pc => e_niP.of (te_118_ok pc))
 (fun _ pc => e_niP.of (te_119_ok pc)))))
 (e_niP.tc (k := 122) (e_niP.tc (k := 120) (fun _ pc => e_niP.of (te_120_ok pc))
 (e_niP.tc (k := 121) (fun _ pc => e_niP.of (te_121_ok pc))
 (fun _ pc => e_niP.of (te_122_ok pc))))
 (e_niP.tc (k := 124) (e_niP.tc (k := 123) (fun _ pc => e_niP.of (te_123_ok pc))
 (fun _ pc => e_niP.of (te_124_ok pc)))
 (e_niP.tc (k := 125) (fun _ pc => e_niP.of (te_125_ok pc))
 (fun _ pc => e_ni_126 pc)))))
 (e_niP.tc (k := 133) (e_niP.tc (k := 129) (e_niP.tc (k := 127) (fun _ pc => e_ni_127 pc)
 (e_niP.tc (k := 128) (fun _ pc => e_ni_128 pc)
 (fun _ pc => e_niP.of (te_129_ok pc))))
 (e_niP.tc (k := 131) (e_niP.tc (k := 130) (fun _ pc => e_niP.of (te_130_ok pc))
 (fun _ pc => e_niP.of (te_131_ok pc)))
 (e_niP.tc (k := 132) (fun _ pc => e_niP.of (te_132_ok pc))
 (fun _ pc => e_niP.of (te_133_ok pc)))))
 (e_niP.tc (k := 136) (e_niP.tc (k := 134) (fun _ pc => e_niP.of (te_134_ok pc))
 (e_niP.tc (k := 135) (fun _ pc => e_niP.of (te_135_ok pc))
 (fun _ pc => e_niP.of (te_136_ok pc))))
 (e_niP.tc (k := 138) (e_niP.tc (k := 137) (fun _ pc => e_niP.of (te_137_ok pc))
 (fun _ pc => e_niP.of (te_138_ok pc)))
 (e_niP.tc (k := 139) (fun _ pc => e_niP.of (te_139_ok pc))
 (fun _ pc => e_niP.of (te_140_ok pc)))))))
 (e_niP.tc (k := 154) (e_niP.tc (k := 147) (e_niP.tc (k := 143) (e_niP.tc (k := 141) (fun _ pc => e_niP.of (te_141_ok pc))
 (e_niP.tc (k := 142) (fun _ pc => e_niP.of (te_142_ok pc))
 (fun _ pc => e_niP.of (te_143_ok pc))))
 (e_niP.tc (k := 145) (e_niP.tc (k := 144) (fun _ pc => e_niP.of (te_144_ok pc))
 (fun _ pc => e_niP.of (te_145_ok pc)))
 (e_niP.tc (k := 146) (fun _ pc => e_niP.of (te_146_ok pc))
 (fun _ pc => e_niP.of (te_147_ok pc)))))
 (e_niP.tc (k := 150) (e_niP.tc (k := 148) (fun _ pc => e_niP.of (te_148_ok pc))
 (e_niP.tc (k := 149) (fun _ pc => e_niP.of (te_149_ok pc))
 (fun _ pc => e_niP.of (te_150_ok pc))))
 (e_niP.tc (k := 152) (e_niP.tc (k := 151) (fun _ pc => e_niP.of (te_151_ok pc))
 (fun _ pc => e_niP.of (te_152_ok pc)))
 (e_niP.tc (k := 153) (fun _ pc => e_niP.of (te_153_ok pc))
 (fun _ pc => e_niP.of (te_154_ok pc))))))
 (e_niP.tc (k := 161) (e_niP.tc (k := 157) (e_niP.tc (k := 155) (fun _ pc => e_niP.of (te_155_ok pc))
 (e_niP.tc (k := 156) (fun _ pc => e_niP.of (te_156_ok pc))
 (fun _ pc => e_niP.of (te_157_ok pc))))
 (e_niP.tc (k := 159) (e_niP.tc (k := 158) (fun _ pc => e_niP.of (te_158_ok pc))
 (fun _ pc => e_niP.of (te_159_ok pc)))
 (e_niP.tc (k := 160) (fun _ pc => e_niP.of (te_160_ok pc))
 (fun _ pc => e_niP.of (te_161_ok pc)))))
 (e_niP.tc (k := 164) (e_niP.tc (k := 162) (fun _ pc => e_niP.of (te_162_ok pc))
 (e_niP.tc (k := 163) (fun _ pc => e_niP.of (te_163_ok pc))
 (fun _ pc => e_niP.of (te_164_ok pc))))
 (e_niP.tc (k := 166) (e_niP.tc (k := 165) (fun _ pc => e_niP.of (te_165_ok pc))
 (fun _ pc => e_niP.of (te_166_ok pc)))
 (e_niP.tc (k := 167) (fun _ pc => e_niP.of (te_167_ok pc))
 (fun _ pc => e_niP.of (te_168_ok pc))))))))
 (e_niP.tc (k := 196) (e_niP.tc (k := 182) (e_niP.tc (k := 175) (e_niP.tc (k := 171) (e_niP.tc (k := 169) (fun _ pc => e_niP.of (te_169_ok pc))
 (e_niP.tc (k := 170) (fun _ pc => e_niP.of (te_170_ok pc))
 (fun _ pc => e_niP.of (te_171_ok pc))))
 (e_niP.tc (k := 173) (e_niP.tc (k := 172) (fun _ pc => e_niP.of (te_172_ok pc))
 (fun _ pc => e_niP.of (te_173_ok pc)))
 (e_niP.tc (k := 174) (fun _ pc => e_niP.of (te_174_ok pc))
 (fun _ pc => e_niP.of (te_175_ok pc)))))
 (e_niP.tc (k := 178) (e_niP.tc (k := 176) (fun _ pc => e_niP.of (te_176_ok pc))
 (e_niP.tc (k := 177) (fun _ pc => e_niP.of (te_177_ok pc))
 (fun _ pc => e_niP.of (te_178_ok pc))))
 (e_niP.tc (k := 180) (e_niP.tc (k := 179) (fun _ pc => e_niP.of (te_179_ok pc))
 (fun _ pc => e_niP.of (te_180_ok pc)))
 (e_niP.tc (k := 181) (fun _ pc => e_niP.of (te_181_ok pc))
 (fun _ pc => e_niP.of (te_182_ok pc))))))
 (e_niP.tc (k := 189) (e_niP.tc (k := 185) (e_niP.tc (k := 183) (fun _ pc => e_niP.of (te_183_ok pc))
 (e_niP.tc (k := 184) (fun _ pc => e_niP.of (te_184_ok pc))
 (fun _ pc => e_niP.of (te_185_ok pc))))
 (e_niP.tc (k := 187) (e_niP.tc (k := 186) (fun _ pc => e_niP.of (te_186_ok pc))
 (fun _ pc => e_niP.of (te_187_ok pc)))
 (e_niP.tc (k := 188) (fun _ pc => e_niP.of (te_188_ok pc))
 (fun _ pc => e_niP.of (te_189_ok pc)))))
 (e_niP.tc (k := 192) (e_niP.tc (k := 190) (fun _ pc => e_niP.of (te_190_ok pc))
 (e_niP.tc (k := 191) (fun _ pc => e_niP.of (te_191_ok pc))
 (fun _ pc => e_niP.of (te_192_ok pc))))
 (e_niP.tc (k := 194) (e_niP.tc (k := 193) (fun _ pc => e_niP.of (te_193_ok pc))
 (fun _ pc => e_niP.of (te_194_ok pc)))
 (e_niP.tc (k := 195) (fun _ pc => e_niP.of (te_195_ok pc))
 (fun _ pc => e_niP.of (te_196_ok pc)))))))
 (e_niP.tc (k := 210) (e_niP.tc (k := 203) (e_niP.tc (k := 199) (e_niP.tc (k := 197) (fun _ pc => e_niP.of (te_197_ok pc))
 (e_niP.tc (k := 198) (fun _ pc => e_niP.of (te_198_ok pc))
 (fun _ pc => e_niP.of (te_199_ok pc))))
 (e_niP.tc (k := 201) (e_niP.tc (k := 200) (fun _ pc => e_niP.of (te_200_ok pc))
 (fun _ pc => e_niP.of (te_201_ok pc)))
 (e_niP.tc (k := 202) (fun _ pc => e_niP.of (te_202_ok pc))
 (fun _ pc => e_niP.of (te_203_ok pc)))))
 (e_niP.tc (k := 206) (e_niP.tc (k := 204) (fun _ pc => e_niP.of (te_204_ok pc))
 (e_niP.tc (k := 205) (fun _ pc => e_niP.of (te_205_ok pc))
 (fun _ pc => e_niP.of (te_206_ok pc))))
 (e_niP.tc (k := 208) (e_niP.tc (k := 207) (fun _ pc => e_niP.of (te_207_ok pc))
 (fun _ pc => e_niP.of (te_208_ok pc)))
 (e_niP.tc (k := 209) (fun _ pc => e_niP.of (te_209_ok pc))
 (fun _ pc => e_niP.of (te_210_ok pc))))))
 (e_niP.tc (k := 217) (e_niP.tc (k := 213) (e_niP.tc (k := 211) (fun _ pc => e_niP.of (te_211_ok pc))
 (e_niP.tc (k := 212) (fun _ pc => e_niP.of (te_212_ok pc))
 (fun _ pc => e_niP.of (te_213_ok pc))))
 (e_niP.tc (k := 215) (e_niP.tc (k := 214) (fun _ pc => e_niP.of (te_214_ok pc))
 (fun _ pc => e_niP.of (te_215_ok pc)))
 (e_niP.tc (k := 216) (fun _ pc => e_niP.of (te_216_ok pc))
 (fun _ pc => e_niP.of (te_217_ok pc)))))
 (e_niP.tc (k := 221) (e_niP.tc (k := 219) (e_niP.tc (k := 218) (fun _ pc => e_niP.of (te_218_ok pc))
 (fun _ pc => e_niP.of (te_219_ok pc)))
 (e_niP.tc (k := 220) (fun _ pc => e_niP.of (te_220_ok pc))
 (fun _ pc => e_niP.of (te_221_ok pc))))
 (e_niP.tc (k := 223) (e_niP.tc (k := 222) (fun _ pc => e_niP.of (te_222_ok pc))
 (fun _ pc => e_niP.of (te_223_ok pc)))
 (e_niP.tc (k := 224) (fun _ pc => e_niP.of (te_224_ok pc))
 (fun _ pc => e_niP.of (te_225_ok pc))))))))))
 (e_niP.tc (k := 338) (e_niP.tc (k := 281) (e_niP.tc (k := 253) (e_niP.tc (k := 239) (e_niP.tc (k := 232) (e_niP.tc (k := 228) (e_niP.tc (k := 226) (fun _ pc => e_niP.of (te_226_ok pc))
 (e_niP.tc (k := 227) (fun _ pc => e_niP.of (te_227_ok pc))
 (fun _ pc => e_niP.of (te_228_ok pc))))
 (e_niP.tc (k := 230) (e_niP.tc (k := 229) (fun _ pc => e_niP.of (te_229_ok pc))
 (fun _ pc => e_niP.of (te_230_ok pc)))
 (e_niP.tc (k := 231) (fun _ pc => e_niP.of (te_231_ok pc))
 (fun _ pc => e_niP.of (te_232_ok pc)))))
 (e_niP.tc (k := 235) (e_niP.tc (k := 233) (fun _ pc => e_niP.of (te_233_ok pc))
 (e_niP.tc (k := 234) (fun _ pc => e_niP.of (te_234_ok pc))
 (fun _ pc => e_niP.of (te_235_ok pc))))
 (e_niP.tc (k := 237) (e_niP.tc (k := 236) (fun _ pc => e_niP.of (te_236_ok pc))
 (fun _ pc => e_niP.of (te_237_ok pc)))
 (e_niP.tc (k := 238) (fun _ pc => e_niP.of (te_238_ok pc))
 (fun _ pc => e_niP.of (te_239_ok pc))))))
 (e_niP.tc (k := 246) (e_niP.tc (k := 242) (e_niP.tc (k := 240) (fun _ pc => e_niP.of (te_240_ok pc))
 (e_niP.tc (k := 241) (fun _ pc => e_niP.of (te_241_ok pc))
 (fun _ pc => e_niP.of (te_242_ok pc))))
 (e_niP.tc (k := 244) (e_niP.tc (k := 243) (fun _ pc => e_niP.of (te_243_ok pc))
 (fun _ pc => e_niP.of (te_244_ok pc)))
 (e_niP.tc (k := 245) (fun _ pc => e_niP.of (te_245_ok pc))
 (fun _ pc => e_niP.of (te_246_ok pc)))))
 (e_niP.tc (k := 249) (e_niP.tc (k := 247) (fun _ pc => e_niP.of (te_247_ok pc))
 (e_niP.tc (k := 248) (fun _ pc => e_niP.of (te_248_ok pc))
 (fun _ pc => e_ni_249 pc)))
 (e_niP.tc (k := 251) (e_niP.tc (k := 250) (fun _ pc => e_niP.of (te_250_ok pc))
 (fun _ pc => e_niP.of (te_251_ok pc)))
 (e_niP.tc (k := 252) (fun _ pc => e_niP.of (te_252_ok pc))
 (fun _ pc => e_niP.of (te_253_ok pc)))))))
 (e_niP.tc (k := 267) (e_niP.tc (k := 260) (e_niP.tc (k := 256) (e_niP.tc (k := 254) (fun _ pc => e_niP.of (te_254_ok pc))
 (e_niP.tc (k := 255) (fun _ pc => e_niP.of (te_255_ok pc))
 (fun _ pc => e_niP.of (te_256_ok pc))))
 (e_niP.tc (k := 258) (e_niP.tc (k := 257) (fun _ pc => e_niP.of (te_257_ok pc))
 (fun _ pc => e_niP.of (te_258_ok pc)))
 (e_niP.tc (k := 259) (fun _ pc => e_niP.of (te_259_ok pc))
 (fun _ pc => e_niP.of (te_260_ok pc)))))
 (e_niP.tc (k := 263) (e_niP.tc (k := 261) (fun _ pc => e_niP.of (te_261_ok pc))
 (e_niP.tc (k := 262) (fun _ pc => e_niP.of (te_262_ok pc))
 (fun _ pc => e_niP.of (te_263_ok pc))))
 (e_niP.tc (k := 265) (e_niP.tc (k := 264) (fun _ pc => e_niP.of (te_264_ok pc))
 (fun _ pc => e_niP.of (te_265_ok pc)))
 (e_niP.tc (k := 266) (fun _ pc => e_niP.of (te_266_ok pc))
 (fun _ pc => e_niP.of (te_267_ok pc))))))
 (e_niP.tc (k := 274) (e_niP.tc (k := 270) (e_niP.tc (k := 268) (fun _ pc => e_niP.of (te_268_ok pc))
 (e_niP.tc (k := 269) (fun _ pc => e_niP.of (te_269_ok pc))
 (fun _ pc => e_niP.of (te_270_ok pc))))
 (e_niP.tc (k := 272) (e_niP.tc (k := 271) (fun _ pc => e_niP.of (te_271_ok pc))
 (fun _ pc => e_niP.of (te_272_ok pc)))
 (e_niP.tc (k := 273) (fun _ pc => e_niP.of (te_273_ok pc))
 (fun _ pc => e_niP.of (te_274_ok pc)))))
 (e_niP.tc (k := 277) (e_niP.tc (k := 275) (fun _ pc => e_niP.of (te_275_ok pc))
 (e_niP.tc (k := 276) (fun _ pc => e_niP.of (te_276_ok pc))
 (fun _ pc => e_niP.of (te_277_ok pc))))
 (e_niP.tc (k := 279) (e_niP.tc (k := 278) (fun _ pc => e_niP.of (te_278_ok pc))
 (fun _ pc => e_niP.of (te_279_ok pc)))
 (e_niP.tc (k := 280) (fun _ pc => e_niP.of (te_280_ok pc))
 (fun _ pc => e_niP.of (te_281_ok pc))))))))
 (e_niP.tc (k := 309) (e_niP.tc (k := 295) (e_niP.tc (k := 288) (e_niP.tc (k := 284) (e_niP.tc (k := 282) (fun _ pc => e_niP.of (te_282_ok pc))
 (e_niP.tc (k := 283) (fun _ pc => e_niP.of (te_283_ok pc))
 (fun _ pc => e_niP.of (te_284_ok pc))))
 (e_niP.tc (k := 286) (e_niP.tc (k := 285) (fun _ pc => e_niP.of (te_285_ok pc))
 (fun _ pc => e_niP.of (te_286_ok pc)))
 (e_niP.tc (k := 287) (fun _ pc => e_niP.of (te_287_ok pc))
 (fun _ pc => e_niP.of (te_288_ok pc)))))
 (e_niP.tc (k := 291) (e_niP.tc (k := 289) (fun _ pc => e_niP.of (te_289_ok pc))
 (e_niP.tc (k := 290) (fun _ pc => e_niP.of (te_290_ok pc))
 (fun _ pc => e_niP.of (te_291_ok pc))))
 (e_niP.tc (k := 293) (e_niP.tc (k := 292) (fun _ pc => e_niP.of (te_292_ok pc))
 (fun _ pc => e_niP.of (te_293_ok pc)))
 (e_niP.tc (k := 294) (fun _ pc => e_niP.of (te_294_ok pc))
 (fun _ pc => e_niP.of (te_295_ok pc))))))
 (e_niP.tc (k := 302) (e_niP.tc (k := 298) (e_niP.tc (k := 296) (fun _ pc => e_niP.of (te_296_ok pc))
 (e_niP.tc (k := 297) (fun _ pc => e_niP.of (te_297_ok pc))
 (fun _ pc => e_niP.of (te_298_ok pc))))
 (e_niP.tc (k := 300) (e_niP.tc (k := 299) (fun _ pc => e_niP.of (te_299_ok pc))
 (fun _ pc => e_niP.of (te_300_ok pc)))
 (e_niP.tc (k := 301) (fun _ pc => e_niP.of (te_301_ok pc))
 (fun _ pc => e_niP.of (te_302_ok pc)))))
 (e_niP.tc (k := 305) (e_niP.tc (k := 303) (fun _ pc => e_niP.of (te_303_ok pc))
 (e_niP.tc (k := 304) (fun _ pc => e_niP.of (te_304_ok pc))
 (fun _ pc => e_niP.of (te_305_ok pc))))
 (e_niP.tc (k := 307) (e_niP.tc (k := 306) (fun _ pc => e_niP.of (te_306_ok pc))
 (fun _ pc => e_niP.of (te_307_ok pc)))
 (e_niP.tc (k := 308) (fun _ pc => e_niP.of (te_308_ok pc))
 (fun _ pc => e_niP.of (te_309_ok pc)))))))
 (e_niP.tc (k := 323) (e_niP.tc (k := 316) (e_niP.tc (k := 312) (e_niP.tc (k := 310) (fun _ pc => e_niP.of (te_310_ok pc))
 (e_niP.tc (k := 311) (fun _ pc => e_niP.of (te_311_ok pc))
 (fun _ pc => e_niP.of (te_312_ok pc))))
 (e_niP.tc (k := 314) (e_niP.tc (k := 313) (fun _ pc => e_niP.of (te_313_ok pc))
 (fun _ pc => e_niP.of (te_314_ok pc)))
 (e_niP.tc (k := 315) (fun _ pc => e_niP.of (te_315_ok pc))
 (fun _ pc => e_niP.of (te_316_ok pc)))))
 (e_niP.tc (k := 319) (e_niP.tc (k := 317) (fun _ pc => e_niP.of (te_317_ok pc))
 (e_niP.tc (k := 318) (fun _ pc => e_niP.of (te_318_ok pc))
 (fun _ pc => e_niP.of (te_319_ok pc))))
 (e_niP.tc (k := 321) (e_niP.tc (k := 320) (fun _ pc => e_niP.of (te_320_ok pc))
 (fun _ pc => e_niP.of (te_321_ok pc)))
 (e_niP.tc (k := 322) (fun _ pc => e_niP.of (te_322_ok pc))
 (fun _ pc => e_niP.of (te_323_ok pc))))))
 (e_niP.tc (k := 330) (e_niP.tc (k := 326) (e_niP.tc (k := 324) (fun _ pc => e_niP.of (te_324_ok pc))
 (e_niP.tc (k := 325) (fun _ pc => e_niP.of (te_325_ok pc))
 (fun _ pc => e_niP.of (te_326_ok pc))))
 (e_niP.tc (k := 328) (e_niP.tc (k := 327) (fun _ pc => e_niP.of (te_327_ok pc))
 (fun _ pc => e_ni_328 pc))
 (e_niP.tc (k := 329) (fun _ pc => e_niP.of (te_329_ok pc))
 (fun _ pc => e_niP.of (te_330_ok pc)))))
 (e_niP.tc (k := 334) (e_niP.tc (k := 332) (e_niP.tc (k := 331) (fun _ pc => e_niP.of (te_331_ok pc))
 (fun _ pc => e_niP.of (te_332_ok pc)))
 (e_niP.tc (k := 333) (fun _ pc => e_niP.of (te_333_ok pc))
 (fun _ pc => e_niP.of (te_334_ok pc))))
 (e_niP.tc (k := 336) (e_niP.tc (k := 335) (fun _ pc => e_niP.of (te_335_ok pc))
 (fun _ pc => e_niP.of (te_336_ok pc)))
 (e_niP.tc (k := 337) (fun _ pc => e_niP.of (te_337_ok pc))
 (fun _ pc => e_niP.of (te_338_ok pc)))))))))
 (e_niP.tc (k := 395) (e_niP.tc (k := 366) (e_niP.tc (k := 352) (e_niP.tc (k := 345) (e_niP.tc (k := 341) (e_niP.tc (k := 339) (fun _ pc => e_niP.of (te_339_ok pc))
 (e_niP.tc (k := 340) (fun _ pc => e_niP.of (te_340_ok pc))
 (fun _ pc => e_niP.of (te_341_ok pc))))
 (e_niP.tc (k := 343) (e_niP.tc (k := 342) (fun _ pc => e_niP.of (te_342_ok pc))
 (fun _ pc => e_niP.of (te_343_ok pc)))
 (e_niP.tc (k := 344) (fun _ pc => e_niP.of (te_344_ok pc))
 (fun _ pc => e_niP.of (te_345_ok pc)))))
 (e_niP.tc (k := 348) (e_niP.tc (k := 346) (fun _ pc => e_niP.of (te_346_ok pc))
 (e_niP.tc (k := 347) (fun _ pc => e_niP.of (te_347_ok pc))
 (fun _ pc => e_niP.of (te_348_ok pc))))
 (e_niP.tc (k := 350) (e_niP.tc (k := 349) (fun _ pc => e_niP.of (te_349_ok pc))
 (fun _ pc => e_niP.of (te_350_ok pc)))
 (e_niP.tc (k := 351) (fun _ pc => e_niP.of (te_351_ok pc))
 (fun _ pc => e_niP.of (te_352_ok pc))))))
 (e_niP.tc (k := 359) (e_niP.tc (k := 355) (e_niP.tc (k := 353) (fun _ pc => e_niP.of (te_353_ok pc))
 (e_niP.tc (k := 354) (fun _ pc => e_niP.of (te_354_ok pc))
 (fun _ pc => e_niP.of (te_355_ok pc))))
 (e_niP.tc (k := 357) (e_niP.tc (k := 356) (fun _ pc => e_niP.of (te_356_ok pc))
 (fun _ pc => e_niP.of (te_357_ok pc)))
 (e_niP.tc (k := 358) (fun _ pc => e_niP.of (te_358_ok pc))
 (fun _ pc => e_niP.of (te_359_ok pc)))))
 (e_niP.tc (k := 362) (e_niP.tc (k := 360) (fun _ pc => e_niP.of (te_360_ok pc))
 (e_niP.tc (k := 361) (fun _ pc => e_niP.of (te_361_ok pc))
 (fun _ pc => e_niP.of (te_362_ok pc))))
 (e_niP.tc (k := 364) (e_niP.tc (k := 363) (fun _ pc => e_niP.of (te_363_ok pc))
 (fun _ pc => e_niP.of (te_364_ok pc)))
 (e_niP.tc (k := 365) (fun _ pc => e_niP.of (te_365_ok pc))
 (fun _ pc => e_niP.of (te_366_ok pc)))))))
 (e_niP.tc (k := 380) (e_niP.tc (k := 373) (e_niP.tc (k := 369) (e_niP.tc (k := 367) (fun _ pc => e_niP.of (te_367_ok pc))
 (e_niP.tc (k := 368) (fun _ pc => e_niP.of (te_368_ok pc))
 (fun _ pc => e_niP.of (te_369_ok pc))))
 (e_niP.tc (k := 371) (e_niP.tc (k := 370) (fun _ pc => e_niP.of (te_370_ok pc))
 (fun _ pc => e_niP.of (te_371_ok pc)))
 (e_niP.tc (k := 372) (fun _ pc => e_niP.of (te_372_ok pc))
 (fun _ pc => e_niP.of (te_373_ok pc)))))
 (e_niP.tc (k := 376) (e_niP.tc (k := 374) (fun _ pc => e_niP.of (te_374_ok pc))
 (e_niP.tc (k := 375) (fun _ pc => e_niP.of (te_375_ok pc))
 (fun _ pc => e_niP.of (te_376_ok pc))))
 (e_niP.tc (k := 378) (e_niP.tc (k := 377) (fun _ pc => e_niP.of (te_377_ok pc))
 (fun _ pc => e_niP.of (te_378_ok pc)))
 (e_niP.tc (k := 379) (fun _ pc => e_niP.of (te_379_ok pc))
 (fun _ pc => e_niP.of (te_380_ok pc))))))
 (e_niP.tc (k := 387) (e_niP.tc (k := 383) (e_niP.tc (k := 381) (fun _ pc => e_niP.of (te_381_ok pc))
 (e_niP.tc (k := 382) (fun _ pc => e_niP.of (te_382_ok pc))
 (fun _ pc => e_niP.of (te_383_ok pc))))
 (e_niP.tc (k := 385) (e_niP.tc (k := 384) (fun _ pc => e_niP.of (te_384_ok pc))
 (fun _ pc => e_niP.of (te_385_ok pc)))
 (e_niP.tc (k := 386) (fun _ pc => e_niP.of (te_386_ok pc))
 (fun _ pc => e_niP.of (te_387_ok pc)))))
 (e_niP.tc (k := 391) (e_niP.tc (k := 389) (e_niP.tc (k := 388) (fun _ pc => e_niP.of (te_388_ok pc))
 (fun _ pc => e_ni_tal pc))
 (e_niP.tc (k := 390) (fun _ pc => e_niP.of (te_390_ok pc))
 (fun _ pc => e_niP.of (te_391_ok pc))))
 (e_niP.tc (k := 393) (e_niP.tc (k := 392) (fun _ pc => e_niP.of (te_392_ok pc))
 (fun _ pc => e_niP.of (te_393_ok pc)))
 (e_niP.tc (k := 394) (fun _ pc => e_niP.of (te_394_ok pc))
 (fun _ pc => e_niP.of (te_395_ok pc))))))))
 (e_niP.tc (k := 423) (e_niP.tc (k := 409) (e_niP.tc (k := 402) (e_niP.tc (k := 398) (e_niP.tc (k := 396) (fun _ pc => e_niP.of (te_396_ok pc))
 (e_niP.tc (k := 397) (fun _ pc => e_niP.of (te_397_ok pc))
 (fun _ pc => e_niP.of (te_398_ok pc))))
 (e_niP.tc (k := 400) (e_niP.tc (k := 399) (fun _ pc => e_niP.of (te_399_ok pc))
 (fun _ pc => e_niP.of (te_400_ok pc)))
 (e_niP.tc (k := 401) (fun _ pc => e_niP.of (te_401_ok pc))
 (fun _ pc => e_niP.of (te_402_ok pc)))))
 (e_niP.tc (k := 405) (e_niP.tc (k := 403) (fun _ pc => e_ni_cj pc)
 (e_niP.tc (k := 404) (fun _ pc => e_niP.of (te_404_ok pc))
 (fun _ pc => e_niP.of (te_405_ok pc))))
 (e_niP.tc (k := 407) (e_niP.tc (k := 406) (fun _ pc => e_niP.of (te_406_ok pc))
 (fun _ pc => e_niP.of (te_407_ok pc)))
 (e_niP.tc (k := 408) (fun _ pc => e_niP.of (te_408_ok pc))
 (fun _ pc => e_niP.of (te_409_ok pc))))))
 (e_niP.tc (k := 416) (e_niP.tc (k := 412) (e_niP.tc (k := 410) (fun _ pc => e_niP.of (te_410_ok pc))
 (e_niP.tc (k := 411) (fun _ pc => e_niP.of (te_411_ok pc))
 (fun _ pc => e_niP.of (te_412_ok pc))))
 (e_niP.tc (k := 414) (e_niP.tc (k := 413) (fun _ pc => e_niP.of (te_413_ok pc))
 (fun _ pc => e_niP.of (te_414_ok pc)))
 (e_niP.tc (k := 415) (fun _ pc => e_niP.of (te_415_ok pc))
 (fun _ pc => e_niP.of (te_416_ok pc)))))
 (e_niP.tc (k := 419) (e_niP.tc (k := 417) (fun _ pc => e_niP.of (te_417_ok pc))
 (e_niP.tc (k := 418) (fun _ pc => e_niP.of (te_418_ok pc))
 (fun _ pc => e_niP.of (te_419_ok pc))))
 (e_niP.tc (k := 421) (e_niP.tc (k := 420) (fun _ pc => e_niP.of (te_420_ok pc))
 (fun _ pc => e_niP.of (te_421_ok pc)))
 (e_niP.tc (k := 422) (fun _ pc => e_niP.of (te_422_ok pc))
 (fun _ pc => e_niP.of (te_423_ok pc)))))))
 (e_niP.tc (k := 437) (e_niP.tc (k := 430) (e_niP.tc (k := 426) (e_niP.tc (k := 424) (fun _ pc => e_niP.of (te_424_ok pc))
 (e_niP.tc (k := 425) (fun _ pc => e_niP.of (te_425_ok pc))
 (fun _ pc => e_niP.of (te_426_ok pc))))
 (e_niP.tc (k := 428) (e_niP.tc (k := 427) (fun _ pc => e_niP.of (te_427_ok pc))
 (fun _ pc => e_niP.of (te_428_ok pc)))
 (e_niP.tc (k := 429) (fun _ pc => e_niP.of (te_429_ok pc))
 (fun _ pc => e_niP.of (te_430_ok pc)))))
 (e_niP.tc (k := 433) (e_niP.tc (k := 431) (fun _ pc => e_niP.of (te_431_ok pc))
 (e_niP.tc (k := 432) (fun _ pc => e_niP.of (te_432_ok pc))
 (fun _ pc => e_niP.of (te_433_ok pc))))
 (e_niP.tc (k := 435) (e_niP.tc (k := 434) (fun _ pc => e_niP.of (te_434_ok pc))
 (fun _ pc => e_niP.of (te_435_ok pc)))
 (e_niP.tc (k := 436) (fun _ pc => e_niP.of (te_436_ok pc))
 (fun _ pc => e_niP.of (te_437_ok pc))))))
 (e_niP.tc (k := 444) (e_niP.tc (k := 440) (e_niP.tc (k := 438) (fun _ pc => e_niP.of (te_438_ok pc))
 (e_niP.tc (k := 439) (fun _ pc => e_niP.of (te_439_ok pc))
 (fun _ pc => e_niP.of (te_440_ok pc))))
 (e_niP.tc (k := 442) (e_niP.tc (k := 441) (fun _ pc => e_niP.of (te_441_ok pc))
 (fun _ pc => e_niP.of (te_442_ok pc)))
 (e_niP.tc (k := 443) (fun _ pc => e_niP.of (te_443_ok pc))
 (fun _ pc => e_niP.of (te_444_ok pc)))))
 (e_niP.tc (k := 448) (e_niP.tc (k := 446) (e_niP.tc (k := 445) (fun _ pc => e_niP.of (te_445_ok pc))
 (fun _ pc => e_niP.of (te_446_ok pc)))
 (e_niP.tc (k := 447) (fun _ pc => e_niP.of (te_447_ok pc))
 (fun _ pc => e_niP.of (te_448_ok pc))))
 (e_niP.tc (k := 450) (e_niP.tc (k := 449) (fun _ pc => e_niP.of (te_449_ok pc))
 (fun _ pc => e_niP.of (te_450_ok pc)))
 (e_niP.tc (k := 451) (fun _ pc => e_niP.of (te_451_ok pc))
 (fun _ pc => e_niP.of (te_452_ok pc)))))))))))
theorem eAlk : e_Alk elay ecode := fun M pc f a b h => e_ni M pc f a b h
end
