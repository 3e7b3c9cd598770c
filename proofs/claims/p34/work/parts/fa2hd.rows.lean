noncomputable section
/-! how many rows the book has behind each call -/
def kbk (w w' : eW) : Prop := w' 0 13 = 0 ∨ (w' 0 13 = 1 ∧ ((w 0 13 = 1 ∧ 0 ≤ w' 0 12 ∧ w' 0 12 ≤ w 0 12 + 1) ∨ w' 0 12 = 0))
theorem kbk.le {w w' : eW} (q : kRel w) (e : w' 0 13 = w 0 13) (h : w' 0 12 = w 0 12 ∨ (0 ≤ w' 0 12 ∧ w' 0 12 ≤ w 0 12 + 1)) : kbk w w' := by
  have h1 := q.2.2.1.1
  have h2 := q.2.2.1.2.1
  unfold kbk
  omega
theorem kbk.eq {w : eW} (q : kRel w) : kbk w w := kbk.le q rfl (Or.inl rfl)
theorem kbk.cl {w w' : eW} (e : w' 0 13 = w 0 13) (h : w 0 13 = 0) : kbk w w' := Or.inl (e.trans h)
def mbk (w w' : eW) : Prop := 0 ≤ w' 275 5 ∧ w' 275 5 ≤ w 275 5 + 1
theorem mRel.rge {w : eW} (h : mRel w) : 0 ≤ w 275 5 := by
  obtain ⟨G, -, hB, -⟩ := h.base
  exact hB.1.1
theorem mbk.of {w w' : eW} (h : mRel w) (e : w' 275 5 = w 275 5) : mbk w w' := by
  have h1 := h.rge
  unfold mbk
  omega
theorem mbk.eq {w : eW} (h : mRel w) : mbk w w := mbk.of h rfl
theorem mbk.z {w w' : eW} (h : mRel w) (e : w' 275 5 = 0) : mbk w w' := by
  have h1 := h.rge
  unfold mbk
  omega
theorem mRel.r0 {w : eW} (h : mRel w) (h3 : w 275 3 = 0) : w 275 5 = 0 := by
  obtain ⟨-, -, q, -⟩ := h
  exact q.2 h3
theorem opS.r1 {w w' : eW} {G : Int → Gh} {x a b c : Int} {s : Int → Int} (h : opS w w' G x a b c s) (h6 : w 275 6 = 0) : w' 275 5 = w 275 5 + 1 := by
  obtain ⟨-, -, wm, m1, -, m3⟩ := h
  rcases m3 with ⟨m3, -⟩ | ⟨-, m3⟩
  · omega
  · exact m3.1
theorem mbk.op {w w' : eW} {G : Int → Gh} {x a b c : Int} {s : Int → Int} {C N : Prop} (h : mRel w) (q : (w = w' ∧ N) ∨ (C ∧ ¬ mBk w ∧ opS w w' G x a b c s ∧ evG w w')) : mbk w w' := by
  have h1 := h.rge
  rcases q with ⟨rfl, -⟩ | ⟨q1, q2, q3, q4⟩
  · exact mbk.eq h
  · have e := q3.r1 h.2.2.1.1
    unfold mbk
    omega
theorem kw_226 {d : Nat} (hd : 460 ≤ d) {w : eW} (q : kRel w) (hAl : kAl w) : e_Ok 20 elay kcode eI d 226 (0, [(0, (1, 0))], [], w) (fun _ w' => kbk w w') := (c_226 (by omega) (q.lk hAl) ).imp (fun r w' h => by obtain ⟨z, h1, rfl⟩ := h; exact kbk.eq q)
theorem kw_227 {d : Nat} (hd : 460 ≤ d) {w : eW} (q : kRel w) (hAl : kAl w) {a : Int} (g_a : (-2147483648 ≤ a ∧ a ≤ 2147483647)) {b : Int} (g_b : (-2147483648 ≤ b ∧ b ≤ 2147483647)) : e_Ok 20 elay kcode eI d 227 (0, [(0, (1, 0)), (1, (0, a)), (2, (0, b))], [], w) (fun _ w' => kbk w w') := (c_227 (by omega) (q.lk hAl) g_a g_b).imp (fun r w' h => by obtain ⟨z, h1, rfl⟩ := h; exact kbk.eq q)
theorem kw_228 {d : Nat} (hd : 460 ≤ d) {w : eW} (q : kRel w) (hAl : kAl w) {a : Int} (g_a : (-2147483648 ≤ a ∧ a ≤ 2147483647)) {b : Int} (g_b : (-2147483648 ≤ b ∧ b ≤ 2147483647)) : e_Ok 20 elay kcode eI d 228 (0, [(0, (1, 0)), (1, (0, a)), (2, (0, b))], [], w) (fun _ w' => kbk w w') := (c_228 (by omega) (q.lk hAl) g_a g_b).imp (fun r w' h => by obtain ⟨z, h1, rfl⟩ := h; exact kbk.eq q)
theorem kw_229 {d : Nat} (hd : 460 ≤ d) {w : eW} (q : kRel w) (hAl : kAl w) {a : Int} (g_a : (-2147483648 ≤ a ∧ a ≤ 2147483647)) {b : Int} (g_b : (-2147483648 ≤ b ∧ b ≤ 2147483647)) {c : Int} (g_c : (-2147483648 ≤ c ∧ c ≤ 2147483647)) : e_Ok 20 elay kcode eI d 229 (0, [(0, (1, 0)), (1, (0, a)), (2, (0, b)), (3, (0, c))], [], w) (fun _ w' => kbk w w') := (c_229 (by omega) (q.lk hAl) g_a g_b g_c).imp (fun r w' h => by obtain ⟨z, h1, rfl⟩ := h; exact kbk.eq q)
theorem kw_230 {d : Nat} (hd : 460 ≤ d) {w : eW} (q : kRel w) (hAl : kAl w) {a : Int} (g_a : (-2147483648 ≤ a ∧ a ≤ 2147483647)) {b : Int} (g_b : (-2147483648 ≤ b ∧ b ≤ 2147483647)) : e_Ok 20 elay kcode eI d 230 (0, [(0, (1, 0)), (1, (0, a)), (2, (0, b))], [], w) (fun _ w' => kbk w w') := (c_230 (by omega) (q.lk hAl) g_a g_b).imp (fun r w' h => by obtain ⟨z, h1, rfl⟩ := h; exact kbk.eq q)
theorem kw_231 {d : Nat} (hd : 460 ≤ d) {w : eW} (q : kRel w) (hAl : kAl w) {a : Int} (g_a : (-2147483648 ≤ a ∧ a ≤ 2147483647)) {b : Int} (g_b : (-2147483648 ≤ b ∧ b ≤ 2147483647)) : e_Ok 20 elay kcode eI d 231 (0, [(0, (1, 0)), (1, (0, a)), (2, (0, b))], [], w) (fun _ w' => kbk w w') := (c_231 (by omega) (q.lk hAl) g_a g_b).imp (fun r w' h => by obtain ⟨z, h1, rfl⟩ := h; exact kbk.eq q)
theorem kw_232 {d : Nat} (hd : 460 ≤ d) {w : eW} (q : kRel w) (hAl : kAl w) {a : Int} (g_a : (-2147483648 ≤ a ∧ a ≤ 2147483647)) {b : Int} (g_b : (-2147483648 ≤ b ∧ b ≤ 2147483647)) : e_Ok 20 elay kcode eI d 232 (0, [(0, (1, 0)), (1, (0, a)), (2, (0, b))], [], w) (fun _ w' => kbk w w') := (c_232 (by omega) (q.lk hAl) g_a g_b).imp (fun r w' h => by obtain ⟨z, h1, rfl⟩ := h; exact kbk.eq q)
theorem kw_233 {d : Nat} (hd : 460 ≤ d) {w : eW} (q : kRel w) (hAl : kAl w) {a : Int} (g_a : (-2147483648 ≤ a ∧ a ≤ 2147483647)) {b : Int} (g_b : (-2147483648 ≤ b ∧ b ≤ 2147483647)) : e_Ok 20 elay kcode eI d 233 (0, [(0, (1, 0)), (1, (0, a)), (2, (0, b))], [], w) (fun _ w' => kbk w w') := (c_233 (by omega) (q.lk hAl) g_a g_b).imp (fun r w' h => by obtain ⟨z, h1, rfl⟩ := h; exact kbk.eq q)
theorem kw_234 {d : Nat} (hd : 460 ≤ d) {w : eW} (q : kRel w) (hAl : kAl w) {a : Int} (g_a : (-2147483648 ≤ a ∧ a ≤ 2147483647)) : e_Ok 20 elay kcode eI d 234 (0, [(0, (1, 0)), (1, (0, a))], [], w) (fun _ w' => kbk w w') := (c_234 (by omega) (q.lk hAl) g_a).imp (fun r w' h => by obtain ⟨z, h1, rfl⟩ := h; exact kbk.eq q)
theorem kw_235 {d : Nat} (hd : 460 ≤ d) {w : eW} (q : kRel w) (hAl : kAl w) {a : Int} (g_a : (-2147483648 ≤ a ∧ a ≤ 2147483647)) {b : Int} (g_b : (-2147483648 ≤ b ∧ b ≤ 2147483647)) : e_Ok 20 elay kcode eI d 235 (0, [(0, (1, 0)), (1, (0, a)), (2, (0, b))], [], w) (fun _ w' => kbk w w') := (c_235 (by omega) (q.lk hAl) g_a g_b).imp (fun r w' h => by obtain ⟨z, h1, rfl⟩ := h; exact kbk.eq q)
theorem kw_236 {d : Nat} (hd : 460 ≤ d) {w : eW} (q : kRel w) (hAl : kAl w) {a : Int} (g_a : (-2147483648 ≤ a ∧ a ≤ 2147483647)) : e_Ok 20 elay kcode eI d 236 (0, [(0, (1, 0)), (1, (0, a))], [], w) (fun _ w' => kbk w w') := (c_236 (by omega) (q.lk hAl) g_a).imp (fun r w' h => by obtain ⟨z, h1, rfl⟩ := h; exact kbk.eq q)
theorem kw_237 {d : Nat} (hd : 460 ≤ d) {w : eW} (q : kRel w) (hAl : kAl w) : e_Ok 20 elay kcode eI d 237 (0, [(0, (1, 0))], [], w) (fun _ w' => kbk w w') := (c_237 (by omega) (q.lk hAl) ).imp (fun r w' h => by obtain ⟨z, h1, rfl⟩ := h; exact kbk.eq q)
theorem kw_238 {d : Nat} (hd : 460 ≤ d) {w : eW} (q : kRel w) (hAl : kAl w) {a : Int} (g_a : (-2147483648 ≤ a ∧ a ≤ 2147483647)) {b : Int} (g_b : (-2147483648 ≤ b ∧ b ≤ 2147483647)) : e_Ok 20 elay kcode eI d 238 (0, [(0, (1, 0)), (1, (0, a)), (2, (0, b))], [], w) (fun _ w' => kbk w w') := (c_238 (by omega) (q.lk hAl) g_a g_b).imp (fun r w' h => by obtain ⟨z, h1, rfl⟩ := h; exact kbk.eq q)
theorem kw_240 {d : Nat} (hd : 460 ≤ d) {w : eW} (q : kRel w) (hAl : kAl w) {a : Int} (g_a : (-2147483648 ≤ a ∧ a ≤ 2147483647)) : e_Ok 20 elay kcode eI d 240 (0, [(0, (1, 0)), (1, (0, a))], [], w) (fun _ w' => kbk w w') := (c_240 (by omega) (q.lk hAl) g_a).imp (fun r w' h => by obtain ⟨z, h1, rfl⟩ := h; exact kbk.eq q)
theorem kw_241 {d : Nat} (hd : 460 ≤ d) {w : eW} (q : kRel w) (hAl : kAl w) {a : Int} (g_a : (-2147483648 ≤ a ∧ a ≤ 2147483647)) : e_Ok 20 elay kcode eI d 241 (0, [(0, (1, 0)), (1, (0, a))], [], w) (fun _ w' => kbk w w') := (c_241 (by omega) (q.lk hAl) g_a).imp (fun r w' h => by obtain ⟨z, h1, rfl⟩ := h; exact kbk.eq q)
theorem kw_211 {d : Nat} (hd : 460 ≤ d) {w : eW} (q : kRel w) (hAl : kAl w) {a : Int} (g_a : (-2147483648 ≤ a ∧ a ≤ 2147483647)) : e_Ok 20 elay kcode eI d 211 (0, [(0, (1, 0)), (1, (0, a))], [], w) (fun _ w' => kbk w w') := (c_211 (by omega) (q.lk hAl) g_a).imp (fun r w' h => by obtain ⟨z, h1, rfl⟩ := h; exact kbk.eq q)
theorem kw_239 {d : Nat} (hd : 460 ≤ d) {w : eW} (q : kRel w) (hAl : kAl w) {a : Int} (g_a : (-2147483648 ≤ a ∧ a ≤ 2147483647)) {b : Int} (g_b : (-2147483648 ≤ b ∧ b ≤ 2147483647)) : e_Ok 20 elay kcode eI d 239 (0, [(0, (1, 0)), (1, (0, a)), (2, (0, b))], [], w) (fun _ w' => kbk w w') := (c_239 (by omega) (q.lk hAl) g_a g_b).imp (fun r w' h => by
  obtain ⟨z, h1, f, hT⟩ := h
  have e := f 0 12 (by unfold kTc; omega)
  exact kbk.le q (f 0 13 (by unfold kTc; omega)) (Or.inl e))
theorem kw_213 {d : Nat} (hd : 460 ≤ d) {w : eW} (q : kRel w) (hAl : kAl w) {a : Int} (g_a : (-2147483648 ≤ a ∧ a ≤ 2147483647)) {b : Int} (g_b : (-2147483648 ≤ b ∧ b ≤ 2147483647)) : e_Ok 20 elay kcode eI d 213 (0, [(0, (1, 0)), (1, (0, a)), (2, (0, b))], [], w) (fun _ w' => kbk w w') := (e_Ok.both (k_213 hd q hAl g_a g_b) (c_213_r (by omega) q.1 q.2.2.1.1 q.hC q.2.2.2.2.2 g_a g_b)).imp (fun r w' h => by
  obtain ⟨⟨z, -, -, e⟩, z', -, f⟩ := h
  exact kbk.le q e.1 f)
theorem kw_215 {d : Nat} (hd : 460 ≤ d) {w : eW} (q : kRel w) (hAl : kAl w) {a : Int} (g_a : (-2147483648 ≤ a ∧ a ≤ 2147483647)) {b : Int} (g_b : (-2147483648 ≤ b ∧ b ≤ 2147483647)) : e_Ok 20 elay kcode eI d 215 (0, [(0, (1, 0)), (1, (0, a)), (2, (0, b))], [], w) (fun _ w' => kbk w w') := (e_Ok.both (k_215 hd q hAl g_a g_b) (c_215_r (by omega) q.1 q.2.2.1.1 q.hC q.2.2.2.2.2 g_a g_b)).imp (fun r w' h => by
  obtain ⟨⟨z, -, -, e⟩, z', -, f⟩ := h
  exact kbk.le q e.1 f)
theorem kw_216 {d : Nat} (hd : 460 ≤ d) {w : eW} (q : kRel w) (hAl : kAl w) {a : Int} (g_a : (-2147483648 ≤ a ∧ a ≤ 2147483647)) {b : Int} (g_b : (-2147483648 ≤ b ∧ b ≤ 2147483647)) {c : Int} (g_c : (0 ≤ c ∧ c ≤ 1)) : e_Ok 20 elay kcode eI d 216 (0, [(0, (1, 0)), (1, (0, a)), (2, (0, b)), (3, (0, c))], [], w) (fun _ w' => kbk w w') := (e_Ok.both (k_216 hd q hAl g_a g_b g_c) (c_216_r (by omega) q.1 q.2.2.1.1 q.hC q.2.2.2.2.2 g_a g_b g_c)).imp (fun r w' h => by
  obtain ⟨⟨z, -, -, e⟩, z', -, f⟩ := h
  exact kbk.le q e.1 f)
theorem kw_217 {d : Nat} (hd : 460 ≤ d) {w : eW} (q : kRel w) (hAl : kAl w) {a : Int} (g_a : (-2147483648 ≤ a ∧ a ≤ 2147483647)) {b : Int} (g_b : (0 ≤ b ∧ b ≤ 1)) {c : Int} (g_c : (0 ≤ c ∧ c ≤ 1)) : e_Ok 20 elay kcode eI d 217 (0, [(0, (1, 0)), (1, (0, a)), (2, (0, b)), (3, (0, c))], [], w) (fun _ w' => kbk w w') := (e_Ok.both (k_217 hd q hAl g_a g_b g_c) (c_217_r (by omega) q.1 q.2.2.1.1 q.hC q.2.2.2.2.2 g_a g_b g_c)).imp (fun r w' h => by
  obtain ⟨⟨z, -, -, e⟩, z', -, f⟩ := h
  exact kbk.le q e.1 f.1)
theorem kw_218 {d : Nat} (hd : 460 ≤ d) {w : eW} (q : kRel w) (hAl : kAl w) {a : Int} (g_a : (-2147483648 ≤ a ∧ a ≤ 2147483647)) : e_Ok 20 elay kcode eI d 218 (0, [(0, (1, 0)), (1, (0, a))], [], w) (fun _ w' => kbk w w') := (e_Ok.both (k_218 hd q hAl g_a) (c_218_r (by omega) q.1 q.2.2.1.1 q.hC q.2.2.2.2.2 g_a)).imp (fun r w' h => by
  obtain ⟨⟨z, -, -, e⟩, z', -, f⟩ := h
  exact kbk.le q e.1 f)
theorem kw_219 {d : Nat} (hd : 460 ≤ d) {w : eW} (q : kRel w) (hAl : kAl w) {a : Int} (g_a : (-2147483648 ≤ a ∧ a ≤ 2147483647)) : e_Ok 20 elay kcode eI d 219 (0, [(0, (1, 0)), (1, (0, a))], [], w) (fun _ w' => kbk w w') := (e_Ok.both (k_219 hd q hAl g_a) (c_219_r (by omega) q.1 q.2.2.1.1 q.hC q.2.2.2.2.2 g_a)).imp (fun r w' h => by
  obtain ⟨⟨z, -, -, e⟩, z', -, f⟩ := h
  exact kbk.le q e.1 f)
theorem kw_220 {d : Nat} (hd : 460 ≤ d) {w : eW} (q : kRel w) (hAl : kAl w) {a : Int} (g_a : (-2147483648 ≤ a ∧ a ≤ 2147483647)) : e_Ok 20 elay kcode eI d 220 (0, [(0, (1, 0)), (1, (0, a))], [], w) (fun _ w' => kbk w w') := (e_Ok.both (k_220 hd q hAl g_a) (c_220_r (by omega) q.1 q.2.2.1.1 q.hC q.2.2.2.2.2 g_a)).imp (fun r w' h => by
  obtain ⟨⟨z, -, -, e⟩, z', -, f⟩ := h
  exact kbk.le q e.1 f)
theorem kw_221 {d : Nat} (hd : 460 ≤ d) {w : eW} (q : kRel w) (hAl : kAl w) {a : Int} (g_a : (-2147483648 ≤ a ∧ a ≤ 2147483647)) {b : Int} (g_b : (-2147483648 ≤ b ∧ b ≤ 2147483647)) {c : Int} (g_c : (-2147483648 ≤ c ∧ c ≤ 2147483647)) : e_Ok 20 elay kcode eI d 221 (0, [(0, (1, 0)), (1, (0, a)), (2, (0, b)), (3, (0, c))], [], w) (fun _ w' => kbk w w') := (e_Ok.both (k_221 hd q hAl g_a g_b g_c) (c_221_r (by omega) q.1 q.2.2.1.1 q.hC q.2.2.2.2.2 g_a g_b g_c)).imp (fun r w' h => by
  obtain ⟨⟨z, -, -, e⟩, z', -, f⟩ := h
  exact kbk.le q e.1 f)
theorem kw_222 {d : Nat} (hd : 460 ≤ d) {w : eW} (q : kRel w) (hAl : kAl w) {a : Int} (g_a : (-2147483648 ≤ a ∧ a ≤ 2147483647)) {b : Int} (g_b : (-2147483648 ≤ b ∧ b ≤ 2147483647)) : e_Ok 20 elay kcode eI d 222 (0, [(0, (1, 0)), (1, (0, a)), (2, (0, b))], [], w) (fun _ w' => kbk w w') := (e_Ok.both (k_222 hd q hAl g_a g_b) (c_222_r (by omega) q.1 q.2.2.1.1 q.hC q.2.2.2.2.2 g_a g_b)).imp (fun r w' h => by
  obtain ⟨⟨z, -, -, e⟩, z', -, f⟩ := h
  exact kbk.le q e.1 f.1)
theorem kw_224 {d : Nat} (hd : 460 ≤ d) {w : eW} (q : kRel w) (hAl : kAl w) {a : Int} (g_a : (-2147483648 ≤ a ∧ a ≤ 2147483647)) : e_Ok 20 elay kcode eI d 224 (0, [(0, (1, 0)), (1, (0, a))], [], w) (fun _ w' => kbk w w') := (e_Ok.both (k_224 hd q hAl g_a) (c_224_r (by omega) q.1 q.2.2.1.1 q.hC q.2.2.2.2.2 g_a)).imp (fun r w' h => by
  obtain ⟨⟨z, -, -, e⟩, z', -, f⟩ := h
  exact kbk.le q e.1 f)
theorem kw_214 {d : Nat} (hd : 460 ≤ d) {w : eW} (q : kRel w) (hAl : kAl w) {n : Int} (g_n : (-2147483648 ≤ n ∧ n ≤ 2147483647)) : e_Ok 20 elay kcode eI d 214 (0, [(0, (1, 0)), (1, (0, n))], [], w) (fun _ w' => kbk w w') := (e_Ok.both (k_214 hd q hAl g_n) (c_214_r (by omega) q.1 q.2.2.1.1 q.hC q.2.2.2.2.2 g_n q.2.2.1.2.1)).imp (fun r w' h => by
  obtain ⟨⟨z, -, -, e⟩, z', -, f⟩ := h
  exact kbk.le q e.1 f)
theorem kw_225 {d : Nat} (hd : 460 ≤ d) {w : eW} (q : kRel w) (hAl : kAl w) {n : Int} (g_n : (-2147483648 ≤ n ∧ n ≤ 2147483647)) : e_Ok 20 elay kcode eI d 225 (0, [(0, (1, 0)), (1, (0, n))], [], w) (fun _ w' => kbk w w') := (e_Ok.both (k_225 hd q hAl g_n) (c_225_r (by omega) q.1 q.2.2.1.1 q.hC q.2.2.2.2.2 g_n q.2.2.1.2.1)).imp (fun r w' h => by
  obtain ⟨⟨z, -, -, e⟩, z', -, f⟩ := h
  exact kbk.le q e.1 f)
theorem kw_223 {d : Nat} (hd : 460 ≤ d) {w : eW} (q : kRel w) (hAl : kAl w) {a : Int} (g_a : (-2147483648 ≤ a ∧ a ≤ 2147483647)) {n : Int} (g_n : (-2147483648 ≤ n ∧ n ≤ 2147483647)) {e : Int} (g_e : (-2147483648 ≤ e ∧ e ≤ 2147483647)) : e_Ok 20 elay kcode eI d 223 (0, [(0, (1, 0)), (1, (0, a)), (2, (0, n)), (3, (0, e))], [], w) (fun _ w' => kbk w w') := (e_Ok.both (k_223 hd q hAl g_a g_n g_e) (c_223_r (by omega) q.1 q.2.2.1.1 q.hC q.2.2.2.2.2 g_a g_n g_e rfl rfl q.p62)).imp (fun r w' h => by
  obtain ⟨⟨z, -, -, e⟩, z', -, f⟩ := h
  exact kbk.le q e.1 f)
theorem kw_197 {d : Nat} (hd : 460 ≤ d) {w : eW} (q : kRel w) (hAl : kAl w) {a : Int} (g_a : (-2147483648 ≤ a ∧ a ≤ 2147483647)) {b : Int} (g_b : (-2147483648 ≤ b ∧ b ≤ 2147483647)) {c : Int} (g_c : (-2147483648 ≤ c ∧ c ≤ 2147483647)) : e_Ok 20 elay kcode eI d 197 (0, [(0, (1, 0)), (1, (0, a)), (2, (0, b)), (3, (0, c))], [], w) (fun _ w' => kbk w w') := (e_Ok.both (k_197 hd q hAl g_a g_b g_c) (c_197 (by omega) q.1 q.2.2.1.1 g_a g_b g_c)).imp (fun r w' h => by
  obtain ⟨⟨z, -, -, e⟩, z', -, hT, h2⟩ := h
  rcases h2 with rfl | ⟨h0, h3⟩
  · exact kbk.eq q
  · exact kbk.cl e.1 h0)
theorem kw_198 {d : Nat} (hd : 460 ≤ d) {w : eW} (q : kRel w) (hAl : kAl w) {a : Int} (g_a : (-2147483648 ≤ a ∧ a ≤ 2147483647)) {b : Int} (g_b : (-2147483648 ≤ b ∧ b ≤ 2147483647)) {c : Int} (g_c : (-2147483648 ≤ c ∧ c ≤ 2147483647)) {e : Int} (g_e : (-2147483648 ≤ e ∧ e ≤ 2147483647)) : e_Ok 20 elay kcode eI d 198 (0, [(0, (1, 0)), (1, (0, a)), (2, (0, b)), (3, (0, c)), (4, (0, e))], [], w) (fun _ w' => kbk w w') := (e_Ok.both (k_198 hd q hAl g_a g_b g_c g_e) (c_198 (by omega) q.1 q.2.2.1.1 g_a g_b g_c g_e)).imp (fun r w' h => by
  obtain ⟨⟨z, -, -, e⟩, z', -, hT, h2⟩ := h
  rcases h2 with rfl | ⟨h0, h3⟩
  · exact kbk.eq q
  · exact kbk.cl e.1 h0)
theorem kw_205 {d : Nat} (hd : 460 ≤ d) {w : eW} (q : kRel w) (hAl : kAl w) {a : Int} (g_a : (-2147483648 ≤ a ∧ a ≤ 2147483647)) {b : Int} (g_b : (-2147483648 ≤ b ∧ b ≤ 2147483647)) {c : Int} (g_c : (-2147483648 ≤ c ∧ c ≤ 2147483647)) {e : Int} (g_e : (-2147483648 ≤ e ∧ e ≤ 2147483647)) {g : Int} (g_g : (-2147483648 ≤ g ∧ g ≤ 2147483647)) : e_Ok 20 elay kcode eI d 205 (0, [(0, (1, 0)), (1, (0, a)), (2, (0, b)), (3, (0, c)), (4, (0, e)), (5, (0, g))], [], w) (fun _ w' => kbk w w') := (e_Ok.both (k_205 hd q hAl g_a g_b g_c g_e g_g) (c_205 (by omega) q.1 q.2.2.1.1 g_a g_b g_c g_e g_g)).imp (fun r w' h => by
  obtain ⟨⟨z, -, -, e⟩, z', -, hT, h2⟩ := h
  rcases h2 with rfl | ⟨h0, h3⟩
  · exact kbk.eq q
  · exact kbk.cl e.1 h0)
theorem kw_201 {d : Nat} (hd : 460 ≤ d) {w : eW} (q : kRel w) (hAl : kAl w) {a : Int} (g_a : (-2147483648 ≤ a ∧ a ≤ 2147483647)) {b : Int} (g_b : (-2147483648 ≤ b ∧ b ≤ 2147483647)) : e_Ok 20 elay kcode eI d 201 (0, [(0, (1, 0)), (1, (0, a)), (2, (0, b))], [], w) (fun _ w' => kbk w w') := (e_Ok.both (k_201 hd q hAl g_a g_b) (c_201 (by omega) q.1 q.2.2.1.1 g_a g_b)).imp (fun r w' h => by
  obtain ⟨⟨z, -, -, e⟩, z', -, hT, h2⟩ := h
  rcases h2 with rfl | ⟨h0, h3⟩
  · exact kbk.eq q
  · exact kbk.cl e.1 h0)
theorem kw_202 {d : Nat} (hd : 460 ≤ d) {w : eW} (q : kRel w) (hAl : kAl w) {a : Int} (g_a : (-2147483648 ≤ a ∧ a ≤ 2147483647)) {b : Int} (g_b : (-2147483648 ≤ b ∧ b ≤ 2147483647)) {c : Int} (g_c : (-2147483648 ≤ c ∧ c ≤ 2147483647)) {e : Int} (g_e : (-2147483648 ≤ e ∧ e ≤ 2147483647)) : e_Ok 20 elay kcode eI d 202 (0, [(0, (1, 0)), (1, (0, a)), (2, (0, b)), (3, (0, c)), (4, (0, e))], [], w) (fun _ w' => kbk w w') := (e_Ok.both (k_202 hd q hAl g_a g_b g_c g_e) (c_202 (by omega) q.1 q.2.2.1.1 g_a g_b g_c g_e)).imp (fun r w' h => by
  obtain ⟨⟨z, -, -, e⟩, z', -, hT, h2⟩ := h
  rcases h2 with rfl | ⟨h0, h3⟩
  · exact kbk.eq q
  · exact kbk.cl e.1 h0)
theorem kw_206 {d : Nat} (hd : 460 ≤ d) {w : eW} (q : kRel w) (hAl : kAl w) {a : Int} (g_a : (-2147483648 ≤ a ∧ a ≤ 2147483647)) {b : Int} (g_b : (-2147483648 ≤ b ∧ b ≤ 2147483647)) : e_Ok 20 elay kcode eI d 206 (0, [(0, (1, 0)), (1, (0, a)), (2, (0, b))], [], w) (fun _ w' => kbk w w') := (e_Ok.both (k_206 hd q hAl g_a g_b) (c_206 (by omega) q.1 q.2.2.1.1 g_a g_b)).imp (fun r w' h => by
  obtain ⟨⟨z, -, -, e⟩, z', -, hT, h2⟩ := h
  rcases h2 with rfl | ⟨h0, h3⟩
  · exact kbk.eq q
  · exact kbk.cl e.1 h0)
theorem kw_207 {d : Nat} (hd : 460 ≤ d) {w : eW} (q : kRel w) (hAl : kAl w) {a : Int} (g_a : (-2147483648 ≤ a ∧ a ≤ 2147483647)) : e_Ok 20 elay kcode eI d 207 (0, [(0, (1, 0)), (1, (0, a))], [], w) (fun _ w' => kbk w w') := (e_Ok.both (k_207 hd q hAl g_a) (c_207 (by omega) q.1 q.2.2.1.1 g_a)).imp (fun r w' h => by
  obtain ⟨⟨z, -, -, e⟩, z', -, hT, h2⟩ := h
  rcases h2 with rfl | ⟨h0, h3⟩
  · exact kbk.eq q
  · exact kbk.cl e.1 h0)
theorem kw_208 {d : Nat} (hd : 460 ≤ d) {w : eW} (q : kRel w) (hAl : kAl w) {a : Int} (g_a : (-2147483648 ≤ a ∧ a ≤ 2147483647)) {b : Int} (g_b : (0 ≤ b ∧ b ≤ 1)) : e_Ok 20 elay kcode eI d 208 (0, [(0, (1, 0)), (1, (0, a)), (2, (0, b))], [], w) (fun _ w' => kbk w w') := (e_Ok.both (k_208 hd q hAl g_a g_b) (c_208 (by omega) q.1 q.2.2.1.1 g_a g_b)).imp (fun r w' h => by
  obtain ⟨⟨z, -, -, e⟩, z', -, hT, h2⟩ := h
  rcases h2 with rfl | ⟨h0, h3⟩
  · exact kbk.eq q
  · exact kbk.cl e.1 h0)
theorem kw_196 {d : Nat} (hd : 460 ≤ d) {w : eW} (q : kRel w) (hAl : kAl w) {a : Int} (g_a : (-2147483648 ≤ a ∧ a ≤ 2147483647)) {b : Int} (g_b : (-2147483648 ≤ b ∧ b ≤ 2147483647)) {c : Int} (g_c : (-2147483648 ≤ c ∧ c ≤ 2147483647)) : e_Ok 20 elay kcode eI d 196 (0, [(0, (1, 0)), (1, (0, a)), (2, (0, b)), (3, (0, c))], [], w) (fun _ w' => kbk w w') := (e_Ok.both (k_196 hd q hAl g_a g_b g_c) (c_196_r (by omega) q.1 q.2.2.1.1 g_a g_b g_c)).imp (fun r w' h => by
  obtain ⟨⟨z, -, -, e⟩, z', -, hT, h2⟩ := h
  rcases h2 with rfl | ⟨h0, h3⟩
  · exact kbk.eq q
  · exact kbk.cl e.1 h0)
theorem kw_199 {d : Nat} (hd : 460 ≤ d) {w : eW} (q : kRel w) (hAl : kAl w) {a : Int} (g_a : (-2147483648 ≤ a ∧ a ≤ 2147483647)) {b : Int} (g_b : (-2147483648 ≤ b ∧ b ≤ 2147483647)) {c : Int} (g_c : (-2147483648 ≤ c ∧ c ≤ 2147483647)) : e_Ok 20 elay kcode eI d 199 (0, [(0, (1, 0)), (1, (0, a)), (2, (0, b)), (3, (0, c))], [], w) (fun _ w' => kbk w w') := (e_Ok.both (k_199 hd q hAl g_a g_b g_c) (c_199_r (by omega) q.1 q.2.2.1.1 g_a g_b g_c)).imp (fun r w' h => by
  obtain ⟨⟨z, -, -, e⟩, z', -, hT, h2⟩ := h
  rcases h2 with rfl | ⟨h0, h3⟩
  · exact kbk.eq q
  · exact kbk.cl e.1 h0)
theorem kw_195 {d : Nat} (hd : 460 ≤ d) {w : eW} (q : kRel w) (hAl : kAl w) {a : Int} (g_a : (-2147483648 ≤ a ∧ a ≤ 2147483647)) {b : Int} (g_b : (-2147483648 ≤ b ∧ b ≤ 2147483647)) {c : Int} (g_c : (-2147483648 ≤ c ∧ c ≤ 2147483647)) {e : Int} (g_e : (-2147483648 ≤ e ∧ e ≤ 2147483647)) : e_Ok 20 elay kcode eI d 195 (0, [(0, (1, 0)), (1, (0, a)), (2, (0, b)), (3, (0, c)), (4, (0, e))], [], w) (fun _ w' => kbk w w') := (e_Ok.both (k_195 hd q hAl g_a g_b g_c g_e) (c_195 (by omega) q.1 q.2.2.1.1 g_a g_b g_c g_e)).imp (fun r w' h => by
  obtain ⟨⟨z, -, -, e⟩, z', -, hT, h2⟩ := h
  rcases h2 with rfl | ⟨h0, h3⟩
  · exact kbk.eq q
  · exact kbk.cl e.1 h0)
theorem kw_200 {d : Nat} (hd : 460 ≤ d) {w : eW} (q : kRel w) (hAl : kAl w) {a : Int} (g_a : (-2147483648 ≤ a ∧ a ≤ 2147483647)) {b : Int} (g_b : (-2147483648 ≤ b ∧ b ≤ 2147483647)) {c : Int} (g_c : (-2147483648 ≤ c ∧ c ≤ 2147483647)) {e : Int} (g_e : (-2147483648 ≤ e ∧ e ≤ 2147483647)) {g : Int} (g_g : (-2147483648 ≤ g ∧ g ≤ 2147483647)) : e_Ok 20 elay kcode eI d 200 (0, [(0, (1, 0)), (1, (0, a)), (2, (0, b)), (3, (0, c)), (4, (0, e)), (5, (0, g))], [], w) (fun _ w' => kbk w w') := (e_Ok.both (k_200 hd q hAl g_a g_b g_c g_e g_g) (c_200 (by omega) q.1 q.2.2.1.1 g_a g_b g_c g_e g_g)).imp (fun r w' h => by
  obtain ⟨⟨z, -, -, e⟩, z', -, hT, h2⟩ := h
  rcases h2 with rfl | ⟨h0, h3⟩
  · exact kbk.eq q
  · exact kbk.cl e.1 h0)
theorem kw_194 {d : Nat} (hd : 460 ≤ d) {w : eW} (q : kRel w) (hAl : kAl w) {a : Int} (g_a : (-2147483648 ≤ a ∧ a ≤ 2147483647)) {kd : Int} (g_kd : (-2147483648 ≤ kd ∧ kd ≤ 2147483647)) {lo : Int} (g_lo : (-2147483648 ≤ lo ∧ lo ≤ 2147483647)) {hi : Int} (g_hi : (-2147483648 ≤ hi ∧ hi ≤ 2147483647)) {ln : Int} (g_ln : (-2147483648 ≤ ln ∧ ln ≤ 2147483647)) : e_Ok 20 elay kcode eI d 194 (0, [(0, (1, 0)), (1, (0, a)), (2, (0, kd)), (3, (0, lo)), (4, (0, hi)), (5, (0, ln))], [], w) (fun _ w' => kbk w w') := (e_Ok.both (k_194 hd q hAl g_a g_kd g_lo g_hi g_ln) (c_194 (by omega) q.1 q.2.2.1.1 q.ak g_a g_kd g_lo g_hi g_ln)).imp (fun r w' h => by
  obtain ⟨⟨z, -, -, e⟩, z', -, hT, h2⟩ := h
  rcases h2 with rfl | ⟨h0, h3⟩
  · exact kbk.eq q
  · exact kbk.cl e.1 h0)
theorem kw_203 {d : Nat} (hd : 460 ≤ d) {w : eW} (q : kRel w) (hAl : kAl w) {a : Int} (g_a : (-2147483648 ≤ a ∧ a ≤ 2147483647)) {b : Int} (g_b : (-2147483648 ≤ b ∧ b ≤ 2147483647)) {c : Int} (g_c : (-2147483648 ≤ c ∧ c ≤ 2147483647)) : e_Ok 20 elay kcode eI d 203 (0, [(0, (1, 0)), (1, (0, a)), (2, (0, b)), (3, (0, c))], [], w) (fun _ w' => kbk w w') := (e_Ok.both (k_203 hd q hAl g_a g_b g_c) (c_203 (by omega) q.1 q.2.2.1.1 (fun h => (q.2.2.2.2.1 h).2.2.2.1.2) g_a g_b g_c)).imp (fun r w' h => by
  obtain ⟨⟨z, -, -, e⟩, z', -, hT, h2⟩ := h
  rcases h2 with rfl | ⟨h0, h3⟩
  · exact kbk.eq q
  · exact kbk.cl e.1 h0)
theorem kw_204 {d : Nat} (hd : 460 ≤ d) {w : eW} (q : kRel w) (hAl : kAl w) {a : Int} (g_a : (-2147483648 ≤ a ∧ a ≤ 2147483647)) {b : Int} (g_b : (-2147483648 ≤ b ∧ b ≤ 2147483647)) {c : Int} (g_c : (-2147483648 ≤ c ∧ c ≤ 2147483647)) : e_Ok 20 elay kcode eI d 204 (0, [(0, (1, 0)), (1, (0, a)), (2, (0, b)), (3, (0, c))], [], w) (fun _ w' => kbk w w') := (e_Ok.both (k_204 hd q hAl g_a g_b g_c) (c_204 (by omega) q.1 q.2.2.1.1 (fun h => (q.2.2.2.2.1 h).2.2.2.1.2) g_a g_b g_c)).imp (fun r w' h => by
  obtain ⟨⟨z, -, -, e⟩, z', -, hT, h2⟩ := h
  rcases h2 with rfl | ⟨h0, h3⟩
  · exact kbk.eq q
  · exact kbk.cl e.1 h0)
theorem kw_209 {d : Nat} (hd : 460 ≤ d) {w : eW} (q : kRel w) (hAl : kAl w) {a : Int} (g_a : (-2147483648 ≤ a ∧ a ≤ 2147483647)) {b : Int} (g_b : (-2147483648 ≤ b ∧ b ≤ 2147483647)) {c : Int} (g_c : (0 ≤ c ∧ c ≤ 1)) : e_Ok 20 elay kcode eI d 209 (0, [(0, (1, 0)), (1, (0, a)), (2, (0, b)), (3, (0, c))], [], w) (fun _ w' => kbk w w') := (e_Ok.both (k_209 hd q hAl g_a g_b g_c) (c_209 (by omega) q.1 q.2.2.1.1 (fun h => (q.2.2.2.2.1 h).2.2.1.2.2) g_a g_b g_c)).imp (fun r w' h => by
  obtain ⟨⟨z, -, -, e⟩, z', -, hT, h2⟩ := h
  rcases h2 with rfl | ⟨h0, h3⟩
  · exact kbk.eq q
  · exact kbk.cl e.1 h0)
theorem kw_193 {d : Nat} (hd : 460 ≤ d) {w : eW} (q : kRel w) (hAl : kAl w) {x : Int} (g_x : (-2147483648 ≤ x ∧ x ≤ 2147483647)) {y : Int} (g_y : (-2147483648 ≤ y ∧ y ≤ 2147483647)) {u : Int} (g_u : (-2147483648 ≤ u ∧ u ≤ 2147483647)) {v : Int} (g_v : (-2147483648 ≤ v ∧ v ≤ 2147483647)) : e_Ok 20 elay kcode eI d 193 (0, [(0, (1, 0)), (1, (0, x)), (2, (0, y)), (3, (0, u)), (4, (0, v))], [], w) (fun _ w' => kbk w w') := by
  have hw0 := e_Has.get q.1 (c := 0) (k := 11) (lo := 0) (hi := 4) rfl (by decide)
  by_cases hn : w 0 11 ≤ 3
  · refine (e_Ok.both (k_193 hd q hAl g_x g_y g_u g_v) (c_193 (by omega) (n := w 0 11) (cd := w (17 * w 0 11 + 86) 7) q.1 q.2.2.1.1 rfl hn rfl (q.hC _ hw0.1 hn) g_x g_y g_u g_v)).imp (fun r w' h => ?_)
    obtain ⟨⟨z, -, -, e⟩, z', h1, hT, h2⟩ := h
    rcases h2 with ⟨rfl, h2⟩ | ⟨h0, -⟩
    · exact kbk.eq q
    · have h13 : w 0 13 = 0 := by omega
      refine kbk.cl ?_ h13
      rcases e with ⟨e, -⟩ | ⟨-, e, -⟩
      · exact e.1
      · exact e
  · refine (c_193_4 (by omega) q.1 q.2.2.1.1 (by omega) g_x g_y g_u g_v).imp (fun r w' h => ?_)
    obtain ⟨z, h1, rfl⟩ := h
    exact kbk.eq q
theorem kw_210 {d : Nat} (hd : 460 ≤ d) {w : eW} (q : kRel w) (hAl : kAl w) {a : Int} (g_a : (-2147483648 ≤ a ∧ a ≤ 2147483647)) : e_Ok 20 elay kcode eI d 210 (0, [(0, (1, 0)), (1, (0, a))], [], w) (fun _ w' => kbk w w') := (e_Ok.both (k_210 hd q hAl g_a) (c_210 (by omega) q.1 q.2.1 q.2.2.1.1 rfl q.2.2.2.1.1 g_a q.hC)).imp (fun r w' h => by
  obtain ⟨⟨z, -, -, e⟩, z', -, h2⟩ := h
  rcases h2 with ⟨rfl, -⟩ | ⟨h0, -⟩
  · exact kbk.eq q
  · refine kbk.cl ?_ h0.1
    rcases e with ⟨e, -⟩ | ⟨-, e, -⟩
    · exact e.1
    · exact e)
theorem kw_212 {d : Nat} (hd : 460 ≤ d) {w : eW} (q : kRel w) (hAl : kAl w) : e_Ok 20 elay kcode eI d 212 (0, [(0, (1, 0))], [], w) (fun _ w' => kbk w w') := by
  obtain ⟨OP, OD, CL, hc⟩ : ∃ OP OD CL : Int → Int → Int, w 0 13 = 0 → cfI w OP OD CL := by
    by_cases g : w 0 13 = 0
    · obtain ⟨OP, OD, CL, h⟩ := (q.2.2.2.2.1 g).cf
      exact ⟨OP, OD, CL, fun _ => h⟩
    · exact ⟨fun _ _ => 0, fun _ _ => 0, fun _ _ => 0, fun h => absurd h g⟩
  refine (e_Ok.both (c_212 (by omega) q.1 q.2.2.1.1 hc hAl q.p62) (c_212_r (by omega) q.1 q.2.2.1.1 hc hAl q.p62)).imp (fun r w' h => ?_)
  obtain ⟨⟨z, h1, hT, ⟨h0, rfl⟩ | ⟨h0, -, h13, -⟩⟩, z', -, f⟩ := h
  · exact kbk.eq q
  · exact Or.inr ⟨h13, Or.inr (f h0)⟩
theorem kw_192 {d : Nat} (hd : 460 ≤ d) {w : eW} (q : kRel w) (hAl : kAl w) : e_Ok 20 elay kcode eI d 192 (0, [(0, (1, 0))], [], w) (fun _ w' => kbk w w') := (k_192 hd q hAl).imp (fun r w' h => by
  obtain ⟨z, -, -, e⟩ := h
  exact Or.inl e.1)
theorem kw_190 {d : Nat} (hd : 460 ≤ d) {w : eW} (q : kRel w) (hAl : kAl w) {a : Int} (g_a : (-2147483648 ≤ a ∧ a ≤ 2147483647)) {b : Int} (g_b : (-2147483648 ≤ b ∧ b ≤ 2147483647)) {c : Int} (g_c : (-2147483648 ≤ c ∧ c ≤ 2147483647)) {e : Int} (g_e : (-2147483648 ≤ e ∧ e ≤ 2147483647)) {g : Int} (g_g : (-2147483648 ≤ g ∧ g ≤ 2147483647)) : e_Ok 20 elay kcode eI d 190 (0, [(0, (1, 0)), (1, (0, a)), (2, (0, b)), (3, (0, c)), (4, (0, e)), (5, (0, g))], [], w) (fun _ w' => kbk w w') := by
  have hl := e_Has.get q.2.1 (c := 1) (k := 0) (lo := 0) (hi := 4000) rfl (by decide)
  refine (c_190 (by omega) q.1 g_a g_b g_c g_e g_g rfl hl).imp (fun r w' h => ?_)
  obtain ⟨z, h1, f, hT, h2⟩ := h
  have e := f 0 12 (by unfold kTp; omega)
  exact kbk.le q (f 0 13 (by unfold kTp; omega)) (Or.inl e)
theorem kw_191 {d : Nat} (hd : 460 ≤ d) {w : eW} (q : kRel w) (hAl : kAl w) {a : Int} (g_a : (-2147483648 ≤ a ∧ a ≤ 2147483647)) : e_Ok 20 elay kcode eI d 191 (0, [(0, (1, 0)), (1, (0, a))], [], w) (fun _ w' => kbk w w') := by
  have hl := e_Has.get q.2.1 (c := 1) (k := 0) (lo := 0) (hi := 4000) rfl (by decide)
  refine (c_191 (by omega) q.1 g_a rfl hl).imp (fun r w' h => ?_)
  obtain ⟨z, h1, f, hT, h2⟩ := h
  have e := f 0 12 (by unfold kTp; omega)
  exact kbk.le q (f 0 13 (by unfold kTp; omega)) (Or.inl e)
theorem mw_280 {d : Nat} (hd : 24 ≤ d) {w : eW} (h : mRel w) {p1 p2 p3 : Int} (g1 : -2147483648 ≤ p1 ∧ p1 ≤ 2147483647) (g2 : -2147483648 ≤ p2 ∧ p2 ≤ 2147483647) (g3 : -2147483648 ≤ p3 ∧ p3 ≤ 2147483647) : e_Ok 20 elay ecode eI d 280 (0, [(0, (1, 275)), (1, (0, p1)), (2, (0, p2)), (3, (0, p3))], [], w) (fun _ w' => mbk w w') := (e_Ok.both (m_280 hd h g1 g2 g3) (c_280_b hd h.1 g1 g2 g3)).imp (fun r w' q => by
  obtain ⟨⟨z, -, hR, e⟩, z', hr, q⟩ := q
  rcases q with rfl | ⟨q1, -⟩
  · exact mbk.eq h
  · have e3 : w' 275 3 = w 275 3 := e.1
    have h0 : w' 275 5 = 0 := mRel.r0 hR (by omega)
    exact mbk.z h h0)
theorem mw_281 {d : Nat} (hd : 24 ≤ d) {w : eW} (h : mRel w) {p1 p2 p3 p4 : Int} (g1 : -2147483648 ≤ p1 ∧ p1 ≤ 2147483647) (g2 : -2147483648 ≤ p2 ∧ p2 ≤ 2147483647) (g3 : -2147483648 ≤ p3 ∧ p3 ≤ 2147483647) (g4 : -2147483648 ≤ p4 ∧ p4 ≤ 2147483647) : e_Ok 20 elay ecode eI d 281 (0, [(0, (1, 275)), (1, (0, p1)), (2, (0, p2)), (3, (0, p3)), (4, (0, p4))], [], w) (fun _ w' => mbk w w') := (e_Ok.both (m_281 hd h g1 g2 g3 g4) (c_281_b hd h.1 g1 g2 g3 g4)).imp (fun r w' q => by
  obtain ⟨⟨z, -, hR, e⟩, z', hr, q⟩ := q
  rcases q with rfl | ⟨q1, -⟩
  · exact mbk.eq h
  · have e3 : w' 275 3 = w 275 3 := e.1
    have h0 : w' 275 5 = 0 := mRel.r0 hR (by omega)
    exact mbk.z h h0)
theorem mw_285 {d : Nat} (hd : 24 ≤ d) {w : eW} (h : mRel w) {p1 p2 p3 : Int} (g1 : -2147483648 ≤ p1 ∧ p1 ≤ 2147483647) (g2 : -2147483648 ≤ p2 ∧ p2 ≤ 2147483647) (g3 : -2147483648 ≤ p3 ∧ p3 ≤ 2147483647) : e_Ok 20 elay ecode eI d 285 (0, [(0, (1, 275)), (1, (0, p1)), (2, (0, p2)), (3, (0, p3))], [], w) (fun _ w' => mbk w w') := (e_Ok.both (m_285 hd h g1 g2 g3) (c_285_b hd h.1 g1 g2 g3)).imp (fun r w' q => by
  obtain ⟨⟨z, -, hR, e⟩, z', hr, q⟩ := q
  rcases q with rfl | ⟨q1, -⟩
  · exact mbk.eq h
  · have e3 : w' 275 3 = w 275 3 := e.1
    have h0 : w' 275 5 = 0 := mRel.r0 hR (by omega)
    exact mbk.z h h0)
theorem mw_286 {d : Nat} (hd : 24 ≤ d) {w : eW} (h : mRel w) {p1 p2 p3 p4 p5 : Int} (g1 : -2147483648 ≤ p1 ∧ p1 ≤ 2147483647) (g2 : -2147483648 ≤ p2 ∧ p2 ≤ 2147483647) (g3 : -2147483648 ≤ p3 ∧ p3 ≤ 2147483647) (g4 : -2147483648 ≤ p4 ∧ p4 ≤ 2147483647) (g5 : -2147483648 ≤ p5 ∧ p5 ≤ 2147483647) : e_Ok 20 elay ecode eI d 286 (0, [(0, (1, 275)), (1, (0, p1)), (2, (0, p2)), (3, (0, p3)), (4, (0, p4)), (5, (0, p5))], [], w) (fun _ w' => mbk w w') := (e_Ok.both (m_286 hd h g1 g2 g3 g4 g5) (c_286_b hd h.1 g1 g2 g3 g4 g5)).imp (fun r w' q => by
  obtain ⟨⟨z, -, hR, e⟩, z', hr, q⟩ := q
  rcases q with rfl | ⟨q1, -⟩
  · exact mbk.eq h
  · have e3 : w' 275 3 = w 275 3 := e.1
    have h0 : w' 275 5 = 0 := mRel.r0 hR (by omega)
    exact mbk.z h h0)
theorem mw_287 {d : Nat} (hd : 24 ≤ d) {w : eW} (h : mRel w) {p1 p2 : Int} (g1 : -2147483648 ≤ p1 ∧ p1 ≤ 2147483647) (g2 : -2147483648 ≤ p2 ∧ p2 ≤ 2147483647) : e_Ok 20 elay ecode eI d 287 (0, [(0, (1, 275)), (1, (0, p1)), (2, (0, p2))], [], w) (fun _ w' => mbk w w') := (e_Ok.both (m_287 hd h g1 g2) (c_287_b hd h.1 g1 g2)).imp (fun r w' q => by
  obtain ⟨⟨z, -, hR, e⟩, z', hr, q⟩ := q
  rcases q with rfl | ⟨q1, -⟩
  · exact mbk.eq h
  · have e3 : w' 275 3 = w 275 3 := e.1
    have h0 : w' 275 5 = 0 := mRel.r0 hR (by omega)
    exact mbk.z h h0)
theorem mw_288 {d : Nat} (hd : 24 ≤ d) {w : eW} (h : mRel w) {p1 p2 p3 p4 : Int} (g1 : -2147483648 ≤ p1 ∧ p1 ≤ 2147483647) (g2 : -2147483648 ≤ p2 ∧ p2 ≤ 2147483647) (g3 : -2147483648 ≤ p3 ∧ p3 ≤ 2147483647) (g4 : -2147483648 ≤ p4 ∧ p4 ≤ 2147483647) : e_Ok 20 elay ecode eI d 288 (0, [(0, (1, 275)), (1, (0, p1)), (2, (0, p2)), (3, (0, p3)), (4, (0, p4))], [], w) (fun _ w' => mbk w w') := (e_Ok.both (m_288 hd h g1 g2 g3 g4) (c_288_b hd h.1 g1 g2 g3 g4)).imp (fun r w' q => by
  obtain ⟨⟨z, -, hR, e⟩, z', hr, q⟩ := q
  rcases q with rfl | ⟨q1, -⟩
  · exact mbk.eq h
  · have e3 : w' 275 3 = w 275 3 := e.1
    have h0 : w' 275 5 = 0 := mRel.r0 hR (by omega)
    exact mbk.z h h0)
theorem mw_291 {d : Nat} (hd : 24 ≤ d) {w : eW} (h : mRel w) {p1 p2 p3 p4 p5 : Int} (g1 : -2147483648 ≤ p1 ∧ p1 ≤ 2147483647) (g2 : -2147483648 ≤ p2 ∧ p2 ≤ 2147483647) (g3 : -2147483648 ≤ p3 ∧ p3 ≤ 2147483647) (g4 : -2147483648 ≤ p4 ∧ p4 ≤ 2147483647) (g5 : -2147483648 ≤ p5 ∧ p5 ≤ 2147483647) : e_Ok 20 elay ecode eI d 291 (0, [(0, (1, 275)), (1, (0, p1)), (2, (0, p2)), (3, (0, p3)), (4, (0, p4)), (5, (0, p5))], [], w) (fun _ w' => mbk w w') := (e_Ok.both (m_291 hd h g1 g2 g3 g4 g5) (c_291_b hd h.1 g1 g2 g3 g4 g5)).imp (fun r w' q => by
  obtain ⟨⟨z, -, hR, e⟩, z', hr, q⟩ := q
  rcases q with rfl | ⟨q1, -⟩
  · exact mbk.eq h
  · have e3 : w' 275 3 = w 275 3 := e.1
    have h0 : w' 275 5 = 0 := mRel.r0 hR (by omega)
    exact mbk.z h h0)
theorem mw_292 {d : Nat} (hd : 24 ≤ d) {w : eW} (h : mRel w) {p1 p2 : Int} (g1 : -2147483648 ≤ p1 ∧ p1 ≤ 2147483647) (g2 : -2147483648 ≤ p2 ∧ p2 ≤ 2147483647) : e_Ok 20 elay ecode eI d 292 (0, [(0, (1, 275)), (1, (0, p1)), (2, (0, p2))], [], w) (fun _ w' => mbk w w') := (e_Ok.both (m_292 hd h g1 g2) (c_292_b hd h.1 g1 g2)).imp (fun r w' q => by
  obtain ⟨⟨z, -, hR, e⟩, z', hr, q⟩ := q
  rcases q with rfl | ⟨q1, -⟩
  · exact mbk.eq h
  · have e3 : w' 275 3 = w 275 3 := e.1
    have h0 : w' 275 5 = 0 := mRel.r0 hR (by omega)
    exact mbk.z h h0)
theorem mw_293 {d : Nat} (hd : 24 ≤ d) {w : eW} (h : mRel w) {p1 : Int} (g1 : -2147483648 ≤ p1 ∧ p1 ≤ 2147483647) : e_Ok 20 elay ecode eI d 293 (0, [(0, (1, 275)), (1, (0, p1))], [], w) (fun _ w' => mbk w w') := (e_Ok.both (m_293 hd h g1) (c_293_b hd h.1 g1)).imp (fun r w' q => by
  obtain ⟨⟨z, -, hR, e⟩, z', hr, q⟩ := q
  rcases q with rfl | ⟨q1, -⟩
  · exact mbk.eq h
  · have e3 : w' 275 3 = w 275 3 := e.1
    have h0 : w' 275 5 = 0 := mRel.r0 hR (by omega)
    exact mbk.z h h0)
theorem mw_294 {d : Nat} (hd : 24 ≤ d) {w : eW} (h : mRel w) {p1 p2 : Int} (g1 : -2147483648 ≤ p1 ∧ p1 ≤ 2147483647) (g2 : 0 ≤ p2 ∧ p2 ≤ 1) : e_Ok 20 elay ecode eI d 294 (0, [(0, (1, 275)), (1, (0, p1)), (2, (0, p2))], [], w) (fun _ w' => mbk w w') := (e_Ok.both (m_294 hd h g1 g2) (c_294_b hd h.1 g1 g2)).imp (fun r w' q => by
  obtain ⟨⟨z, -, hR, e⟩, z', hr, q⟩ := q
  rcases q with rfl | ⟨q1, -⟩
  · exact mbk.eq h
  · have e3 : w' 275 3 = w 275 3 := e.1
    have h0 : w' 275 5 = 0 := mRel.r0 hR (by omega)
    exact mbk.z h h0)
theorem mw_283 {d : Nat} (hd : 26 ≤ d) {w : eW} (h : mRel w) {p1 p2 p3 : Int} (g1 : -2147483648 ≤ p1 ∧ p1 ≤ 2147483647) (g2 : -2147483648 ≤ p2 ∧ p2 ≤ 2147483647) (g3 : -2147483648 ≤ p3 ∧ p3 ≤ 2147483647) : e_Ok 20 elay ecode eI d 283 (0, [(0, (1, 275)), (1, (0, p1)), (2, (0, p2)), (3, (0, p3))], [], w) (fun _ w' => mbk w w') := (e_Ok.both (m_283 hd h g1 g2 g3) (c_283_b hd h.1 g1 g2 g3)).imp (fun r w' q => by
  obtain ⟨⟨z, -, hR, e⟩, z', hr, q⟩ := q
  rcases q with rfl | ⟨q1, -⟩
  · exact mbk.eq h
  · have e3 : w' 275 3 = w 275 3 := e.1
    have h0 : w' 275 5 = 0 := mRel.r0 hR (by omega)
    exact mbk.z h h0)
theorem mw_284 {d : Nat} (hd : 26 ≤ d) {w : eW} (h : mRel w) {p1 p2 p3 p4 : Int} (g1 : -2147483648 ≤ p1 ∧ p1 ≤ 2147483647) (g2 : -2147483648 ≤ p2 ∧ p2 ≤ 2147483647) (g3 : -2147483648 ≤ p3 ∧ p3 ≤ 2147483647) (g4 : -2147483648 ≤ p4 ∧ p4 ≤ 2147483647) : e_Ok 20 elay ecode eI d 284 (0, [(0, (1, 275)), (1, (0, p1)), (2, (0, p2)), (3, (0, p3)), (4, (0, p4))], [], w) (fun _ w' => mbk w w') := (e_Ok.both (m_284 hd h g1 g2 g3 g4) (c_284_b hd h.1 g1 g2 g3 g4)).imp (fun r w' q => by
  obtain ⟨⟨z, -, hR, e⟩, z', hr, q⟩ := q
  rcases q with rfl | ⟨q1, -⟩
  · exact mbk.eq h
  · have e3 : w' 275 3 = w 275 3 := e.1
    have h0 : w' 275 5 = 0 := mRel.r0 hR (by omega)
    exact mbk.z h h0)
theorem mw_278 {d : Nat} (hd : 24 ≤ d) {w : eW} (h : mRel w) {p1 p2 p3 p4 : Int} (g1 : -2147483648 ≤ p1 ∧ p1 ≤ 2147483647) (g2 : -2147483648 ≤ p2 ∧ p2 ≤ 2147483647) (g3 : -2147483648 ≤ p3 ∧ p3 ≤ 2147483647) (g4 : -2147483648 ≤ p4 ∧ p4 ≤ 2147483647) : e_Ok 20 elay ecode eI d 278 (0, [(0, (1, 275)), (1, (0, p1)), (2, (0, p2)), (3, (0, p3)), (4, (0, p4))], [], w) (fun _ w' => mbk w w') := (e_Ok.both (m_278 hd h g1 g2 g3 g4) (c_278_b hd h.1 g1 g2 g3 g4)).imp (fun r w' q => by
  obtain ⟨⟨z, -, hR, e⟩, z', hr, q⟩ := q
  rcases q with rfl | ⟨q1, -⟩
  · exact mbk.eq h
  · have e3 : w' 275 3 = w 275 3 := e.1
    have h0 : w' 275 5 = 0 := mRel.r0 hR (by omega)
    exact mbk.z h h0)
theorem mw_357 {d : Nat} (hd : 424 ≤ d) {w : eW} (h : mRel w) {p1 : Int} (g1 : -2147483648 ≤ p1 ∧ p1 ≤ 2147483647) : e_Ok 20 elay ecode eI d 357 (0, [(0, (1, 275)), (1, (0, p1))], [], w) (fun _ w' => mbk w w') := (e_Ok.both (m_357 hd h g1) (c_357 hd h.1 h.2.1 g1)).imp (fun r w' q => by
  obtain ⟨⟨z, -, hR, e⟩, z', hr, q⟩ := q
  rcases q with ⟨rfl, -⟩ | ⟨q1, -⟩
  · exact mbk.eq h
  · have e3 : w' 275 3 = w 275 3 := e.1
    have h0 : w' 275 5 = 0 := mRel.r0 hR (by omega)
    exact mbk.z h h0)
theorem mw_437 {d : Nat} (hd : 23 ≤ d) {w : eW} (h : mRel w) : e_Ok 20 elay ecode eI d 437 (0, [(0, (1, 275))], [], w) (fun _ w' => mbk w w') := (c_437 hd h.1 h.2.1).imp (fun r w' q => by obtain ⟨z, hr, rfl⟩ := q; exact mbk.eq h)
theorem mw_448 {d : Nat} (hd : 23 ≤ d) {w : eW} (h : mRel w) : e_Ok 20 elay ecode eI d 448 (0, [(0, (1, 275))], [], w) (fun _ w' => mbk w w') := (c_448 hd h.1 h.2.1).imp (fun r w' q => by obtain ⟨z, hr, rfl⟩ := q; exact mbk.eq h)
theorem mw_445 {d : Nat} (hd : 23 ≤ d) {w : eW} (h : mRel w) {p1 : Int} (g1 : -2147483648 ≤ p1 ∧ p1 ≤ 2147483647) : e_Ok 20 elay ecode eI d 445 (0, [(0, (1, 275)), (1, (0, p1))], [], w) (fun _ w' => mbk w w') := (c_445 hd h.1 h.2.1 g1).imp (fun r w' q => by obtain ⟨z, hr, rfl⟩ := q; exact mbk.eq h)
theorem mw_439 {d : Nat} (hd : 23 ≤ d) {w : eW} (h : mRel w) {p1 p2 : Int} (g1 : -2147483648 ≤ p1 ∧ p1 ≤ 2147483647) (g2 : -2147483648 ≤ p2 ∧ p2 ≤ 2147483647) : e_Ok 20 elay ecode eI d 439 (0, [(0, (1, 275)), (1, (0, p1)), (2, (0, p2))], [], w) (fun _ w' => mbk w w') := (c_439 hd h.1 h.2.1 g1 g2).imp (fun r w' q => by obtain ⟨z, hr, rfl⟩ := q; exact mbk.eq h)
theorem mw_443 {d : Nat} (hd : 23 ≤ d) {w : eW} (h : mRel w) {p1 p2 : Int} (g1 : -2147483648 ≤ p1 ∧ p1 ≤ 2147483647) (g2 : -2147483648 ≤ p2 ∧ p2 ≤ 2147483647) : e_Ok 20 elay ecode eI d 443 (0, [(0, (1, 275)), (1, (0, p1)), (2, (0, p2))], [], w) (fun _ w' => mbk w w') := (c_443 hd h.1 h.2.1 g1 g2).imp (fun r w' q => by obtain ⟨z, hr, rfl⟩ := q; exact mbk.eq h)
theorem mw_438 {d : Nat} (hd : 23 ≤ d) {w : eW} (h : mRel w) {p1 p2 : Int} (g1 : -2147483648 ≤ p1 ∧ p1 ≤ 2147483647) (g2 : -2147483648 ≤ p2 ∧ p2 ≤ 2147483647) : e_Ok 20 elay ecode eI d 438 (0, [(0, (1, 275)), (1, (0, p1)), (2, (0, p2))], [], w) (fun _ w' => mbk w w') := (c_438 hd h.1 h.2.1 g1 g2).imp (fun r w' q => by obtain ⟨z, hr, rfl⟩ := q; exact mbk.eq h)
theorem mw_441 {d : Nat} (hd : 23 ≤ d) {w : eW} (h : mRel w) {p1 p2 : Int} (g1 : -2147483648 ≤ p1 ∧ p1 ≤ 2147483647) (g2 : -2147483648 ≤ p2 ∧ p2 ≤ 2147483647) : e_Ok 20 elay ecode eI d 441 (0, [(0, (1, 275)), (1, (0, p1)), (2, (0, p2))], [], w) (fun _ w' => mbk w w') := (c_441 hd h.1 h.2.1 g1 g2).imp (fun r w' q => by obtain ⟨z, hr, rfl⟩ := q; exact mbk.eq h)
theorem mw_449 {d : Nat} (hd : 23 ≤ d) {w : eW} (h : mRel w) {p1 p2 : Int} (g1 : -2147483648 ≤ p1 ∧ p1 ≤ 2147483647) (g2 : -2147483648 ≤ p2 ∧ p2 ≤ 2147483647) : e_Ok 20 elay ecode eI d 449 (0, [(0, (1, 275)), (1, (0, p1)), (2, (0, p2))], [], w) (fun _ w' => mbk w w') := (c_449 hd h.1 h.2.1 g1 g2).imp (fun r w' q => by obtain ⟨z, hr, rfl⟩ := q; exact mbk.eq h)
theorem mw_451 {d : Nat} (hd : 23 ≤ d) {w : eW} (h : mRel w) {p1 : Int} (g1 : -2147483648 ≤ p1 ∧ p1 ≤ 2147483647) : e_Ok 20 elay ecode eI d 451 (0, [(0, (1, 275)), (1, (0, p1))], [], w) (fun _ w' => mbk w w') := (c_451 hd h.1 h.2.1 g1).imp (fun r w' q => by obtain ⟨z, hr, rfl⟩ := q; exact mbk.eq h)
theorem mw_442 {d : Nat} (hd : 23 ≤ d) {w : eW} (h : mRel w) {p1 p2 : Int} (g1 : -2147483648 ≤ p1 ∧ p1 ≤ 2147483647) (g2 : -2147483648 ≤ p2 ∧ p2 ≤ 2147483647) : e_Ok 20 elay ecode eI d 442 (0, [(0, (1, 275)), (1, (0, p1)), (2, (0, p2))], [], w) (fun _ w' => mbk w w') := (c_442 hd h.1 h.2.1 g1 g2).imp (fun r w' q => by obtain ⟨z, hr, rfl⟩ := q; exact mbk.eq h)
theorem mw_447 {d : Nat} (hd : 23 ≤ d) {w : eW} (h : mRel w) {p1 : Int} (g1 : -2147483648 ≤ p1 ∧ p1 ≤ 2147483647) : e_Ok 20 elay ecode eI d 447 (0, [(0, (1, 275)), (1, (0, p1))], [], w) (fun _ w' => mbk w w') := (c_447 hd h.1 h.2.1 g1).imp (fun r w' q => by obtain ⟨z, hr, rfl⟩ := q; exact mbk.eq h)
theorem mw_358 {d : Nat} (hd : 23 ≤ d) {w : eW} (h : mRel w) {p1 : Int} (g1 : -2147483648 ≤ p1 ∧ p1 ≤ 2147483647) : e_Ok 20 elay ecode eI d 358 (0, [(0, (1, 275)), (1, (0, p1))], [], w) (fun _ w' => mbk w w') := (c_358 hd h.1 h.2.1 g1).imp (fun r w' q => by obtain ⟨z, hr, rfl⟩ := q; exact mbk.eq h)
theorem mw_450 {d : Nat} (hd : 23 ≤ d) {w : eW} (h : mRel w) {p1 : Int} (g1 : -2147483648 ≤ p1 ∧ p1 ≤ 2147483647) : e_Ok 20 elay ecode eI d 450 (0, [(0, (1, 275)), (1, (0, p1))], [], w) (fun _ w' => mbk w w') := (c_450 hd h.1 h.2.1 g1).imp (fun r w' q => by obtain ⟨z, hr, rfl⟩ := q; exact mbk.eq h)
theorem mw_444 {d : Nat} (hd : 23 ≤ d) {w : eW} (h : mRel w) {p1 p2 : Int} (g1 : -2147483648 ≤ p1 ∧ p1 ≤ 2147483647) (g2 : -2147483648 ≤ p2 ∧ p2 ≤ 2147483647) : e_Ok 20 elay ecode eI d 444 (0, [(0, (1, 275)), (1, (0, p1)), (2, (0, p2))], [], w) (fun _ w' => mbk w w') := (c_444 hd h.1 h.2.1 g1 g2 h.ac).imp (fun r w' q => by obtain ⟨z, hr, q⟩ := q; have e := q 275 5 (by unfold mQ; omega); exact mbk.of h e)
theorem mw_440 {d : Nat} (hd : 24 ≤ d) {w : eW} (h : mRel w) {p1 p2 p3 : Int} (g1 : -2147483648 ≤ p1 ∧ p1 ≤ 2147483647) (g2 : -2147483648 ≤ p2 ∧ p2 ≤ 2147483647) (g3 : -2147483648 ≤ p3 ∧ p3 ≤ 2147483647) : e_Ok 20 elay ecode eI d 440 (0, [(0, (1, 275)), (1, (0, p1)), (2, (0, p2)), (3, (0, p3))], [], w) (fun _ w' => mbk w w') := (c_440 hd h.1 h.2.1 g1 g2 g3).imp (fun r w' q => by obtain ⟨z, hr, q⟩ := q; have e := q 275 5 (by unfold mP; omega); exact mbk.of h e)
theorem mw_318 {d : Nat} (hd : 27 ≤ d) {w : eW} (h : mRel w) {p1 p2 : Int} (g1 : -2147483648 ≤ p1 ∧ p1 ≤ 2147483647) (g2 : -2147483648 ≤ p2 ∧ p2 ≤ 2147483647) : e_Ok 20 elay ecode eI d 318 (0, [(0, (1, 275)), (1, (0, p1)), (2, (0, p2))], [], w) (fun _ w' => mbk w w') := (c_318 hd h.1 h.2.1 g1 g2).imp (fun r w' q => by obtain ⟨z, hr, q⟩ := q; have e := q 275 5 (by unfold mPL; omega); exact mbk.of h e)
theorem mw_446 {d : Nat} (hd : 27 ≤ d) {w : eW} (h : mRel w) {p1 p2 : Int} (g1 : -2147483648 ≤ p1 ∧ p1 ≤ 2147483647) (g2 : -2147483648 ≤ p2 ∧ p2 ≤ 2147483647) : e_Ok 20 elay ecode eI d 446 (0, [(0, (1, 275)), (1, (0, p1)), (2, (0, p2))], [], w) (fun _ w' => mbk w w') := (c_446 hd h.1 h.2.1 g1 g2).imp (fun r w' q => by obtain ⟨z, hr, q⟩ := q; have e := q 275 5 (by unfold mP; omega); exact mbk.of h e)
theorem mw_274 {d : Nat} (hd : 21 ≤ d) {w : eW} (h : mRel w) {a b c e f : Int} : e_Ok 20 elay ecode eI d 274 (0, [(0, (1, 275)), (1, (0, a)), (2, (0, b)), (3, (0, c)), (4, (0, e)), (5, (0, f))], [], w) (fun _ w' => mbk w w') := (c_274 hd h.1 h.2.1).imp (fun r w' q => by obtain ⟨z, hr, q1, q2, q3, q4⟩ := q; have e := q1 275 5 (by unfold mTape; omega); exact mbk.of h e)
theorem mw_276 {d : Nat} (hd : 21 ≤ d) {w : eW} (h : mRel w) {a : Int} : e_Ok 20 elay ecode eI d 276 (0, [(0, (1, 275)), (1, (0, a))], [], w) (fun _ w' => mbk w w') := (c_276 hd h.1 h.2.1).imp (fun r w' q => by obtain ⟨z, hr, q1, q2, q3, q4⟩ := q; have e := q1 275 5 (by unfold mTape; omega); exact mbk.of h e)
theorem mw_277 {d : Nat} (hd : 23 ≤ d) {w : eW} (h : mRel w) : e_Ok 20 elay ecode eI d 277 (0, [(0, (1, 275))], [], w) (fun _ w' => mbk w w') := (m_277 hd h).imp (fun r w' q => by
  obtain ⟨z, hr, hR, e1, e2, e3⟩ := q
  exact mbk.z h (mRel.r0 hR e1))
theorem mw_279 {d : Nat} (hd : 23 ≤ d) {w : eW} (h : mRel w) {p1 p2 p3 p4 p5 : Int} (g1 : -2147483648 ≤ p1 ∧ p1 ≤ 2147483647) (g2 : -2147483648 ≤ p2 ∧ p2 ≤ 2147483647) (g3 : -2147483648 ≤ p3 ∧ p3 ≤ 2147483647) (g4 : -2147483648 ≤ p4 ∧ p4 ≤ 2147483647) (g5 : -2147483648 ≤ p5 ∧ p5 ≤ 2147483647) : e_Ok 20 elay ecode eI d 279 (0, [(0, (1, 275)), (1, (0, p1)), (2, (0, p2)), (3, (0, p3)), (4, (0, p4)), (5, (0, p5))], [], w) (fun _ w' => mbk w w') := (e_Ok.both (m_279 hd h g1 g2 g3 g4 g5) (c_279 hd h.1 g1 g2 g3 g4 g5)).imp (fun r w' q => by
  obtain ⟨⟨z, -, hR, e⟩, z', hr, hT, q⟩ := q
  rcases q with rfl | ⟨q1, q2, q3, -⟩
  · exact mbk.eq h
  · have e3 : w' 275 3 = w 275 3 := e.1
    have h0 : w' 275 5 = 0 := mRel.r0 hR (by omega)
    exact mbk.z h h0)
theorem mw_295 {d : Nat} (hd : 22 ≤ d) {w : eW} (h : mRel w) {p1 p2 p3 : Int} (g1 : -2147483648 ≤ p1 ∧ p1 ≤ 2147483647) (g2 : -2147483648 ≤ p2 ∧ p2 ≤ 2147483647) (g3 : 0 ≤ p3 ∧ p3 ≤ 1) : e_Ok 20 elay ecode eI d 295 (0, [(0, (1, 275)), (1, (0, p1)), (2, (0, p2)), (3, (0, p3))], [], w) (fun _ w' => mbk w w') := (e_Ok.both (m_295 hd h g1 g2 g3) (c_295 hd h.1 h.ac g1 g2 g3)).imp (fun r w' q => by
  obtain ⟨⟨z, -, hR, e⟩, z', hr, hT, q, hA⟩ := q
  rcases q with rfl | ⟨q1, q2⟩
  · exact mbk.eq h
  · have e3 : w' 275 3 = w 275 3 := e.1
    have h0 : w' 275 5 = 0 := mRel.r0 hR (by omega)
    exact mbk.z h h0)
theorem mw_289 {d : Nat} (hd : 24 ≤ d) {w : eW} (h : mRel w) {p1 p2 p3 : Int} (g1 : -2147483648 ≤ p1 ∧ p1 ≤ 2147483647) (g2 : -2147483648 ≤ p2 ∧ p2 ≤ 2147483647) (g3 : -2147483648 ≤ p3 ∧ p3 ≤ 2147483647) : e_Ok 20 elay ecode eI d 289 (0, [(0, (1, 275)), (1, (0, p1)), (2, (0, p2)), (3, (0, p3))], [], w) (fun _ w' => mbk w w') := (e_Ok.both (m_289 hd h g1 g2 g3) (c_289 hd h.1 g1 g2 g3 h.or)).imp (fun r w' q => by
  obtain ⟨⟨z, -, hR, e⟩, z', hr, q⟩ := q
  rcases q with rfl | ⟨q1, -⟩
  · exact mbk.eq h
  · have e3 : w' 275 3 = w 275 3 := e.1
    have h0 : w' 275 5 = 0 := mRel.r0 hR (by omega)
    exact mbk.z h h0)
theorem mw_290 {d : Nat} (hd : 24 ≤ d) {w : eW} (h : mRel w) {p1 p2 p3 : Int} (g1 : -2147483648 ≤ p1 ∧ p1 ≤ 2147483647) (g2 : -2147483648 ≤ p2 ∧ p2 ≤ 2147483647) (g3 : -2147483648 ≤ p3 ∧ p3 ≤ 2147483647) : e_Ok 20 elay ecode eI d 290 (0, [(0, (1, 275)), (1, (0, p1)), (2, (0, p2)), (3, (0, p3))], [], w) (fun _ w' => mbk w w') := (e_Ok.both (m_290 hd h g1 g2 g3) (c_290 hd h.1 g1 g2 g3 h.or)).imp (fun r w' q => by
  obtain ⟨⟨z, -, hR, e⟩, z', hr, q⟩ := q
  rcases q with rfl | ⟨q1, -⟩
  · exact mbk.eq h
  · have e3 : w' 275 3 = w 275 3 := e.1
    have h0 : w' 275 5 = 0 := mRel.r0 hR (by omega)
    exact mbk.z h h0)
theorem mw_296 {d : Nat} (hd : 25 ≤ d) {w : eW} (h : mRel w) : e_Ok 20 elay ecode eI d 296 (0, [(0, (1, 275))], [], w) (fun _ w' => mbk w w') := by
  have hI : ∃ G, mInv w G := by
    rcases h.2.2.2 with ⟨-, G, g⟩ | ⟨-, G, S, g⟩
    · exact ⟨G, g.1.inv⟩
    · exact ⟨G, g.inv⟩
  obtain ⟨G, hG⟩ := hI
  refine (c_296 hd hG).imp (fun r w' q => ?_)
  obtain ⟨z, hr, q⟩ := q
  rcases q with ⟨rfl, q⟩ | ⟨q1, q2, q3, -⟩
  · exact mbk.eq h
  · exact mbk.z h q3
theorem mw_425 {d : Nat} (hd : 27 ≤ d) {w : eW} (h : mRel w) {p1 p2 : Int} (g1 : -2147483648 ≤ p1 ∧ p1 ≤ 2147483647) (g2 : -2147483648 ≤ p2 ∧ p2 ≤ 2147483647) : e_Ok 20 elay ecode eI d 425 (0, [(0, (1, 275)), (1, (0, p1)), (2, (0, p2))], [], w) (fun _ w' => mbk w w') := by
  obtain ⟨G, hI, hB, hE, hb⟩ := h.base
  refine (e_Ok.outN (c_425 hd hI hB hE g1 g2)).imp (fun r w' q => ?_)
  obtain ⟨⟨z, hr, q⟩, ho⟩ := q
  exact mbk.op h q
theorem mw_426 {d : Nat} (hd : 45 ≤ d) {w : eW} (h : mRel w) {p1 : Int} (g1 : -2147483648 ≤ p1 ∧ p1 ≤ 2147483647) : e_Ok 20 elay ecode eI d 426 (0, [(0, (1, 275)), (1, (0, p1))], [], w) (fun _ w' => mbk w w') := by
  obtain ⟨G, hI, hB, hE, hb⟩ := h.base
  refine (e_Ok.outN (c_426 hd hI hB hE g1)).imp (fun r w' q => ?_)
  obtain ⟨⟨z, hr, q⟩, ho⟩ := q
  exact mbk.op h q
theorem mw_427 {d : Nat} (hd : 25 ≤ d) {w : eW} (h : mRel w) {p1 p2 : Int} (g1 : -2147483648 ≤ p1 ∧ p1 ≤ 2147483647) (g2 : -2147483648 ≤ p2 ∧ p2 ≤ 2147483647) : e_Ok 20 elay ecode eI d 427 (0, [(0, (1, 275)), (1, (0, p1)), (2, (0, p2))], [], w) (fun _ w' => mbk w w') := by
  obtain ⟨G, hI, hB, hE, hb⟩ := h.base
  refine (e_Ok.outN (c_427 hd hI hB hE g1 g2)).imp (fun r w' q => ?_)
  obtain ⟨⟨z, hr, q⟩, ho⟩ := q
  exact mbk.op h q
theorem mw_428 {d : Nat} (hd : 27 ≤ d) {w : eW} (h : mRel w) {p1 p2 p3 : Int} (g1 : -2147483648 ≤ p1 ∧ p1 ≤ 2147483647) (g2 : -2147483648 ≤ p2 ∧ p2 ≤ 2147483647) (g3 : -2147483648 ≤ p3 ∧ p3 ≤ 2147483647) (hz3 : 0 ≤ p3 ∧ p3 ≤ 1) : e_Ok 20 elay ecode eI d 428 (0, [(0, (1, 275)), (1, (0, p1)), (2, (0, p2)), (3, (0, p3))], [], w) (fun _ w' => mbk w w') := by
  obtain ⟨G, hI, hB, hE, hb⟩ := h.base
  refine (e_Ok.outN (c_428 hd hI hB hE g1 g2 g3 hz3)).imp (fun r w' q => ?_)
  obtain ⟨⟨z, hr, q⟩, ho⟩ := q
  exact mbk.op h q
theorem mw_429 {d : Nat} (hd : 25 ≤ d) {w : eW} (h : mRel w) {p1 p2 p3 : Int} (g1 : -2147483648 ≤ p1 ∧ p1 ≤ 2147483647) (g2 : -2147483648 ≤ p2 ∧ p2 ≤ 2147483647) (g3 : -2147483648 ≤ p3 ∧ p3 ≤ 2147483647) (hz2 : 0 ≤ p2 ∧ p2 ≤ 1) (hz3 : 0 ≤ p3 ∧ p3 ≤ 1) : e_Ok 20 elay ecode eI d 429 (0, [(0, (1, 275)), (1, (0, p1)), (2, (0, p2)), (3, (0, p3))], [], w) (fun _ w' => mbk w w') := by
  obtain ⟨G, hI, hB, hE, hb⟩ := h.base
  refine (e_Ok.outN (c_429 hd hI hB hE g1 g2 g3 hz2 hz3)).imp (fun r w' q => ?_)
  obtain ⟨⟨z, hr, q⟩, ho⟩ := q
  exact mbk.op h q
theorem mw_430 {d : Nat} (hd : 27 ≤ d) {w : eW} (h : mRel w) {p1 : Int} (g1 : -2147483648 ≤ p1 ∧ p1 ≤ 2147483647) : e_Ok 20 elay ecode eI d 430 (0, [(0, (1, 275)), (1, (0, p1))], [], w) (fun _ w' => mbk w w') := by
  obtain ⟨G, hI, hB, hE, hb⟩ := h.base
  refine (e_Ok.outN (c_430 hd hI hB hE g1)).imp (fun r w' q => ?_)
  obtain ⟨⟨z, hr, q⟩, ho⟩ := q
  exact mbk.op h q
theorem mw_431 {d : Nat} (hd : 27 ≤ d) {w : eW} (h : mRel w) {p1 : Int} (g1 : -2147483648 ≤ p1 ∧ p1 ≤ 2147483647) : e_Ok 20 elay ecode eI d 431 (0, [(0, (1, 275)), (1, (0, p1))], [], w) (fun _ w' => mbk w w') := by
  obtain ⟨G, hI, hB, hE, hb⟩ := h.base
  refine (e_Ok.outN (c_431 hd hI hB hE g1)).imp (fun r w' q => ?_)
  obtain ⟨⟨z, hr, q⟩, ho⟩ := q
  exact mbk.op h q
theorem mw_432 {d : Nat} (hd : 25 ≤ d) {w : eW} (h : mRel w) {p1 : Int} (g1 : -2147483648 ≤ p1 ∧ p1 ≤ 2147483647) : e_Ok 20 elay ecode eI d 432 (0, [(0, (1, 275)), (1, (0, p1))], [], w) (fun _ w' => mbk w w') := by
  obtain ⟨G, hI, hB, hE, hb⟩ := h.base
  refine (e_Ok.outN (c_432 hd hI hB hE g1)).imp (fun r w' q => ?_)
  obtain ⟨⟨z, hr, q⟩, ho⟩ := q
  exact mbk.op h q
theorem mw_433 {d : Nat} (hd : 27 ≤ d) {w : eW} (h : mRel w) {p1 p2 p3 : Int} (g1 : -2147483648 ≤ p1 ∧ p1 ≤ 2147483647) (g2 : -2147483648 ≤ p2 ∧ p2 ≤ 2147483647) (g3 : -2147483648 ≤ p3 ∧ p3 ≤ 2147483647) : e_Ok 20 elay ecode eI d 433 (0, [(0, (1, 275)), (1, (0, p1)), (2, (0, p2)), (3, (0, p3))], [], w) (fun _ w' => mbk w w') := by
  obtain ⟨G, hI, hB, hE, hb⟩ := h.base
  refine (e_Ok.outN (c_433 hd hI hB hE g1 g2 g3)).imp (fun r w' q => ?_)
  obtain ⟨⟨z, hr, q⟩, ho⟩ := q
  exact mbk.op h q
theorem mw_434 {d : Nat} (hd : 25 ≤ d) {w : eW} (h : mRel w) {p1 p2 : Int} (g1 : -2147483648 ≤ p1 ∧ p1 ≤ 2147483647) (g2 : -2147483648 ≤ p2 ∧ p2 ≤ 2147483647) : e_Ok 20 elay ecode eI d 434 (0, [(0, (1, 275)), (1, (0, p1)), (2, (0, p2))], [], w) (fun _ w' => mbk w w') := by
  obtain ⟨G, hI, hB, hE, hb⟩ := h.base
  refine (e_Ok.outN (c_434 hd hI hB hE g1 g2)).imp (fun r w' q => ?_)
  obtain ⟨⟨z, hr, q⟩, ho⟩ := q
  exact mbk.op h q
theorem mw_419 {d : Nat} (hd : 27 ≤ d) {w : eW} (h : mRel w) {p1 : Int} (g1 : -2147483648 ≤ p1 ∧ p1 ≤ 2147483647) : e_Ok 20 elay ecode eI d 419 (0, [(0, (1, 275)), (1, (0, p1))], [], w) (fun _ w' => mbk w w') := by
  obtain ⟨G, hI, hB, hE, hb⟩ := h.base
  refine (e_Ok.outN (c_419 hd hI hB hE g1)).imp (fun r w' q => ?_)
  obtain ⟨⟨z, hr, q⟩, ho⟩ := q
  exact mbk.op h q
theorem mw_418 {d : Nat} (hd : 33 ≤ d) {w : eW} (h : mRel w) {p1 p2 p3 : Int} (g1 : -2147483648 ≤ p1 ∧ p1 ≤ 2147483647) (g2 : -2147483648 ≤ p2 ∧ p2 ≤ 2147483647) (g3 : -2147483648 ≤ p3 ∧ p3 ≤ 2147483647) : e_Ok 20 elay ecode eI d 418 (0, [(0, (1, 275)), (1, (0, p1)), (2, (0, p2)), (3, (0, p3))], [], w) (fun _ w' => mbk w w') := by
  obtain ⟨G, hI, hB, hE, hb⟩ := h.base
  have h118 := e_Has.get h.2.1 (c := 275) (k := 118) (lo := 0) (hi := 60) rfl (by decide)
  refine (c_418 hd hI hB g1 g2 g3 h118 h.2.2.1.1).imp (fun r w' q => ?_)
  obtain ⟨z, hr, q⟩ := q
  rcases q with ⟨q1, q2, q3, q4⟩ | ⟨q1, q2, q3⟩
  · have e := q1 275 5 (by unfold mPm; omega)
    exact mbk.of h e
  · obtain ⟨z', f, wm, z1, z2, z3, z4, z5, hw, z7, z8⟩ := q3
    have e := hw.1
    have h1 := h.rge
    unfold mbk
    omega
theorem mw_436 {d : Nat} (hd : 49 ≤ d) {w : eW} (h : mRel w) {p1 : Int} (g1 : -2147483648 ≤ p1 ∧ p1 ≤ 2147483647) : e_Ok 20 elay ecode eI d 436 (0, [(0, (1, 275)), (1, (0, p1))], [], w) (fun _ w' => mbk w w') := by
  rcases h.2.2.2 with ⟨g0, G, g⟩ | ⟨g0, G, S, g⟩
  · refine (c_436_0 (by omega) h.1 h.2.1 g1 g0).imp (fun r w' q => ?_)
    obtain ⟨z, hr, rfl⟩ := q
    exact mbk.eq h
  · refine (c_436_r hd g g1).imp (fun r w' q => ?_)
    obtain ⟨z, hr, q⟩ := q
    have h1 := h.rge
    unfold mbk
    omega
theorem kz_222 {d : Nat} (hd : 460 ≤ d) {w : eW} (q : kRel w) {a : Int} (g_a : (-2147483648 ≤ a ∧ a ≤ 2147483647)) {b : Int} (g_b : (-2147483648 ≤ b ∧ b ≤ 2147483647)) : e_Ok 20 elay kcode eI d 222 (0, [(0, (1, 0)), (1, (0, a)), (2, (0, b))], [], w) (fun r w' => ∃ z : Int, r = [(0, z)] ∧ ((¬ (0 ≤ a ∧ a ≤ 5) ∧ z = -1) ∨ ((0 ≤ a ∧ a ≤ 5) ∧ ((w 0 13 = 0 ∧ z = -2) ∨ (w 0 13 = 1 ∧ ((2000 ≤ w 0 12 ∧ z = -3) ∨ (w 0 12 < 2000 ∧ z = 0))))))) := (c_222_r (by omega) q.1 q.2.2.1.1 q.hC q.2.2.2.2.2 g_a g_b).imp (fun r w' h => by obtain ⟨z, h1, -, h2⟩ := h; exact ⟨z, h1, h2⟩)
theorem mz_434z {d : Nat} (hd : 25 ≤ d) {w : eW} (h : mRel w) {p1 p2 : Int} (g1 : -2147483648 ≤ p1 ∧ p1 ≤ 2147483647) (g2 : -2147483648 ≤ p2 ∧ p2 ≤ 2147483647) : e_Ok 20 elay ecode eI d 434 (0, [(0, (1, 275)), (1, (0, p1)), (2, (0, p2))], [], w) (fun r w' => ∃ z : Int, r = [(0, z)] ∧ ((¬ (0 ≤ p1 ∧ p1 ≤ 5) ∧ z = -1) ∨ ((0 ≤ p1 ∧ p1 ≤ 5) ∧ ((w 275 3 = 0 ∧ z = -2) ∨ (w 275 3 = 1 ∧ ((mBk w ∧ z = -3) ∨ (¬ mBk w ∧ z = 0))))))) := by
  obtain ⟨G, hI, hB, hE, hb⟩ := h.base
  exact c_434_z hd hI hB hE g1 g2
end
