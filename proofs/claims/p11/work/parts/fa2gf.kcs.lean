noncomputable section
/-! the class: what each call leaves of what was told -/
def kCf (c k : Int) : Prop := (c = 0 ∧ k = 11) ∨ (c = 19 ∧ (k = 0 ∨ k = 1)) ∨ (20 ≤ c ∧ c ≤ 29) ∨ (c = 74 ∧ k = 2) ∨ (c = 76 ∨ c = 77) ∨ (c = 250 ∧ (k = 0 ∨ k = 1)) ∨ (251 ≤ c ∧ c ≤ 261) ∨ ((c = 86 ∨ c = 103 ∨ c = 120 ∨ c = 137) ∧ k = 8) ∨ (c = 92 ∨ c = 109 ∨ c = 126 ∨ c = 143) ∨ (((97 ≤ c ∧ c ≤ 102) ∨ (114 ≤ c ∧ c ≤ 119) ∨ (131 ≤ c ∧ c ≤ 136) ∨ (148 ≤ c ∧ c ≤ 153)) ∧ 0 ≤ k ∧ k ≤ 6) ∨ c = 15 ∨ c = 17
def kcs (w w' : eW) : Prop := ∀ c k, kCf c k → w' c k = w c k
theorem kcs.refl (w : eW) : kcs w w := fun _ _ _ => rfl
theorem cf_nw {c k : Int} (h : kCf c k) : ¬ kNw c k := fun g => by
  unfold kCf at h
  unfold kNw at g
  rcases g with g | g | g | g | g | g | g | g | g | g | g | g | g | g | g | g | g <;> omega
theorem cf_lo {c k : Int} (h : kCf c k) : c ≠ 273 ∧ c ≠ 272 ∧ (c = 0 → k = 11) ∧ ¬ (262 ≤ c ∧ c ≤ 271) ∧ c ≠ 1 ∧ ¬ (2 ≤ c ∧ c ≤ 7) ∧ ((c = 86 ∨ c = 103 ∨ c = 120 ∨ c = 137) → k = 8) := by
  unfold kCf at h
  omega
theorem opK.cs {w w' : eW} (h : opK w w') : kcs w w' := by
  rcases h with rfl | ⟨h1, f, hB⟩
  · exact kcs.refl _
  · refine fun c k q => f c k (fun g => ?_)
    have z := cf_lo q
    rcases g with g | g | g
    · exact cf_nw q g
    · omega
    · omega
theorem opB.cs {w w' : eW} (h : opB w w') : kcs w w' := by
  rcases h with rfl | ⟨h1, f, h14, hB⟩
  · exact kcs.refl _
  · refine fun c k q => f c k (fun g => ?_)
    have z := cf_lo q
    rcases g with g | g
    · exact cf_nw q g
    · omega
theorem opP.cs {w w' : eW} (h : opP w w') : kcs w w' := by
  rcases h with rfl | ⟨h1, f, hB⟩
  · exact kcs.refl _
  · refine fun c k q => f c k (fun g => ?_)
    have z := cf_lo q
    rcases g with (g | g | g) | g
    · exact cf_nw q g
    · omega
    · omega
    · omega
theorem kq_226 {d : Nat} (hd : 460 ≤ d) {w : eW} (q : kRel w) (hAl : kAl w) : e_Ok 20 elay kcode eI d 226 (0, [(0, (1, 0))], [], w) (fun _ w' => kcs w w') := (c_226 (by omega) (q.lk hAl) ).imp (fun r w' h => by obtain ⟨z, h1, rfl⟩ := h; exact kcs.refl _)
theorem kq_227 {d : Nat} (hd : 460 ≤ d) {w : eW} (q : kRel w) (hAl : kAl w) {a : Int} (g_a : (-2147483648 ≤ a ∧ a ≤ 2147483647)) {b : Int} (g_b : (-2147483648 ≤ b ∧ b ≤ 2147483647)) : e_Ok 20 elay kcode eI d 227 (0, [(0, (1, 0)), (1, (0, a)), (2, (0, b))], [], w) (fun _ w' => kcs w w') := (c_227 (by omega) (q.lk hAl) g_a g_b).imp (fun r w' h => by obtain ⟨z, h1, rfl⟩ := h; exact kcs.refl _)
theorem kq_228 {d : Nat} (hd : 460 ≤ d) {w : eW} (q : kRel w) (hAl : kAl w) {a : Int} (g_a : (-2147483648 ≤ a ∧ a ≤ 2147483647)) {b : Int} (g_b : (-2147483648 ≤ b ∧ b ≤ 2147483647)) : e_Ok 20 elay kcode eI d 228 (0, [(0, (1, 0)), (1, (0, a)), (2, (0, b))], [], w) (fun _ w' => kcs w w') := (c_228 (by omega) (q.lk hAl) g_a g_b).imp (fun r w' h => by obtain ⟨z, h1, rfl⟩ := h; exact kcs.refl _)
theorem kq_229 {d : Nat} (hd : 460 ≤ d) {w : eW} (q : kRel w) (hAl : kAl w) {a : Int} (g_a : (-2147483648 ≤ a ∧ a ≤ 2147483647)) {b : Int} (g_b : (-2147483648 ≤ b ∧ b ≤ 2147483647)) {c : Int} (g_c : (-2147483648 ≤ c ∧ c ≤ 2147483647)) : e_Ok 20 elay kcode eI d 229 (0, [(0, (1, 0)), (1, (0, a)), (2, (0, b)), (3, (0, c))], [], w) (fun _ w' => kcs w w') := (c_229 (by omega) (q.lk hAl) g_a g_b g_c).imp (fun r w' h => by obtain ⟨z, h1, rfl⟩ := h; exact kcs.refl _)
theorem kq_230 {d : Nat} (hd : 460 ≤ d) {w : eW} (q : kRel w) (hAl : kAl w) {a : Int} (g_a : (-2147483648 ≤ a ∧ a ≤ 2147483647)) {b : Int} (g_b : (-2147483648 ≤ b ∧ b ≤ 2147483647)) : e_Ok 20 elay kcode eI d 230 (0, [(0, (1, 0)), (1, (0, a)), (2, (0, b))], [], w) (fun _ w' => kcs w w') := (c_230 (by omega) (q.lk hAl) g_a g_b).imp (fun r w' h => by obtain ⟨z, h1, rfl⟩ := h; exact kcs.refl _)
theorem kq_231 {d : Nat} (hd : 460 ≤ d) {w : eW} (q : kRel w) (hAl : kAl w) {a : Int} (g_a : (-2147483648 ≤ a ∧ a ≤ 2147483647)) {b : Int} (g_b : (-2147483648 ≤ b ∧ b ≤ 2147483647)) : e_Ok 20 elay kcode eI d 231 (0, [(0, (1, 0)), (1, (0, a)), (2, (0, b))], [], w) (fun _ w' => kcs w w') := (c_231 (by omega) (q.lk hAl) g_a g_b).imp (fun r w' h => by obtain ⟨z, h1, rfl⟩ := h; exact kcs.refl _)
theorem kq_232 {d : Nat} (hd : 460 ≤ d) {w : eW} (q : kRel w) (hAl : kAl w) {a : Int} (g_a : (-2147483648 ≤ a ∧ a ≤ 2147483647)) {b : Int} (g_b : (-2147483648 ≤ b ∧ b ≤ 2147483647)) : e_Ok 20 elay kcode eI d 232 (0, [(0, (1, 0)), (1, (0, a)), (2, (0, b))], [], w) (fun _ w' => kcs w w') := (c_232 (by omega) (q.lk hAl) g_a g_b).imp (fun r w' h => by obtain ⟨z, h1, rfl⟩ := h; exact kcs.refl _)
theorem kq_233 {d : Nat} (hd : 460 ≤ d) {w : eW} (q : kRel w) (hAl : kAl w) {a : Int} (g_a : (-2147483648 ≤ a ∧ a ≤ 2147483647)) {b : Int} (g_b : (-2147483648 ≤ b ∧ b ≤ 2147483647)) : e_Ok 20 elay kcode eI d 233 (0, [(0, (1, 0)), (1, (0, a)), (2, (0, b))], [], w) (fun _ w' => kcs w w') := (c_233 (by omega) (q.lk hAl) g_a g_b).imp (fun r w' h => by obtain ⟨z, h1, rfl⟩ := h; exact kcs.refl _)
theorem kq_234 {d : Nat} (hd : 460 ≤ d) {w : eW} (q : kRel w) (hAl : kAl w) {a : Int} (g_a : (-2147483648 ≤ a ∧ a ≤ 2147483647)) : e_Ok 20 elay kcode eI d 234 (0, [(0, (1, 0)), (1, (0, a))], [], w) (fun _ w' => kcs w w') := (c_234 (by omega) (q.lk hAl) g_a).imp (fun r w' h => by obtain ⟨z, h1, rfl⟩ := h; exact kcs.refl _)
theorem kq_235 {d : Nat} (hd : 460 ≤ d) {w : eW} (q : kRel w) (hAl : kAl w) {a : Int} (g_a : (-2147483648 ≤ a ∧ a ≤ 2147483647)) {b : Int} (g_b : (-2147483648 ≤ b ∧ b ≤ 2147483647)) : e_Ok 20 elay kcode eI d 235 (0, [(0, (1, 0)), (1, (0, a)), (2, (0, b))], [], w) (fun _ w' => kcs w w') := (c_235 (by omega) (q.lk hAl) g_a g_b).imp (fun r w' h => by obtain ⟨z, h1, rfl⟩ := h; exact kcs.refl _)
theorem kq_236 {d : Nat} (hd : 460 ≤ d) {w : eW} (q : kRel w) (hAl : kAl w) {a : Int} (g_a : (-2147483648 ≤ a ∧ a ≤ 2147483647)) : e_Ok 20 elay kcode eI d 236 (0, [(0, (1, 0)), (1, (0, a))], [], w) (fun _ w' => kcs w w') := (c_236 (by omega) (q.lk hAl) g_a).imp (fun r w' h => by obtain ⟨z, h1, rfl⟩ := h; exact kcs.refl _)
theorem kq_237 {d : Nat} (hd : 460 ≤ d) {w : eW} (q : kRel w) (hAl : kAl w) : e_Ok 20 elay kcode eI d 237 (0, [(0, (1, 0))], [], w) (fun _ w' => kcs w w') := (c_237 (by omega) (q.lk hAl) ).imp (fun r w' h => by obtain ⟨z, h1, rfl⟩ := h; exact kcs.refl _)
theorem kq_238 {d : Nat} (hd : 460 ≤ d) {w : eW} (q : kRel w) (hAl : kAl w) {a : Int} (g_a : (-2147483648 ≤ a ∧ a ≤ 2147483647)) {b : Int} (g_b : (-2147483648 ≤ b ∧ b ≤ 2147483647)) : e_Ok 20 elay kcode eI d 238 (0, [(0, (1, 0)), (1, (0, a)), (2, (0, b))], [], w) (fun _ w' => kcs w w') := (c_238 (by omega) (q.lk hAl) g_a g_b).imp (fun r w' h => by obtain ⟨z, h1, rfl⟩ := h; exact kcs.refl _)
theorem kq_240 {d : Nat} (hd : 460 ≤ d) {w : eW} (q : kRel w) (hAl : kAl w) {a : Int} (g_a : (-2147483648 ≤ a ∧ a ≤ 2147483647)) : e_Ok 20 elay kcode eI d 240 (0, [(0, (1, 0)), (1, (0, a))], [], w) (fun _ w' => kcs w w') := (c_240 (by omega) (q.lk hAl) g_a).imp (fun r w' h => by obtain ⟨z, h1, rfl⟩ := h; exact kcs.refl _)
theorem kq_241 {d : Nat} (hd : 460 ≤ d) {w : eW} (q : kRel w) (hAl : kAl w) {a : Int} (g_a : (-2147483648 ≤ a ∧ a ≤ 2147483647)) : e_Ok 20 elay kcode eI d 241 (0, [(0, (1, 0)), (1, (0, a))], [], w) (fun _ w' => kcs w w') := (c_241 (by omega) (q.lk hAl) g_a).imp (fun r w' h => by obtain ⟨z, h1, rfl⟩ := h; exact kcs.refl _)
theorem kq_211 {d : Nat} (hd : 460 ≤ d) {w : eW} (q : kRel w) (hAl : kAl w) {a : Int} (g_a : (-2147483648 ≤ a ∧ a ≤ 2147483647)) : e_Ok 20 elay kcode eI d 211 (0, [(0, (1, 0)), (1, (0, a))], [], w) (fun _ w' => kcs w w') := (c_211 (by omega) (q.lk hAl) g_a).imp (fun r w' h => by obtain ⟨z, h1, rfl⟩ := h; exact kcs.refl _)
theorem kq_239 {d : Nat} (hd : 460 ≤ d) {w : eW} (q : kRel w) (hAl : kAl w) {a : Int} (g_a : (-2147483648 ≤ a ∧ a ≤ 2147483647)) {b : Int} (g_b : (-2147483648 ≤ b ∧ b ≤ 2147483647)) : e_Ok 20 elay kcode eI d 239 (0, [(0, (1, 0)), (1, (0, a)), (2, (0, b))], [], w) (fun _ w' => kcs w w') := (c_239 (by omega) (q.lk hAl) g_a g_b).imp (fun r w' h => by obtain ⟨z, h1, f, hT⟩ := h; exact fun c k y => f c k (fun g => by unfold kCf at y; unfold kTc at g; omega))
theorem kq_213 {d : Nat} (hd : 460 ≤ d) {w : eW} (q : kRel w) (hAl : kAl w) {a : Int} (g_a : (-2147483648 ≤ a ∧ a ≤ 2147483647)) {b : Int} (g_b : (-2147483648 ≤ b ∧ b ≤ 2147483647)) : e_Ok 20 elay kcode eI d 213 (0, [(0, (1, 0)), (1, (0, a)), (2, (0, b))], [], w) (fun _ w' => kcs w w') := (c_213 (by omega) q.1 q.2.2.1.1 q.hC q.2.2.2.2.2 g_a g_b).imp (fun r w' h => by obtain ⟨z, h1, hT, ho⟩ := h; exact ho.cs)
theorem kq_215 {d : Nat} (hd : 460 ≤ d) {w : eW} (q : kRel w) (hAl : kAl w) {a : Int} (g_a : (-2147483648 ≤ a ∧ a ≤ 2147483647)) {b : Int} (g_b : (-2147483648 ≤ b ∧ b ≤ 2147483647)) : e_Ok 20 elay kcode eI d 215 (0, [(0, (1, 0)), (1, (0, a)), (2, (0, b))], [], w) (fun _ w' => kcs w w') := (c_215 (by omega) q.1 q.2.2.1.1 q.hC q.2.2.2.2.2 g_a g_b).imp (fun r w' h => by obtain ⟨z, h1, hT, ho⟩ := h; exact ho.cs)
theorem kq_216 {d : Nat} (hd : 460 ≤ d) {w : eW} (q : kRel w) (hAl : kAl w) {a : Int} (g_a : (-2147483648 ≤ a ∧ a ≤ 2147483647)) {b : Int} (g_b : (-2147483648 ≤ b ∧ b ≤ 2147483647)) {c : Int} (g_c : (0 ≤ c ∧ c ≤ 1)) : e_Ok 20 elay kcode eI d 216 (0, [(0, (1, 0)), (1, (0, a)), (2, (0, b)), (3, (0, c))], [], w) (fun _ w' => kcs w w') := (c_216 (by omega) q.1 q.2.2.1.1 q.hC q.2.2.2.2.2 g_a g_b g_c).imp (fun r w' h => by obtain ⟨z, h1, hT, ho⟩ := h; exact ho.cs)
theorem kq_217 {d : Nat} (hd : 460 ≤ d) {w : eW} (q : kRel w) (hAl : kAl w) {a : Int} (g_a : (-2147483648 ≤ a ∧ a ≤ 2147483647)) {b : Int} (g_b : (0 ≤ b ∧ b ≤ 1)) {c : Int} (g_c : (0 ≤ c ∧ c ≤ 1)) : e_Ok 20 elay kcode eI d 217 (0, [(0, (1, 0)), (1, (0, a)), (2, (0, b)), (3, (0, c))], [], w) (fun _ w' => kcs w w') := (c_217 (by omega) q.1 q.2.2.1.1 q.hC q.2.2.2.2.2 g_a g_b g_c).imp (fun r w' h => by obtain ⟨z, h1, hT, ho⟩ := h; exact ho.cs)
theorem kq_218 {d : Nat} (hd : 460 ≤ d) {w : eW} (q : kRel w) (hAl : kAl w) {a : Int} (g_a : (-2147483648 ≤ a ∧ a ≤ 2147483647)) : e_Ok 20 elay kcode eI d 218 (0, [(0, (1, 0)), (1, (0, a))], [], w) (fun _ w' => kcs w w') := (c_218 (by omega) q.1 q.2.2.1.1 q.hC q.2.2.2.2.2 g_a).imp (fun r w' h => by obtain ⟨z, h1, hT, ho⟩ := h; exact ho.cs)
theorem kq_219 {d : Nat} (hd : 460 ≤ d) {w : eW} (q : kRel w) (hAl : kAl w) {a : Int} (g_a : (-2147483648 ≤ a ∧ a ≤ 2147483647)) : e_Ok 20 elay kcode eI d 219 (0, [(0, (1, 0)), (1, (0, a))], [], w) (fun _ w' => kcs w w') := (c_219 (by omega) q.1 q.2.2.1.1 q.hC q.2.2.2.2.2 g_a).imp (fun r w' h => by obtain ⟨z, h1, hT, ho⟩ := h; exact ho.cs)
theorem kq_220 {d : Nat} (hd : 460 ≤ d) {w : eW} (q : kRel w) (hAl : kAl w) {a : Int} (g_a : (-2147483648 ≤ a ∧ a ≤ 2147483647)) : e_Ok 20 elay kcode eI d 220 (0, [(0, (1, 0)), (1, (0, a))], [], w) (fun _ w' => kcs w w') := (c_220 (by omega) q.1 q.2.2.1.1 q.hC q.2.2.2.2.2 g_a).imp (fun r w' h => by obtain ⟨z, h1, hT, ho⟩ := h; exact ho.cs)
theorem kq_221 {d : Nat} (hd : 460 ≤ d) {w : eW} (q : kRel w) (hAl : kAl w) {a : Int} (g_a : (-2147483648 ≤ a ∧ a ≤ 2147483647)) {b : Int} (g_b : (-2147483648 ≤ b ∧ b ≤ 2147483647)) {c : Int} (g_c : (-2147483648 ≤ c ∧ c ≤ 2147483647)) : e_Ok 20 elay kcode eI d 221 (0, [(0, (1, 0)), (1, (0, a)), (2, (0, b)), (3, (0, c))], [], w) (fun _ w' => kcs w w') := (c_221 (by omega) q.1 q.2.2.1.1 q.hC q.2.2.2.2.2 g_a g_b g_c).imp (fun r w' h => by obtain ⟨z, h1, hT, ho⟩ := h; exact ho.cs)
theorem kq_222 {d : Nat} (hd : 460 ≤ d) {w : eW} (q : kRel w) (hAl : kAl w) {a : Int} (g_a : (-2147483648 ≤ a ∧ a ≤ 2147483647)) {b : Int} (g_b : (-2147483648 ≤ b ∧ b ≤ 2147483647)) : e_Ok 20 elay kcode eI d 222 (0, [(0, (1, 0)), (1, (0, a)), (2, (0, b))], [], w) (fun _ w' => kcs w w') := (c_222 (by omega) q.1 q.2.2.1.1 q.hC q.2.2.2.2.2 g_a g_b).imp (fun r w' h => by obtain ⟨z, h1, hT, ho⟩ := h; exact ho.cs)
theorem kq_224 {d : Nat} (hd : 460 ≤ d) {w : eW} (q : kRel w) (hAl : kAl w) {a : Int} (g_a : (-2147483648 ≤ a ∧ a ≤ 2147483647)) : e_Ok 20 elay kcode eI d 224 (0, [(0, (1, 0)), (1, (0, a))], [], w) (fun _ w' => kcs w w') := (c_224 (by omega) q.1 q.2.2.1.1 q.hC q.2.2.2.2.2 g_a).imp (fun r w' h => by obtain ⟨z, h1, hT, ho⟩ := h; exact ho.cs)
theorem kq_214 {d : Nat} (hd : 460 ≤ d) {w : eW} (q : kRel w) (hAl : kAl w) {n : Int} (g_n : (-2147483648 ≤ n ∧ n ≤ 2147483647)) : e_Ok 20 elay kcode eI d 214 (0, [(0, (1, 0)), (1, (0, n))], [], w) (fun _ w' => kcs w w') := (c_214 (by omega) q.1 q.2.2.1.1 q.hC q.2.2.2.2.2 g_n q.2.2.1.2.1).imp (fun r w' h => by obtain ⟨z, h1, hT, ho⟩ := h; exact ho.cs)
theorem kq_225 {d : Nat} (hd : 460 ≤ d) {w : eW} (q : kRel w) (hAl : kAl w) {n : Int} (g_n : (-2147483648 ≤ n ∧ n ≤ 2147483647)) : e_Ok 20 elay kcode eI d 225 (0, [(0, (1, 0)), (1, (0, n))], [], w) (fun _ w' => kcs w w') := (c_225 (by omega) q.1 q.2.2.1.1 q.hC q.2.2.2.2.2 g_n q.2.2.1.2.1).imp (fun r w' h => by obtain ⟨z, h1, hT, ho⟩ := h; exact ho.cs)
theorem kq_223 {d : Nat} (hd : 460 ≤ d) {w : eW} (q : kRel w) (hAl : kAl w) {a : Int} (g_a : (-2147483648 ≤ a ∧ a ≤ 2147483647)) {n : Int} (g_n : (-2147483648 ≤ n ∧ n ≤ 2147483647)) {e : Int} (g_e : (-2147483648 ≤ e ∧ e ≤ 2147483647)) : e_Ok 20 elay kcode eI d 223 (0, [(0, (1, 0)), (1, (0, a)), (2, (0, n)), (3, (0, e))], [], w) (fun _ w' => kcs w w') := (c_223 (by omega) q.1 q.2.2.1.1 q.hC q.2.2.2.2.2 g_a g_n g_e rfl rfl q.p62).imp (fun r w' h => by obtain ⟨z, h1, hT, ho⟩ := h; exact ho.cs)
theorem kq_201 {d : Nat} (hd : 460 ≤ d) {w : eW} (q : kRel w) (hAl : kAl w) {a : Int} (g_a : (-2147483648 ≤ a ∧ a ≤ 2147483647)) {b : Int} (g_b : (-2147483648 ≤ b ∧ b ≤ 2147483647)) : e_Ok 20 elay kcode eI d 201 (0, [(0, (1, 0)), (1, (0, a)), (2, (0, b))], [], w) (fun _ w' => e_fr kBd w w') := (c_201 (by omega) q.1 q.2.2.1.1 g_a g_b).imp (fun r w' h => by
  obtain ⟨z, h1, hT, h2⟩ := h
  rcases h2 with rfl | ⟨h0, f⟩
  · exact e_fr.refl _
  · exact f)
theorem kq_202 {d : Nat} (hd : 460 ≤ d) {w : eW} (q : kRel w) (hAl : kAl w) {a : Int} (g_a : (-2147483648 ≤ a ∧ a ≤ 2147483647)) {b : Int} (g_b : (-2147483648 ≤ b ∧ b ≤ 2147483647)) {c : Int} (g_c : (-2147483648 ≤ c ∧ c ≤ 2147483647)) {e : Int} (g_e : (-2147483648 ≤ e ∧ e ≤ 2147483647)) : e_Ok 20 elay kcode eI d 202 (0, [(0, (1, 0)), (1, (0, a)), (2, (0, b)), (3, (0, c)), (4, (0, e))], [], w) (fun _ w' => e_fr kBs w w') := (c_202 (by omega) q.1 q.2.2.1.1 g_a g_b g_c g_e).imp (fun r w' h => by
  obtain ⟨z, h1, hT, h2⟩ := h
  rcases h2 with rfl | ⟨h0, f⟩
  · exact e_fr.refl _
  · exact f)
theorem kq_206 {d : Nat} (hd : 460 ≤ d) {w : eW} (q : kRel w) (hAl : kAl w) {a : Int} (g_a : (-2147483648 ≤ a ∧ a ≤ 2147483647)) {b : Int} (g_b : (-2147483648 ≤ b ∧ b ≤ 2147483647)) : e_Ok 20 elay kcode eI d 206 (0, [(0, (1, 0)), (1, (0, a)), (2, (0, b))], [], w) (fun _ w' => e_fr kBm0 w w') := (c_206 (by omega) q.1 q.2.2.1.1 g_a g_b).imp (fun r w' h => by
  obtain ⟨z, h1, hT, h2⟩ := h
  rcases h2 with rfl | ⟨h0, f⟩
  · exact e_fr.refl _
  · exact f)
theorem kq_207 {d : Nat} (hd : 460 ≤ d) {w : eW} (q : kRel w) (hAl : kAl w) {a : Int} (g_a : (-2147483648 ≤ a ∧ a ≤ 2147483647)) : e_Ok 20 elay kcode eI d 207 (0, [(0, (1, 0)), (1, (0, a))], [], w) (fun _ w' => e_fr kBi w w') := (c_207 (by omega) q.1 q.2.2.1.1 g_a).imp (fun r w' h => by
  obtain ⟨z, h1, hT, h2⟩ := h
  rcases h2 with rfl | ⟨h0, f⟩
  · exact e_fr.refl _
  · exact f)
theorem kq_208 {d : Nat} (hd : 460 ≤ d) {w : eW} (q : kRel w) (hAl : kAl w) {a : Int} (g_a : (-2147483648 ≤ a ∧ a ≤ 2147483647)) {b : Int} (g_b : (0 ≤ b ∧ b ≤ 1)) : e_Ok 20 elay kcode eI d 208 (0, [(0, (1, 0)), (1, (0, a)), (2, (0, b))], [], w) (fun _ w' => e_fr kBp w w') := (c_208 (by omega) q.1 q.2.2.1.1 g_a g_b).imp (fun r w' h => by
  obtain ⟨z, h1, hT, h2⟩ := h
  rcases h2 with rfl | ⟨h0, f⟩
  · exact e_fr.refl _
  · exact f)
theorem kq_196 {d : Nat} (hd : 460 ≤ d) {w : eW} (q : kRel w) (hAl : kAl w) {a : Int} (g_a : (-2147483648 ≤ a ∧ a ≤ 2147483647)) {b : Int} (g_b : (-2147483648 ≤ b ∧ b ≤ 2147483647)) {c : Int} (g_c : (-2147483648 ≤ c ∧ c ≤ 2147483647)) : e_Ok 20 elay kcode eI d 196 (0, [(0, (1, 0)), (1, (0, a)), (2, (0, b)), (3, (0, c))], [], w) (fun _ w' => (w' = w ∨ ((0 ≤ a ∧ a ≤ 3) ∧ (0 ≤ b ∧ b ≤ 5) ∧ e_fr (kBr a b) w w'))) := (c_196_r (by omega) q.1 q.2.2.1.1 g_a g_b g_c).imp (fun r w' h => by
  have hw0 := e_Has.get q.1 (c := 0) (k := 11) (lo := 0) (hi := 4) rfl (by decide)
  obtain ⟨z, h1, hT, h2⟩ := h
  rcases h2 with rfl | ⟨h0, f, ⟨x1, x2⟩, ⟨x3, x4⟩⟩
  · exact Or.inl rfl
  · have hjn := kn_joints q.1 (a := a) (by omega)
    exact Or.inr ⟨by omega, by omega, f⟩)
theorem kq_195 {d : Nat} (hd : 460 ≤ d) {w : eW} (q : kRel w) (hAl : kAl w) {a : Int} (g_a : (-2147483648 ≤ a ∧ a ≤ 2147483647)) {b : Int} (g_b : (-2147483648 ≤ b ∧ b ≤ 2147483647)) {c : Int} (g_c : (-2147483648 ≤ c ∧ c ≤ 2147483647)) {e : Int} (g_e : (-2147483648 ≤ e ∧ e ≤ 2147483647)) : e_Ok 20 elay kcode eI d 195 (0, [(0, (1, 0)), (1, (0, a)), (2, (0, b)), (3, (0, c)), (4, (0, e))], [], w) (fun _ w' => (w' = w ∨ ((0 ≤ a ∧ a ≤ 3) ∧ (0 ≤ b ∧ b ≤ 5) ∧ e_fr (kBj a b) w w'))) := (c_195 (by omega) q.1 q.2.2.1.1 g_a g_b g_c g_e).imp (fun r w' h => by
  have hw0 := e_Has.get q.1 (c := 0) (k := 11) (lo := 0) (hi := 4) rfl (by decide)
  obtain ⟨z, h1, hT, h2⟩ := h
  rcases h2 with rfl | ⟨h0, f, ⟨⟨x1, x2⟩, ⟨x3, x4⟩, -⟩, -⟩
  · exact Or.inl rfl
  · have hjn := kn_joints q.1 (a := a) (by omega)
    exact Or.inr ⟨by omega, by omega, f⟩)
theorem kq_200 {d : Nat} (hd : 460 ≤ d) {w : eW} (q : kRel w) (hAl : kAl w) {a : Int} (g_a : (-2147483648 ≤ a ∧ a ≤ 2147483647)) {b : Int} (g_b : (-2147483648 ≤ b ∧ b ≤ 2147483647)) {c : Int} (g_c : (-2147483648 ≤ c ∧ c ≤ 2147483647)) {e : Int} (g_e : (-2147483648 ≤ e ∧ e ≤ 2147483647)) {g : Int} (g_g : (-2147483648 ≤ g ∧ g ≤ 2147483647)) : e_Ok 20 elay kcode eI d 200 (0, [(0, (1, 0)), (1, (0, a)), (2, (0, b)), (3, (0, c)), (4, (0, e)), (5, (0, g))], [], w) (fun _ w' => e_fr kAb w w') := (c_200 (by omega) q.1 q.2.2.1.1 g_a g_b g_c g_e g_g).imp (fun r w' h => by
  obtain ⟨z, h1, hT, h2⟩ := h
  rcases h2 with rfl | ⟨h0, f, -⟩
  · exact e_fr.refl _
  · exact f)
theorem kq_194 {d : Nat} (hd : 460 ≤ d) {w : eW} (q : kRel w) (hAl : kAl w) {a : Int} (g_a : (-2147483648 ≤ a ∧ a ≤ 2147483647)) {kd : Int} (g_kd : (-2147483648 ≤ kd ∧ kd ≤ 2147483647)) {lo : Int} (g_lo : (-2147483648 ≤ lo ∧ lo ≤ 2147483647)) {hi : Int} (g_hi : (-2147483648 ≤ hi ∧ hi ≤ 2147483647)) {ln : Int} (g_ln : (-2147483648 ≤ ln ∧ ln ≤ 2147483647)) : e_Ok 20 elay kcode eI d 194 (0, [(0, (1, 0)), (1, (0, a)), (2, (0, kd)), (3, (0, lo)), (4, (0, hi)), (5, (0, ln))], [], w) (fun _ w' => (w' = w ∨ ((0 ≤ a ∧ a ≤ 3) ∧ e_fr (kAj a) w w'))) := (c_194 (by omega) q.1 q.2.2.1.1 q.ak g_a g_kd g_lo g_hi g_ln).imp (fun r w' h => by
  have hw0 := e_Has.get q.1 (c := 0) (k := 11) (lo := 0) (hi := 4) rfl (by decide)
  obtain ⟨z, h1, hT, h2⟩ := h
  rcases h2 with rfl | ⟨h0, f, ⟨⟨x1, x2⟩, -⟩, -⟩
  · exact Or.inl rfl
  · exact Or.inr ⟨by omega, f⟩)
theorem kq_203 {d : Nat} (hd : 460 ≤ d) {w : eW} (q : kRel w) (hAl : kAl w) {a : Int} (g_a : (-2147483648 ≤ a ∧ a ≤ 2147483647)) {b : Int} (g_b : (-2147483648 ≤ b ∧ b ≤ 2147483647)) {c : Int} (g_c : (-2147483648 ≤ c ∧ c ≤ 2147483647)) : e_Ok 20 elay kcode eI d 203 (0, [(0, (1, 0)), (1, (0, a)), (2, (0, b)), (3, (0, c))], [], w) (fun _ w' => e_fr kAp w w') := (c_203 (by omega) q.1 q.2.2.1.1 (fun h => (q.2.2.2.2.1 h).2.2.2.1.2) g_a g_b g_c).imp (fun r w' h => by
  obtain ⟨z, h1, hT, h2⟩ := h
  rcases h2 with rfl | ⟨h0, f, -⟩
  · exact e_fr.refl _
  · exact f)
theorem kq_204 {d : Nat} (hd : 460 ≤ d) {w : eW} (q : kRel w) (hAl : kAl w) {a : Int} (g_a : (-2147483648 ≤ a ∧ a ≤ 2147483647)) {b : Int} (g_b : (-2147483648 ≤ b ∧ b ≤ 2147483647)) {c : Int} (g_c : (-2147483648 ≤ c ∧ c ≤ 2147483647)) : e_Ok 20 elay kcode eI d 204 (0, [(0, (1, 0)), (1, (0, a)), (2, (0, b)), (3, (0, c))], [], w) (fun _ w' => e_fr kAp w w') := (c_204 (by omega) q.1 q.2.2.1.1 (fun h => (q.2.2.2.2.1 h).2.2.2.1.2) g_a g_b g_c).imp (fun r w' h => by
  obtain ⟨z, h1, hT, h2⟩ := h
  rcases h2 with rfl | ⟨h0, f, -⟩
  · exact e_fr.refl _
  · exact f)
theorem kq_209 {d : Nat} (hd : 460 ≤ d) {w : eW} (q : kRel w) (hAl : kAl w) {a : Int} (g_a : (-2147483648 ≤ a ∧ a ≤ 2147483647)) {b : Int} (g_b : (-2147483648 ≤ b ∧ b ≤ 2147483647)) {c : Int} (g_c : (0 ≤ c ∧ c ≤ 1)) : e_Ok 20 elay kcode eI d 209 (0, [(0, (1, 0)), (1, (0, a)), (2, (0, b)), (3, (0, c))], [], w) (fun _ w' => e_fr kCn w w') := (c_209 (by omega) q.1 q.2.2.1.1 (fun h => (q.2.2.2.2.1 h).2.2.1.2.2) g_a g_b g_c).imp (fun r w' h => by
  obtain ⟨z, h1, hT, h2⟩ := h
  rcases h2 with rfl | ⟨h0, f, -⟩
  · exact e_fr.refl _
  · exact f)
theorem kq_193 {d : Nat} (hd : 460 ≤ d) {w : eW} (q : kRel w) (hAl : kAl w) {x : Int} (g_x : (-2147483648 ≤ x ∧ x ≤ 2147483647)) {y : Int} (g_y : (-2147483648 ≤ y ∧ y ≤ 2147483647)) {u : Int} (g_u : (-2147483648 ≤ u ∧ u ≤ 2147483647)) {v : Int} (g_v : (-2147483648 ≤ v ∧ v ≤ 2147483647)) : e_Ok 20 elay kcode eI d 193 (0, [(0, (1, 0)), (1, (0, x)), (2, (0, y)), (3, (0, u)), (4, (0, v))], [], w) (fun _ w' => ((w' = w) ∨ (w 0 11 ≤ 3 ∧ e_fr (kAa (w 0 11) (w (17 * w 0 11 + 86) 7)) w w' ∧ w' 0 11 = w 0 11 + 1 ∧ w' (17 * w 0 11 + 86) 8 = 0))) := by
  have hw0 := e_Has.get q.1 (c := 0) (k := 11) (lo := 0) (hi := 4) rfl (by decide)
  by_cases hn : w 0 11 ≤ 3
  · refine (c_193 (e_dq0 hd rfl) (n := w 0 11) (cd := w (17 * w 0 11 + 86) 7) q.1 q.2.2.1.1 rfl hn rfl (q.hC _ hw0.1 hn) g_x g_y g_u g_v).imp (fun r w' h => ?_)
    obtain ⟨z, h1, hT, h2⟩ := h
    rcases h2 with ⟨rfl, h2⟩ | ⟨h0, f, X0, X1, X2, -⟩
    · exact Or.inl rfl
    · exact Or.inr ⟨hn, f, X1, X2⟩
  · refine (c_193_4 (e_dq0 hd rfl) q.1 q.2.2.1.1 (by omega) g_x g_y g_u g_v).imp (fun r w' h => ?_)
    obtain ⟨z, h1, rfl⟩ := h
    exact Or.inl rfl
theorem kq_210 {d : Nat} (hd : 460 ≤ d) {w : eW} (q : kRel w) (hAl : kAl w) {a : Int} (g_a : (-2147483648 ≤ a ∧ a ≤ 2147483647)) : e_Ok 20 elay kcode eI d 210 (0, [(0, (1, 0)), (1, (0, a))], [], w) (fun _ w' => kcs w w') := (c_210 (by omega) q.1 q.2.1 q.2.2.1.1 rfl q.2.2.2.1.1 g_a q.hC).imp (fun r w' h => by
  have hcd := q.2.2.2.1.1
  have hw0 := e_Has.get q.1 (c := 0) (k := 11) (lo := 0) (hi := 4) rfl (by decide)
  unfold isCd at hcd
  obtain ⟨z, h1, ⟨rfl, h2⟩ | ⟨h0, f, -⟩⟩ := h
  · exact kcs.refl _
  · refine fun c k y => f c k (fun g => ?_)
    unfold kCf at y
    unfold kPg kRr at g
    generalize w 1 3 = cd at hcd g
    rcases hcd with rfl | rfl | rfl | rfl | rfl <;> omega)
theorem kq_212 {d : Nat} (hd : 460 ≤ d) {w : eW} (q : kRel w) (hAl : kAl w) : e_Ok 20 elay kcode eI d 212 (0, [(0, (1, 0))], [], w) (fun _ w' => kcs w w') := by
  obtain ⟨OP, OD, CL, hc⟩ : ∃ OP OD CL : Int → Int → Int, w 0 13 = 0 → cfI w OP OD CL := by
    by_cases g : w 0 13 = 0
    · obtain ⟨OP, OD, CL, h⟩ := (q.2.2.2.2.1 g).cf
      exact ⟨OP, OD, CL, fun _ => h⟩
    · exact ⟨fun _ _ => 0, fun _ _ => 0, fun _ _ => 0, fun h => absurd h g⟩
  refine (c_212 (e_dq0 hd rfl) q.1 q.2.2.1.1 hc hAl q.p62).imp (fun r w' h => ?_)
  obtain ⟨z, h1, hT, ⟨h0, rfl⟩ | ⟨h0, f, -⟩⟩ := h
  · exact kcs.refl _
  · refine fun c k y => f c k (fun g => ?_)
    have z := cf_lo y
    rcases g with g | g
    · exact cf_nw y g
    · omega
theorem kq_190 {d : Nat} (hd : 460 ≤ d) {w : eW} (q : kRel w) (hAl : kAl w) {a : Int} (g_a : (-2147483648 ≤ a ∧ a ≤ 2147483647)) {b : Int} (g_b : (-2147483648 ≤ b ∧ b ≤ 2147483647)) {c : Int} (g_c : (-2147483648 ≤ c ∧ c ≤ 2147483647)) {e : Int} (g_e : (-2147483648 ≤ e ∧ e ≤ 2147483647)) {g : Int} (g_g : (-2147483648 ≤ g ∧ g ≤ 2147483647)) : e_Ok 20 elay kcode eI d 190 (0, [(0, (1, 0)), (1, (0, a)), (2, (0, b)), (3, (0, c)), (4, (0, e)), (5, (0, g))], [], w) (fun _ w' => kcs w w') := by
  have hl := e_Has.get q.2.1 (c := 1) (k := 0) (lo := 0) (hi := 4000) rfl (by decide)
  refine (c_190 (e_dq0 hd rfl) q.1 g_a g_b g_c g_e g_g rfl hl).imp (fun r w' h => ?_)
  obtain ⟨z, h1, f, hT, h2⟩ := h
  exact fun c k y => f c k (fun g => by unfold kCf at y; unfold kTp at g; omega)
theorem kq_191 {d : Nat} (hd : 460 ≤ d) {w : eW} (q : kRel w) (hAl : kAl w) {a : Int} (g_a : (-2147483648 ≤ a ∧ a ≤ 2147483647)) : e_Ok 20 elay kcode eI d 191 (0, [(0, (1, 0)), (1, (0, a))], [], w) (fun _ w' => kcs w w') := by
  have hl := e_Has.get q.2.1 (c := 1) (k := 0) (lo := 0) (hi := 4000) rfl (by decide)
  refine (c_191 (e_dq0 hd rfl) q.1 g_a rfl hl).imp (fun r w' h => ?_)
  obtain ⟨z, h1, f, hT, h2⟩ := h
  exact fun c k y => f c k (fun g => by unfold kCf at y; unfold kTp at g; omega)
end
