noncomputable section
/-! the class: every public call keeps what is kept -/
theorem k_226 {d : Nat} (hd : 460 ≤ d) {w : eW} (q : kRel w) (hAl : kAl w) : e_Ok 20 elay kcode eI d 226 (0, [(0, (1, 0))], [], w) (fun r w' => ∃ z : Int, r = [(0, z)] ∧ kRelF w' ∧ km3 w w') := (c_226 (by omega) (q.lk hAl) ).imp (fun r w' h => by obtain ⟨z, h1, rfl⟩ := h; exact ⟨z, h1, q.F, km3.refl _⟩)
theorem k_227 {d : Nat} (hd : 460 ≤ d) {w : eW} (q : kRel w) (hAl : kAl w) {a : Int} (g_a : (-2147483648 ≤ a ∧ a ≤ 2147483647)) {b : Int} (g_b : (-2147483648 ≤ b ∧ b ≤ 2147483647)) : e_Ok 20 elay kcode eI d 227 (0, [(0, (1, 0)), (1, (0, a)), (2, (0, b))], [], w) (fun r w' => ∃ z : Int, r = [(0, z)] ∧ kRelF w' ∧ km3 w w') := (c_227 (by omega) (q.lk hAl) g_a g_b).imp (fun r w' h => by obtain ⟨z, h1, rfl⟩ := h; exact ⟨z, h1, q.F, km3.refl _⟩)
theorem k_228 {d : Nat} (hd : 460 ≤ d) {w : eW} (q : kRel w) (hAl : kAl w) {a : Int} (g_a : (-2147483648 ≤ a ∧ a ≤ 2147483647)) {b : Int} (g_b : (-2147483648 ≤ b ∧ b ≤ 2147483647)) : e_Ok 20 elay kcode eI d 228 (0, [(0, (1, 0)), (1, (0, a)), (2, (0, b))], [], w) (fun r w' => ∃ z : Int, r = [(0, z)] ∧ kRelF w' ∧ km3 w w') := (c_228 (by omega) (q.lk hAl) g_a g_b).imp (fun r w' h => by obtain ⟨z, h1, rfl⟩ := h; exact ⟨z, h1, q.F, km3.refl _⟩)
theorem k_229 {d : Nat} (hd : 460 ≤ d) {w : eW} (q : kRel w) (hAl : kAl w) {a : Int} (g_a : (-2147483648 ≤ a ∧ a ≤ 2147483647)) {b : Int} (g_b : (-2147483648 ≤ b ∧ b ≤ 2147483647)) {c : Int} (g_c : (-2147483648 ≤ c ∧ c ≤ 2147483647)) : e_Ok 20 elay kcode eI d 229 (0, [(0, (1, 0)), (1, (0, a)), (2, (0, b)), (3, (0, c))], [], w) (fun r w' => ∃ z : Int, r = [(0, z)] ∧ kRelF w' ∧ km3 w w') := (c_229 (by omega) (q.lk hAl) g_a g_b g_c).imp (fun r w' h => by obtain ⟨z, h1, rfl⟩ := h; exact ⟨z, h1, q.F, km3.refl _⟩)
theorem k_230 {d : Nat} (hd : 460 ≤ d) {w : eW} (q : kRel w) (hAl : kAl w) {a : Int} (g_a : (-2147483648 ≤ a ∧ a ≤ 2147483647)) {b : Int} (g_b : (-2147483648 ≤ b ∧ b ≤ 2147483647)) : e_Ok 20 elay kcode eI d 230 (0, [(0, (1, 0)), (1, (0, a)), (2, (0, b))], [], w) (fun r w' => ∃ z : Int, r = [(0, z)] ∧ kRelF w' ∧ km3 w w') := (c_230 (by omega) (q.lk hAl) g_a g_b).imp (fun r w' h => by obtain ⟨z, h1, rfl⟩ := h; exact ⟨z, h1, q.F, km3.refl _⟩)
theorem k_231 {d : Nat} (hd : 460 ≤ d) {w : eW} (q : kRel w) (hAl : kAl w) {a : Int} (g_a : (-2147483648 ≤ a ∧ a ≤ 2147483647)) {b : Int} (g_b : (-2147483648 ≤ b ∧ b ≤ 2147483647)) : e_Ok 20 elay kcode eI d 231 (0, [(0, (1, 0)), (1, (0, a)), (2, (0, b))], [], w) (fun r w' => ∃ z : Int, r = [(0, z)] ∧ kRelF w' ∧ km3 w w') := (c_231 (by omega) (q.lk hAl) g_a g_b).imp (fun r w' h => by obtain ⟨z, h1, rfl⟩ := h; exact ⟨z, h1, q.F, km3.refl _⟩)
theorem k_232 {d : Nat} (hd : 460 ≤ d) {w : eW} (q : kRel w) (hAl : kAl w) {a : Int} (g_a : (-2147483648 ≤ a ∧ a ≤ 2147483647)) {b : Int} (g_b : (-2147483648 ≤ b ∧ b ≤ 2147483647)) : e_Ok 20 elay kcode eI d 232 (0, [(0, (1, 0)), (1, (0, a)), (2, (0, b))], [], w) (fun r w' => ∃ z : Int, r = [(0, z)] ∧ kRelF w' ∧ km3 w w') := (c_232 (by omega) (q.lk hAl) g_a g_b).imp (fun r w' h => by obtain ⟨z, h1, rfl⟩ := h; exact ⟨z, h1, q.F, km3.refl _⟩)
theorem k_233 {d : Nat} (hd : 460 ≤ d) {w : eW} (q : kRel w) (hAl : kAl w) {a : Int} (g_a : (-2147483648 ≤ a ∧ a ≤ 2147483647)) {b : Int} (g_b : (-2147483648 ≤ b ∧ b ≤ 2147483647)) : e_Ok 20 elay kcode eI d 233 (0, [(0, (1, 0)), (1, (0, a)), (2, (0, b))], [], w) (fun r w' => ∃ z : Int, r = [(0, z)] ∧ kRelF w' ∧ km3 w w') := (c_233 (by omega) (q.lk hAl) g_a g_b).imp (fun r w' h => by obtain ⟨z, h1, rfl⟩ := h; exact ⟨z, h1, q.F, km3.refl _⟩)
theorem k_234 {d : Nat} (hd : 460 ≤ d) {w : eW} (q : kRel w) (hAl : kAl w) {a : Int} (g_a : (-2147483648 ≤ a ∧ a ≤ 2147483647)) : e_Ok 20 elay kcode eI d 234 (0, [(0, (1, 0)), (1, (0, a))], [], w) (fun r w' => ∃ z : Int, r = [(0, z)] ∧ kRelF w' ∧ km3 w w') := (c_234 (by omega) (q.lk hAl) g_a).imp (fun r w' h => by obtain ⟨z, h1, rfl⟩ := h; exact ⟨z, h1, q.F, km3.refl _⟩)
theorem k_235 {d : Nat} (hd : 460 ≤ d) {w : eW} (q : kRel w) (hAl : kAl w) {a : Int} (g_a : (-2147483648 ≤ a ∧ a ≤ 2147483647)) {b : Int} (g_b : (-2147483648 ≤ b ∧ b ≤ 2147483647)) : e_Ok 20 elay kcode eI d 235 (0, [(0, (1, 0)), (1, (0, a)), (2, (0, b))], [], w) (fun r w' => ∃ z : Int, r = [(0, z)] ∧ kRelF w' ∧ km3 w w') := (c_235 (by omega) (q.lk hAl) g_a g_b).imp (fun r w' h => by obtain ⟨z, h1, rfl⟩ := h; exact ⟨z, h1, q.F, km3.refl _⟩)
theorem k_236 {d : Nat} (hd : 460 ≤ d) {w : eW} (q : kRel w) (hAl : kAl w) {a : Int} (g_a : (-2147483648 ≤ a ∧ a ≤ 2147483647)) : e_Ok 20 elay kcode eI d 236 (0, [(0, (1, 0)), (1, (0, a))], [], w) (fun r w' => ∃ z : Int, r = [(0, z)] ∧ kRelF w' ∧ km3 w w') := (c_236 (by omega) (q.lk hAl) g_a).imp (fun r w' h => by obtain ⟨z, h1, rfl⟩ := h; exact ⟨z, h1, q.F, km3.refl _⟩)
theorem k_237 {d : Nat} (hd : 460 ≤ d) {w : eW} (q : kRel w) (hAl : kAl w) : e_Ok 20 elay kcode eI d 237 (0, [(0, (1, 0))], [], w) (fun r w' => ∃ z : Int, r = [(0, z)] ∧ kRelF w' ∧ km3 w w') := (c_237 (by omega) (q.lk hAl) ).imp (fun r w' h => by obtain ⟨z, h1, rfl⟩ := h; exact ⟨z, h1, q.F, km3.refl _⟩)
theorem k_238 {d : Nat} (hd : 460 ≤ d) {w : eW} (q : kRel w) (hAl : kAl w) {a : Int} (g_a : (-2147483648 ≤ a ∧ a ≤ 2147483647)) {b : Int} (g_b : (-2147483648 ≤ b ∧ b ≤ 2147483647)) : e_Ok 20 elay kcode eI d 238 (0, [(0, (1, 0)), (1, (0, a)), (2, (0, b))], [], w) (fun r w' => ∃ z : Int, r = [(0, z)] ∧ kRelF w' ∧ km3 w w') := (c_238 (by omega) (q.lk hAl) g_a g_b).imp (fun r w' h => by obtain ⟨z, h1, rfl⟩ := h; exact ⟨z, h1, q.F, km3.refl _⟩)
theorem k_240 {d : Nat} (hd : 460 ≤ d) {w : eW} (q : kRel w) (hAl : kAl w) {a : Int} (g_a : (-2147483648 ≤ a ∧ a ≤ 2147483647)) : e_Ok 20 elay kcode eI d 240 (0, [(0, (1, 0)), (1, (0, a))], [], w) (fun r w' => ∃ z : Int, r = [(0, z)] ∧ kRelF w' ∧ km3 w w') := (c_240 (by omega) (q.lk hAl) g_a).imp (fun r w' h => by obtain ⟨z, h1, rfl⟩ := h; exact ⟨z, h1, q.F, km3.refl _⟩)
theorem k_241 {d : Nat} (hd : 460 ≤ d) {w : eW} (q : kRel w) (hAl : kAl w) {a : Int} (g_a : (-2147483648 ≤ a ∧ a ≤ 2147483647)) : e_Ok 20 elay kcode eI d 241 (0, [(0, (1, 0)), (1, (0, a))], [], w) (fun r w' => ∃ z : Int, r = [(0, z)] ∧ kRelF w' ∧ km3 w w') := (c_241 (by omega) (q.lk hAl) g_a).imp (fun r w' h => by obtain ⟨z, h1, rfl⟩ := h; exact ⟨z, h1, q.F, km3.refl _⟩)
theorem k_211 {d : Nat} (hd : 460 ≤ d) {w : eW} (q : kRel w) (hAl : kAl w) {a : Int} (g_a : (-2147483648 ≤ a ∧ a ≤ 2147483647)) : e_Ok 20 elay kcode eI d 211 (0, [(0, (1, 0)), (1, (0, a))], [], w) (fun r w' => ∃ z : Int, r = [(0, z)] ∧ kRelF w' ∧ km3 w w') := (c_211 (by omega) (q.lk hAl) g_a).imp (fun r w' h => by obtain ⟨z, h1, rfl⟩ := h; exact ⟨z, h1, q.F, km3.refl _⟩)
theorem k_239 {d : Nat} (hd : 460 ≤ d) {w : eW} (q : kRel w) (hAl : kAl w) {a : Int} (g_a : (-2147483648 ≤ a ∧ a ≤ 2147483647)) {b : Int} (g_b : (-2147483648 ≤ b ∧ b ≤ 2147483647)) : e_Ok 20 elay kcode eI d 239 (0, [(0, (1, 0)), (1, (0, a)), (2, (0, b))], [], w) (fun r w' => ∃ z : Int, r = [(0, z)] ∧ kRelF w' ∧ km3 w w') := (e_Ok.out kAlk (c_239 (by omega) (q.lk hAl) g_a g_b)).imp (fun r w' h => by obtain ⟨⟨z, h1, f, hT⟩, ho⟩ := h; exact ⟨z, h1, q.tc f hT ho, f _ _ (by unfold kTc; omega), f _ _ (by unfold kTc; omega), f _ _ (by unfold kTc; omega)⟩)
theorem k_213 {d : Nat} (hd : 460 ≤ d) {w : eW} (q : kRel w) (hAl : kAl w) {a : Int} (g_a : (-2147483648 ≤ a ∧ a ≤ 2147483647)) {b : Int} (g_b : (-2147483648 ≤ b ∧ b ≤ 2147483647)) : e_Ok 20 elay kcode eI d 213 (0, [(0, (1, 0)), (1, (0, a)), (2, (0, b))], [], w) (fun r w' => ∃ z : Int, r = [(0, z)] ∧ kRelF w' ∧ km3 w w') := (c_213 (by omega) q.1 q.2.2.1.1 q.hC q.2.2.2.2.2 g_a g_b).imp (fun r w' h => by obtain ⟨z, h1, hT, ho⟩ := h; exact ⟨z, h1, ho.rel q hT⟩)
theorem k_215 {d : Nat} (hd : 460 ≤ d) {w : eW} (q : kRel w) (hAl : kAl w) {a : Int} (g_a : (-2147483648 ≤ a ∧ a ≤ 2147483647)) {b : Int} (g_b : (-2147483648 ≤ b ∧ b ≤ 2147483647)) : e_Ok 20 elay kcode eI d 215 (0, [(0, (1, 0)), (1, (0, a)), (2, (0, b))], [], w) (fun r w' => ∃ z : Int, r = [(0, z)] ∧ kRelF w' ∧ km3 w w') := (c_215 (by omega) q.1 q.2.2.1.1 q.hC q.2.2.2.2.2 g_a g_b).imp (fun r w' h => by obtain ⟨z, h1, hT, ho⟩ := h; exact ⟨z, h1, ho.rel q hT⟩)
theorem k_216 {d : Nat} (hd : 460 ≤ d) {w : eW} (q : kRel w) (hAl : kAl w) {a : Int} (g_a : (-2147483648 ≤ a ∧ a ≤ 2147483647)) {b : Int} (g_b : (-2147483648 ≤ b ∧ b ≤ 2147483647)) {c : Int} (g_c : (0 ≤ c ∧ c ≤ 1)) : e_Ok 20 elay kcode eI d 216 (0, [(0, (1, 0)), (1, (0, a)), (2, (0, b)), (3, (0, c))], [], w) (fun r w' => ∃ z : Int, r = [(0, z)] ∧ kRelF w' ∧ km3 w w') := (c_216 (by omega) q.1 q.2.2.1.1 q.hC q.2.2.2.2.2 g_a g_b g_c).imp (fun r w' h => by obtain ⟨z, h1, hT, ho⟩ := h; exact ⟨z, h1, ho.rel q hT⟩)
theorem k_217 {d : Nat} (hd : 460 ≤ d) {w : eW} (q : kRel w) (hAl : kAl w) {a : Int} (g_a : (-2147483648 ≤ a ∧ a ≤ 2147483647)) {b : Int} (g_b : (0 ≤ b ∧ b ≤ 1)) {c : Int} (g_c : (0 ≤ c ∧ c ≤ 1)) : e_Ok 20 elay kcode eI d 217 (0, [(0, (1, 0)), (1, (0, a)), (2, (0, b)), (3, (0, c))], [], w) (fun r w' => ∃ z : Int, r = [(0, z)] ∧ kRelF w' ∧ km3 w w') := (c_217 (by omega) q.1 q.2.2.1.1 q.hC q.2.2.2.2.2 g_a g_b g_c).imp (fun r w' h => by obtain ⟨z, h1, hT, ho⟩ := h; exact ⟨z, h1, ho.rel q hT⟩)
theorem k_218 {d : Nat} (hd : 460 ≤ d) {w : eW} (q : kRel w) (hAl : kAl w) {a : Int} (g_a : (-2147483648 ≤ a ∧ a ≤ 2147483647)) : e_Ok 20 elay kcode eI d 218 (0, [(0, (1, 0)), (1, (0, a))], [], w) (fun r w' => ∃ z : Int, r = [(0, z)] ∧ kRelF w' ∧ km3 w w') := (c_218 (by omega) q.1 q.2.2.1.1 q.hC q.2.2.2.2.2 g_a).imp (fun r w' h => by obtain ⟨z, h1, hT, ho⟩ := h; exact ⟨z, h1, ho.rel q hT⟩)
theorem k_219 {d : Nat} (hd : 460 ≤ d) {w : eW} (q : kRel w) (hAl : kAl w) {a : Int} (g_a : (-2147483648 ≤ a ∧ a ≤ 2147483647)) : e_Ok 20 elay kcode eI d 219 (0, [(0, (1, 0)), (1, (0, a))], [], w) (fun r w' => ∃ z : Int, r = [(0, z)] ∧ kRelF w' ∧ km3 w w') := (c_219 (by omega) q.1 q.2.2.1.1 q.hC q.2.2.2.2.2 g_a).imp (fun r w' h => by obtain ⟨z, h1, hT, ho⟩ := h; exact ⟨z, h1, ho.rel q hT⟩)
theorem k_220 {d : Nat} (hd : 460 ≤ d) {w : eW} (q : kRel w) (hAl : kAl w) {a : Int} (g_a : (-2147483648 ≤ a ∧ a ≤ 2147483647)) : e_Ok 20 elay kcode eI d 220 (0, [(0, (1, 0)), (1, (0, a))], [], w) (fun r w' => ∃ z : Int, r = [(0, z)] ∧ kRelF w' ∧ km3 w w') := (c_220 (by omega) q.1 q.2.2.1.1 q.hC q.2.2.2.2.2 g_a).imp (fun r w' h => by obtain ⟨z, h1, hT, ho⟩ := h; exact ⟨z, h1, ho.rel q hT⟩)
theorem k_221 {d : Nat} (hd : 460 ≤ d) {w : eW} (q : kRel w) (hAl : kAl w) {a : Int} (g_a : (-2147483648 ≤ a ∧ a ≤ 2147483647)) {b : Int} (g_b : (-2147483648 ≤ b ∧ b ≤ 2147483647)) {c : Int} (g_c : (-2147483648 ≤ c ∧ c ≤ 2147483647)) : e_Ok 20 elay kcode eI d 221 (0, [(0, (1, 0)), (1, (0, a)), (2, (0, b)), (3, (0, c))], [], w) (fun r w' => ∃ z : Int, r = [(0, z)] ∧ kRelF w' ∧ km3 w w') := (c_221 (by omega) q.1 q.2.2.1.1 q.hC q.2.2.2.2.2 g_a g_b g_c).imp (fun r w' h => by obtain ⟨z, h1, hT, ho⟩ := h; exact ⟨z, h1, ho.rel q hT⟩)
theorem k_222 {d : Nat} (hd : 460 ≤ d) {w : eW} (q : kRel w) (hAl : kAl w) {a : Int} (g_a : (-2147483648 ≤ a ∧ a ≤ 2147483647)) {b : Int} (g_b : (-2147483648 ≤ b ∧ b ≤ 2147483647)) : e_Ok 20 elay kcode eI d 222 (0, [(0, (1, 0)), (1, (0, a)), (2, (0, b))], [], w) (fun r w' => ∃ z : Int, r = [(0, z)] ∧ kRelF w' ∧ km3 w w') := (c_222 (by omega) q.1 q.2.2.1.1 q.hC q.2.2.2.2.2 g_a g_b).imp (fun r w' h => by obtain ⟨z, h1, hT, ho⟩ := h; exact ⟨z, h1, ho.rel q hT⟩)
theorem k_224 {d : Nat} (hd : 460 ≤ d) {w : eW} (q : kRel w) (hAl : kAl w) {a : Int} (g_a : (-2147483648 ≤ a ∧ a ≤ 2147483647)) : e_Ok 20 elay kcode eI d 224 (0, [(0, (1, 0)), (1, (0, a))], [], w) (fun r w' => ∃ z : Int, r = [(0, z)] ∧ kRelF w' ∧ km3 w w') := (c_224 (by omega) q.1 q.2.2.1.1 q.hC q.2.2.2.2.2 g_a).imp (fun r w' h => by obtain ⟨z, h1, hT, ho⟩ := h; exact ⟨z, h1, ho.rel q hT⟩)
theorem k_214 {d : Nat} (hd : 460 ≤ d) {w : eW} (q : kRel w) (hAl : kAl w) {n : Int} (g_n : (-2147483648 ≤ n ∧ n ≤ 2147483647)) : e_Ok 20 elay kcode eI d 214 (0, [(0, (1, 0)), (1, (0, n))], [], w) (fun r w' => ∃ z : Int, r = [(0, z)] ∧ kRelF w' ∧ km3 w w') := (c_214 (by omega) q.1 q.2.2.1.1 q.hC q.2.2.2.2.2 g_n q.2.2.1.2.1).imp (fun r w' h => by obtain ⟨z, h1, hT, ho⟩ := h; exact ⟨z, h1, ho.rel q hT⟩)
theorem k_225 {d : Nat} (hd : 460 ≤ d) {w : eW} (q : kRel w) (hAl : kAl w) {n : Int} (g_n : (-2147483648 ≤ n ∧ n ≤ 2147483647)) : e_Ok 20 elay kcode eI d 225 (0, [(0, (1, 0)), (1, (0, n))], [], w) (fun r w' => ∃ z : Int, r = [(0, z)] ∧ kRelF w' ∧ km3 w w') := (c_225 (by omega) q.1 q.2.2.1.1 q.hC q.2.2.2.2.2 g_n q.2.2.1.2.1).imp (fun r w' h => by obtain ⟨z, h1, hT, ho⟩ := h; exact ⟨z, h1, ho.rel q hT⟩)
theorem k_223 {d : Nat} (hd : 460 ≤ d) {w : eW} (q : kRel w) (hAl : kAl w) {a : Int} (g_a : (-2147483648 ≤ a ∧ a ≤ 2147483647)) {n : Int} (g_n : (-2147483648 ≤ n ∧ n ≤ 2147483647)) {e : Int} (g_e : (-2147483648 ≤ e ∧ e ≤ 2147483647)) : e_Ok 20 elay kcode eI d 223 (0, [(0, (1, 0)), (1, (0, a)), (2, (0, n)), (3, (0, e))], [], w) (fun r w' => ∃ z : Int, r = [(0, z)] ∧ kRelF w' ∧ km3 w w') := (c_223 (by omega) q.1 q.2.2.1.1 q.hC q.2.2.2.2.2 g_a g_n g_e rfl rfl q.p62).imp (fun r w' h => by obtain ⟨z, h1, hT, ho⟩ := h; exact ⟨z, h1, ho.rel q hT⟩)
theorem k_197 {d : Nat} (hd : 460 ≤ d) {w : eW} (q : kRel w) (hAl : kAl w) {a : Int} (g_a : (-2147483648 ≤ a ∧ a ≤ 2147483647)) {b : Int} (g_b : (-2147483648 ≤ b ∧ b ≤ 2147483647)) {c : Int} (g_c : (-2147483648 ≤ c ∧ c ≤ 2147483647)) : e_Ok 20 elay kcode eI d 197 (0, [(0, (1, 0)), (1, (0, a)), (2, (0, b)), (3, (0, c))], [], w) (fun r w' => ∃ z : Int, r = [(0, z)] ∧ kRelF w' ∧ km3 w w') := (c_197 (by omega) q.1 q.2.2.1.1 g_a g_b g_c).imp (fun r w' h => by
  have hw0 := e_Has.get q.1 (c := 0) (k := 11) (lo := 0) (hi := 4) rfl (by decide)
  obtain ⟨z, h1, hT, h2⟩ := h
  rcases h2 with rfl | ⟨h0, f⟩
  · exact ⟨z, h1, q.F, km3.refl _⟩
  · have kb := q.2.2.2.2.1 h0
    obtain ⟨k1, k2, k3, k4⟩ := q.bl hT h0 f (fun c k g => by unfold kAs at g; omega) (kb.fr q.1 f (fun c k g => by unfold kAs at g; unfold dBa dBc dBp dBf; omega))
    exact ⟨z, h1, k1, k2, k3, k4 (by unfold kAs; omega)⟩)
theorem k_198 {d : Nat} (hd : 460 ≤ d) {w : eW} (q : kRel w) (hAl : kAl w) {a : Int} (g_a : (-2147483648 ≤ a ∧ a ≤ 2147483647)) {b : Int} (g_b : (-2147483648 ≤ b ∧ b ≤ 2147483647)) {c : Int} (g_c : (-2147483648 ≤ c ∧ c ≤ 2147483647)) {e : Int} (g_e : (-2147483648 ≤ e ∧ e ≤ 2147483647)) : e_Ok 20 elay kcode eI d 198 (0, [(0, (1, 0)), (1, (0, a)), (2, (0, b)), (3, (0, c)), (4, (0, e))], [], w) (fun r w' => ∃ z : Int, r = [(0, z)] ∧ kRelF w' ∧ km3 w w') := (c_198 (by omega) q.1 q.2.2.1.1 g_a g_b g_c g_e).imp (fun r w' h => by
  have hw0 := e_Has.get q.1 (c := 0) (k := 11) (lo := 0) (hi := 4) rfl (by decide)
  obtain ⟨z, h1, hT, h2⟩ := h
  rcases h2 with rfl | ⟨h0, f⟩
  · exact ⟨z, h1, q.F, km3.refl _⟩
  · have kb := q.2.2.2.2.1 h0
    obtain ⟨k1, k2, k3, k4⟩ := q.bl hT h0 f (fun c k g => by unfold kAs at g; omega) (kb.fr q.1 f (fun c k g => by unfold kAs at g; unfold dBa dBc dBp dBf; omega))
    exact ⟨z, h1, k1, k2, k3, k4 (by unfold kAs; omega)⟩)
theorem k_205 {d : Nat} (hd : 460 ≤ d) {w : eW} (q : kRel w) (hAl : kAl w) {a : Int} (g_a : (-2147483648 ≤ a ∧ a ≤ 2147483647)) {b : Int} (g_b : (-2147483648 ≤ b ∧ b ≤ 2147483647)) {c : Int} (g_c : (-2147483648 ≤ c ∧ c ≤ 2147483647)) {e : Int} (g_e : (-2147483648 ≤ e ∧ e ≤ 2147483647)) {g : Int} (g_g : (-2147483648 ≤ g ∧ g ≤ 2147483647)) : e_Ok 20 elay kcode eI d 205 (0, [(0, (1, 0)), (1, (0, a)), (2, (0, b)), (3, (0, c)), (4, (0, e)), (5, (0, g))], [], w) (fun r w' => ∃ z : Int, r = [(0, z)] ∧ kRelF w' ∧ km3 w w') := (c_205 (by omega) q.1 q.2.2.1.1 g_a g_b g_c g_e g_g).imp (fun r w' h => by
  have hw0 := e_Has.get q.1 (c := 0) (k := 11) (lo := 0) (hi := 4) rfl (by decide)
  obtain ⟨z, h1, hT, h2⟩ := h
  rcases h2 with rfl | ⟨h0, f⟩
  · exact ⟨z, h1, q.F, km3.refl _⟩
  · have kb := q.2.2.2.2.1 h0
    obtain ⟨k1, k2, k3, k4⟩ := q.bl hT h0 f (fun c k g => by unfold kAs at g; omega) (kb.fr q.1 f (fun c k g => by unfold kAs at g; unfold dBa dBc dBp dBf; omega))
    exact ⟨z, h1, k1, k2, k3, k4 (by unfold kAs; omega)⟩)
theorem k_201 {d : Nat} (hd : 460 ≤ d) {w : eW} (q : kRel w) (hAl : kAl w) {a : Int} (g_a : (-2147483648 ≤ a ∧ a ≤ 2147483647)) {b : Int} (g_b : (-2147483648 ≤ b ∧ b ≤ 2147483647)) : e_Ok 20 elay kcode eI d 201 (0, [(0, (1, 0)), (1, (0, a)), (2, (0, b))], [], w) (fun r w' => ∃ z : Int, r = [(0, z)] ∧ kRelF w' ∧ km3 w w') := (c_201 (by omega) q.1 q.2.2.1.1 g_a g_b).imp (fun r w' h => by
  have hw0 := e_Has.get q.1 (c := 0) (k := 11) (lo := 0) (hi := 4) rfl (by decide)
  obtain ⟨z, h1, hT, h2⟩ := h
  rcases h2 with rfl | ⟨h0, f⟩
  · exact ⟨z, h1, q.F, km3.refl _⟩
  · have kb := q.2.2.2.2.1 h0
    obtain ⟨k1, k2, k3, k4⟩ := q.bl hT h0 f (fun c k g => by unfold kBd at g; omega) (kb.fr q.1 f (fun c k g => by unfold kBd at g; unfold dBa dBc dBp dBf; omega))
    exact ⟨z, h1, k1, k2, k3, k4 (by unfold kBd; omega)⟩)
theorem k_202 {d : Nat} (hd : 460 ≤ d) {w : eW} (q : kRel w) (hAl : kAl w) {a : Int} (g_a : (-2147483648 ≤ a ∧ a ≤ 2147483647)) {b : Int} (g_b : (-2147483648 ≤ b ∧ b ≤ 2147483647)) {c : Int} (g_c : (-2147483648 ≤ c ∧ c ≤ 2147483647)) {e : Int} (g_e : (-2147483648 ≤ e ∧ e ≤ 2147483647)) : e_Ok 20 elay kcode eI d 202 (0, [(0, (1, 0)), (1, (0, a)), (2, (0, b)), (3, (0, c)), (4, (0, e))], [], w) (fun r w' => ∃ z : Int, r = [(0, z)] ∧ kRelF w' ∧ km3 w w') := (c_202 (by omega) q.1 q.2.2.1.1 g_a g_b g_c g_e).imp (fun r w' h => by
  have hw0 := e_Has.get q.1 (c := 0) (k := 11) (lo := 0) (hi := 4) rfl (by decide)
  obtain ⟨z, h1, hT, h2⟩ := h
  rcases h2 with rfl | ⟨h0, f⟩
  · exact ⟨z, h1, q.F, km3.refl _⟩
  · have kb := q.2.2.2.2.1 h0
    obtain ⟨k1, k2, k3, k4⟩ := q.bl hT h0 f (fun c k g => by unfold kBs at g; omega) (kb.fr q.1 f (fun c k g => by unfold kBs at g; unfold dBa dBc dBp dBf; omega))
    exact ⟨z, h1, k1, k2, k3, k4 (by unfold kBs; omega)⟩)
theorem k_206 {d : Nat} (hd : 460 ≤ d) {w : eW} (q : kRel w) (hAl : kAl w) {a : Int} (g_a : (-2147483648 ≤ a ∧ a ≤ 2147483647)) {b : Int} (g_b : (-2147483648 ≤ b ∧ b ≤ 2147483647)) : e_Ok 20 elay kcode eI d 206 (0, [(0, (1, 0)), (1, (0, a)), (2, (0, b))], [], w) (fun r w' => ∃ z : Int, r = [(0, z)] ∧ kRelF w' ∧ km3 w w') := (c_206 (by omega) q.1 q.2.2.1.1 g_a g_b).imp (fun r w' h => by
  have hw0 := e_Has.get q.1 (c := 0) (k := 11) (lo := 0) (hi := 4) rfl (by decide)
  obtain ⟨z, h1, hT, h2⟩ := h
  rcases h2 with rfl | ⟨h0, f⟩
  · exact ⟨z, h1, q.F, km3.refl _⟩
  · have kb := q.2.2.2.2.1 h0
    obtain ⟨k1, k2, k3, k4⟩ := q.bl hT h0 f (fun c k g => by unfold kBm0 at g; omega) (kb.fr q.1 f (fun c k g => by unfold kBm0 at g; unfold dBa dBc dBp dBf; omega))
    exact ⟨z, h1, k1, k2, k3, k4 (by unfold kBm0; omega)⟩)
theorem k_207 {d : Nat} (hd : 460 ≤ d) {w : eW} (q : kRel w) (hAl : kAl w) {a : Int} (g_a : (-2147483648 ≤ a ∧ a ≤ 2147483647)) : e_Ok 20 elay kcode eI d 207 (0, [(0, (1, 0)), (1, (0, a))], [], w) (fun r w' => ∃ z : Int, r = [(0, z)] ∧ kRelF w' ∧ km3 w w') := (c_207 (by omega) q.1 q.2.2.1.1 g_a).imp (fun r w' h => by
  have hw0 := e_Has.get q.1 (c := 0) (k := 11) (lo := 0) (hi := 4) rfl (by decide)
  obtain ⟨z, h1, hT, h2⟩ := h
  rcases h2 with rfl | ⟨h0, f⟩
  · exact ⟨z, h1, q.F, km3.refl _⟩
  · have kb := q.2.2.2.2.1 h0
    obtain ⟨k1, k2, k3, k4⟩ := q.bl hT h0 f (fun c k g => by unfold kBi at g; omega) (kb.fr q.1 f (fun c k g => by unfold kBi at g; unfold dBa dBc dBp dBf; omega))
    exact ⟨z, h1, k1, k2, k3, k4 (by unfold kBi; omega)⟩)
theorem k_208 {d : Nat} (hd : 460 ≤ d) {w : eW} (q : kRel w) (hAl : kAl w) {a : Int} (g_a : (-2147483648 ≤ a ∧ a ≤ 2147483647)) {b : Int} (g_b : (0 ≤ b ∧ b ≤ 1)) : e_Ok 20 elay kcode eI d 208 (0, [(0, (1, 0)), (1, (0, a)), (2, (0, b))], [], w) (fun r w' => ∃ z : Int, r = [(0, z)] ∧ kRelF w' ∧ km3 w w') := (c_208 (by omega) q.1 q.2.2.1.1 g_a g_b).imp (fun r w' h => by
  have hw0 := e_Has.get q.1 (c := 0) (k := 11) (lo := 0) (hi := 4) rfl (by decide)
  obtain ⟨z, h1, hT, h2⟩ := h
  rcases h2 with rfl | ⟨h0, f⟩
  · exact ⟨z, h1, q.F, km3.refl _⟩
  · have kb := q.2.2.2.2.1 h0
    obtain ⟨k1, k2, k3, k4⟩ := q.bl hT h0 f (fun c k g => by unfold kBp at g; omega) (kb.fr q.1 f (fun c k g => by unfold kBp at g; unfold dBa dBc dBp dBf; omega))
    exact ⟨z, h1, k1, k2, k3, k4 (by unfold kBp; omega)⟩)
theorem k_196 {d : Nat} (hd : 460 ≤ d) {w : eW} (q : kRel w) (hAl : kAl w) {a : Int} (g_a : (-2147483648 ≤ a ∧ a ≤ 2147483647)) {b : Int} (g_b : (-2147483648 ≤ b ∧ b ≤ 2147483647)) {c : Int} (g_c : (-2147483648 ≤ c ∧ c ≤ 2147483647)) : e_Ok 20 elay kcode eI d 196 (0, [(0, (1, 0)), (1, (0, a)), (2, (0, b)), (3, (0, c))], [], w) (fun r w' => ∃ z : Int, r = [(0, z)] ∧ kRelF w' ∧ km3 w w') := (c_196_r (by omega) q.1 q.2.2.1.1 g_a g_b g_c).imp (fun r w' h => by
  have hw0 := e_Has.get q.1 (c := 0) (k := 11) (lo := 0) (hi := 4) rfl (by decide)
  obtain ⟨z, h1, hT, h2⟩ := h
  rcases h2 with rfl | ⟨h0, f, X1, X2⟩
  · exact ⟨z, h1, q.F, km3.refl _⟩
  · have kb := q.2.2.2.2.1 h0
    have hjn := kn_joints q.1 (a := a) (by omega)
    obtain ⟨k1, k2, k3, k4⟩ := q.bl hT h0 f (fun c k g => by unfold kBr at g; omega) (kb.fr q.1 f (fun c k g => by unfold kBr at g; unfold dBa dBc dBp dBf; omega))
    exact ⟨z, h1, k1, k2, k3, k4 (by unfold kBr; omega)⟩)
theorem k_199 {d : Nat} (hd : 460 ≤ d) {w : eW} (q : kRel w) (hAl : kAl w) {a : Int} (g_a : (-2147483648 ≤ a ∧ a ≤ 2147483647)) {b : Int} (g_b : (-2147483648 ≤ b ∧ b ≤ 2147483647)) {c : Int} (g_c : (-2147483648 ≤ c ∧ c ≤ 2147483647)) : e_Ok 20 elay kcode eI d 199 (0, [(0, (1, 0)), (1, (0, a)), (2, (0, b)), (3, (0, c))], [], w) (fun r w' => ∃ z : Int, r = [(0, z)] ∧ kRelF w' ∧ km3 w w') := (c_199_r (by omega) q.1 q.2.2.1.1 g_a g_b g_c).imp (fun r w' h => by
  have hw0 := e_Has.get q.1 (c := 0) (k := 11) (lo := 0) (hi := 4) rfl (by decide)
  obtain ⟨z, h1, hT, h2⟩ := h
  rcases h2 with rfl | ⟨h0, f, X1⟩
  · exact ⟨z, h1, q.F, km3.refl _⟩
  · have kb := q.2.2.2.2.1 h0
    have hjn := kn_joints q.1 (a := a) (by omega)
    obtain ⟨k1, k2, k3, k4⟩ := q.bl hT h0 f (fun c k g => by unfold kSd at g; omega) (kb.fr q.1 f (fun c k g => by unfold kSd at g; unfold dBa dBc dBp dBf; omega))
    exact ⟨z, h1, k1, k2, k3, k4 (by unfold kSd; omega)⟩)
theorem k_195 {d : Nat} (hd : 460 ≤ d) {w : eW} (q : kRel w) (hAl : kAl w) {a : Int} (g_a : (-2147483648 ≤ a ∧ a ≤ 2147483647)) {b : Int} (g_b : (-2147483648 ≤ b ∧ b ≤ 2147483647)) {c : Int} (g_c : (-2147483648 ≤ c ∧ c ≤ 2147483647)) {e : Int} (g_e : (-2147483648 ≤ e ∧ e ≤ 2147483647)) : e_Ok 20 elay kcode eI d 195 (0, [(0, (1, 0)), (1, (0, a)), (2, (0, b)), (3, (0, c)), (4, (0, e))], [], w) (fun r w' => ∃ z : Int, r = [(0, z)] ∧ kRelF w' ∧ km3 w w') := (c_195 (by omega) q.1 q.2.2.1.1 g_a g_b g_c g_e).imp (fun r w' h => by
  have hw0 := e_Has.get q.1 (c := 0) (k := 11) (lo := 0) (hi := 4) rfl (by decide)
  obtain ⟨z, h1, hT, h2⟩ := h
  rcases h2 with rfl | ⟨h0, f, X1, X2, X3⟩
  · exact ⟨z, h1, q.F, km3.refl _⟩
  · have kb := q.2.2.2.2.1 h0
    have hjn := kn_joints q.1 (a := a) (by omega)
    obtain ⟨k1, k2, k3, k4⟩ := q.bl hT h0 f (fun c k g => by unfold kBj at g; omega) (kb.pace q.1 f X1 X2 X3)
    exact ⟨z, h1, k1, k2, k3, k4 (by unfold kBj; omega)⟩)
theorem k_200 {d : Nat} (hd : 460 ≤ d) {w : eW} (q : kRel w) (hAl : kAl w) {a : Int} (g_a : (-2147483648 ≤ a ∧ a ≤ 2147483647)) {b : Int} (g_b : (-2147483648 ≤ b ∧ b ≤ 2147483647)) {c : Int} (g_c : (-2147483648 ≤ c ∧ c ≤ 2147483647)) {e : Int} (g_e : (-2147483648 ≤ e ∧ e ≤ 2147483647)) {g : Int} (g_g : (-2147483648 ≤ g ∧ g ≤ 2147483647)) : e_Ok 20 elay kcode eI d 200 (0, [(0, (1, 0)), (1, (0, a)), (2, (0, b)), (3, (0, c)), (4, (0, e)), (5, (0, g))], [], w) (fun r w' => ∃ z : Int, r = [(0, z)] ∧ kRelF w' ∧ km3 w w') := (c_200 (by omega) q.1 q.2.2.1.1 g_a g_b g_c g_e g_g).imp (fun r w' h => by
  have hw0 := e_Has.get q.1 (c := 0) (k := 11) (lo := 0) (hi := 4) rfl (by decide)
  obtain ⟨z, h1, hT, h2⟩ := h
  rcases h2 with rfl | ⟨h0, f, X1, X2, X3, X4⟩
  · exact ⟨z, h1, q.F, km3.refl _⟩
  · have kb := q.2.2.2.2.1 h0
    obtain ⟨k1, k2, k3, k4⟩ := q.bl hT h0 f (fun c k g => by unfold kAb at g; omega) (kb.belt q.1 f X1 X2 X3 X4)
    exact ⟨z, h1, k1, k2, k3, k4 (by unfold kAb; omega)⟩)
theorem k_194 {d : Nat} (hd : 460 ≤ d) {w : eW} (q : kRel w) (hAl : kAl w) {a : Int} (g_a : (-2147483648 ≤ a ∧ a ≤ 2147483647)) {kd : Int} (g_kd : (-2147483648 ≤ kd ∧ kd ≤ 2147483647)) {lo : Int} (g_lo : (-2147483648 ≤ lo ∧ lo ≤ 2147483647)) {hi : Int} (g_hi : (-2147483648 ≤ hi ∧ hi ≤ 2147483647)) {ln : Int} (g_ln : (-2147483648 ≤ ln ∧ ln ≤ 2147483647)) : e_Ok 20 elay kcode eI d 194 (0, [(0, (1, 0)), (1, (0, a)), (2, (0, kd)), (3, (0, lo)), (4, (0, hi)), (5, (0, ln))], [], w) (fun r w' => ∃ z : Int, r = [(0, z)] ∧ kRelF w' ∧ km3 w w') := (c_194 (by omega) q.1 q.2.2.1.1 q.ak g_a g_kd g_lo g_hi g_ln).imp (fun r w' h => by
  have hw0 := e_Has.get q.1 (c := 0) (k := 11) (lo := 0) (hi := 4) rfl (by decide)
  obtain ⟨z, h1, hT, h2⟩ := h
  rcases h2 with rfl | ⟨h0, f, X1, X2, X3, X4, X5⟩
  · exact ⟨z, h1, q.F, km3.refl _⟩
  · have kb := q.2.2.2.2.1 h0
    have hjn := kn_joints q.1 (a := a) (by omega)
    obtain ⟨k1, k2, k3, k4⟩ := q.bl hT h0 f (fun c k g => by unfold kAj at g; omega) (kb.joint q.1 f rfl X1 X2 X3 X4 X5)
    exact ⟨z, h1, k1, k2, k3, k4 (by unfold kAj; omega)⟩)
theorem k_203 {d : Nat} (hd : 460 ≤ d) {w : eW} (q : kRel w) (hAl : kAl w) {a : Int} (g_a : (-2147483648 ≤ a ∧ a ≤ 2147483647)) {b : Int} (g_b : (-2147483648 ≤ b ∧ b ≤ 2147483647)) {c : Int} (g_c : (-2147483648 ≤ c ∧ c ≤ 2147483647)) : e_Ok 20 elay kcode eI d 203 (0, [(0, (1, 0)), (1, (0, a)), (2, (0, b)), (3, (0, c))], [], w) (fun r w' => ∃ z : Int, r = [(0, z)] ∧ kRelF w' ∧ km3 w w') := (c_203 (by omega) q.1 q.2.2.1.1 (fun h => (q.2.2.2.2.1 h).2.2.2.1.2) g_a g_b g_c).imp (fun r w' h => by
  have hw0 := e_Has.get q.1 (c := 0) (k := 11) (lo := 0) (hi := 4) rfl (by decide)
  obtain ⟨z, h1, hT, h2⟩ := h
  rcases h2 with rfl | ⟨h0, f, X1, X2, X3, X4⟩
  · exact ⟨z, h1, q.F, km3.refl _⟩
  · have kb := q.2.2.2.2.1 h0
    obtain ⟨k1, k2, k3, k4⟩ := q.bl hT h0 f (fun c k g => by unfold kAp at g; omega) (kb.part q.1 f rfl X1 X2 X3 X4)
    exact ⟨z, h1, k1, k2, k3, k4 (by unfold kAp; omega)⟩)
theorem k_204 {d : Nat} (hd : 460 ≤ d) {w : eW} (q : kRel w) (hAl : kAl w) {a : Int} (g_a : (-2147483648 ≤ a ∧ a ≤ 2147483647)) {b : Int} (g_b : (-2147483648 ≤ b ∧ b ≤ 2147483647)) {c : Int} (g_c : (-2147483648 ≤ c ∧ c ≤ 2147483647)) : e_Ok 20 elay kcode eI d 204 (0, [(0, (1, 0)), (1, (0, a)), (2, (0, b)), (3, (0, c))], [], w) (fun r w' => ∃ z : Int, r = [(0, z)] ∧ kRelF w' ∧ km3 w w') := (c_204 (by omega) q.1 q.2.2.1.1 (fun h => (q.2.2.2.2.1 h).2.2.2.1.2) g_a g_b g_c).imp (fun r w' h => by
  have hw0 := e_Has.get q.1 (c := 0) (k := 11) (lo := 0) (hi := 4) rfl (by decide)
  obtain ⟨z, h1, hT, h2⟩ := h
  rcases h2 with rfl | ⟨h0, f, X1, X2, X3, X4⟩
  · exact ⟨z, h1, q.F, km3.refl _⟩
  · have kb := q.2.2.2.2.1 h0
    obtain ⟨k1, k2, k3, k4⟩ := q.bl hT h0 f (fun c k g => by unfold kAp at g; omega) (kb.part q.1 f rfl X1 X2 X3 X4)
    exact ⟨z, h1, k1, k2, k3, k4 (by unfold kAp; omega)⟩)
theorem k_209 {d : Nat} (hd : 460 ≤ d) {w : eW} (q : kRel w) (hAl : kAl w) {a : Int} (g_a : (-2147483648 ≤ a ∧ a ≤ 2147483647)) {b : Int} (g_b : (-2147483648 ≤ b ∧ b ≤ 2147483647)) {c : Int} (g_c : (0 ≤ c ∧ c ≤ 1)) : e_Ok 20 elay kcode eI d 209 (0, [(0, (1, 0)), (1, (0, a)), (2, (0, b)), (3, (0, c))], [], w) (fun r w' => ∃ z : Int, r = [(0, z)] ∧ kRelF w' ∧ km3 w w') := (c_209 (by omega) q.1 q.2.2.1.1 (fun h => (q.2.2.2.2.1 h).2.2.1.2.2) g_a g_b g_c).imp (fun r w' h => by
  have hw0 := e_Has.get q.1 (c := 0) (k := 11) (lo := 0) (hi := 4) rfl (by decide)
  obtain ⟨z, h1, hT, h2⟩ := h
  rcases h2 with rfl | ⟨h0, f, X1⟩
  · exact ⟨z, h1, q.F, km3.refl _⟩
  · have kb := q.2.2.2.2.1 h0
    obtain ⟨k1, k2, k3, k4⟩ := q.bl hT h0 f (fun c k g => by unfold kCn at g; omega) (kb.wire q.1 f X1)
    exact ⟨z, h1, k1, k2, k3, k4 (by unfold kCn; omega)⟩)
theorem k_193 {d : Nat} (hd : 460 ≤ d) {w : eW} (q : kRel w) (hAl : kAl w) {x : Int} (g_x : (-2147483648 ≤ x ∧ x ≤ 2147483647)) {y : Int} (g_y : (-2147483648 ≤ y ∧ y ≤ 2147483647)) {u : Int} (g_u : (-2147483648 ≤ u ∧ u ≤ 2147483647)) {v : Int} (g_v : (-2147483648 ≤ v ∧ v ≤ 2147483647)) : e_Ok 20 elay kcode eI d 193 (0, [(0, (1, 0)), (1, (0, x)), (2, (0, y)), (3, (0, u)), (4, (0, v))], [], w) (fun r w' => ∃ z : Int, r = [(0, z)] ∧ kRelF w' ∧ ((km3 w w' ∧ ¬ ((-8000 ≤ x ∧ x ≤ 8000) ∧ (-8000 ≤ y ∧ y ≤ 8000) ∧ (0 ≤ u ∧ u ≤ 4095) ∧ (0 ≤ v ∧ v ≤ 800) ∧ w 0 13 = 0 ∧ w 0 11 ≤ 3)) ∨ (((-8000 ≤ x ∧ x ≤ 8000) ∧ (-8000 ≤ y ∧ y ≤ 8000) ∧ (0 ≤ u ∧ u ≤ 4095) ∧ (0 ≤ v ∧ v ≤ 800) ∧ w 0 13 = 0 ∧ w 0 11 ≤ 3) ∧ w' 0 13 = w 0 13 ∧ w' 1 0 = w 1 0 ∧ w' 0 11 = w 0 11 + 1))) := by
  have hw0 := e_Has.get q.1 (c := 0) (k := 11) (lo := 0) (hi := 4) rfl (by decide)
  by_cases hn : w 0 11 ≤ 3
  · refine (c_193 (by omega) (n := w 0 11) (cd := w (17 * w 0 11 + 86) 7) q.1 q.2.2.1.1 rfl hn rfl (q.hC _ hw0.1 hn) g_x g_y g_u g_v).imp (fun r w' h => ?_)
    obtain ⟨z, h1, hT, h2⟩ := h
    rcases h2 with ⟨rfl, h2⟩ | ⟨h0, f, X0, X1, X2, X3, X4, X5, X6⟩
    · exact ⟨z, h1, q.F, Or.inl ⟨km3.refl _, h2⟩⟩
    · have kb := q.2.2.2.2.1 h0.2.2.2.2.1
      have hcd := q.hC _ hw0.1 hn
      unfold isCd at hcd
      obtain ⟨k1, k2, k3, -⟩ := q.bl hT h0.2.2.2.2.1 f (fun c k g => by unfold kAa kMk at g; omega) (kb.arm q.1 rfl f X0 X2 X3 X4 X5 X6)
      exact ⟨z, h1, k1, Or.inr ⟨h0, k2, k3, X1⟩⟩
  · refine (c_193_4 (by omega) q.1 q.2.2.1.1 (by omega) g_x g_y g_u g_v).imp (fun r w' h => ?_)
    obtain ⟨z, h1, rfl⟩ := h
    exact ⟨z, h1, q.F, Or.inl ⟨km3.refl _, fun g => hn g.2.2.2.2.2⟩⟩
theorem k_210 {d : Nat} (hd : 460 ≤ d) {w : eW} (q : kRel w) (hAl : kAl w) {a : Int} (g_a : (-2147483648 ≤ a ∧ a ≤ 2147483647)) : e_Ok 20 elay kcode eI d 210 (0, [(0, (1, 0)), (1, (0, a))], [], w) (fun r w' => ∃ z : Int, r = [(0, z)] ∧ kRelF w' ∧ ((km3 w w' ∧ (w 0 13 = 1 ∨ a < 0 ∨ w 0 11 ≤ a)) ∨ ((w 0 13 = 0 ∧ 0 ≤ a ∧ a < w 0 11) ∧ w' 0 13 = w 0 13 ∧ w' 1 0 = 0 ∧ w' 0 11 = w 0 11))) := (c_210 (by omega) q.1 q.2.1 q.2.2.1.1 rfl q.2.2.2.1.1 g_a q.hC).imp (fun r w' h => by
  have hw0 := e_Has.get q.1 (c := 0) (k := 11) (lo := 0) (hi := 4) rfl (by decide)
  have hcd := q.2.2.2.1.1
  unfold isCd at hcd
  obtain ⟨z, h1, ⟨rfl, h2⟩ | ⟨h0, f, hT, hH, h10, hx⟩⟩ := h
  · exact ⟨z, h1, q.F, Or.inl ⟨km3.refl _, h2⟩⟩
  · have kb := (q.2.2.2.2.1 h0.1).prog q.1 rfl f ⟨h0.2.1, by omega⟩ hx
    have e : ∀ k, w' 0 k = w 0 k := fun k => f _ _ (by unfold kPg kRr; omega)
    have q4 := q.2.2.1
    refine ⟨z, h1, kRel.F ⟨hT, hH, ⟨by rw [e 13]; exact q4.1, by rw [e 12]; exact q4.2.1, (e 14).trans q4.2.2⟩, kb.2.1.cdD, fun _ => kb, fun g => by rw [e 13] at g; omega⟩, Or.inr ⟨h0, e 13, h10, e 11⟩⟩)
theorem k_212 {d : Nat} (hd : 460 ≤ d) {w : eW} (q : kRel w) (hAl : kAl w) : e_Ok 20 elay kcode eI d 212 (0, [(0, (1, 0))], [], w) (fun r w' => ∃ z : Int, r = [(0, z)] ∧ kRelF w' ∧ ((w 0 13 = 1 ∧ km3 w w') ∨ (w 0 13 = 0 ∧ w' 0 13 = 1 ∧ w' 1 0 = w 1 0 ∧ w' 0 11 = w 0 11))) := by
  obtain ⟨OP, OD, CL, hc⟩ : ∃ OP OD CL : Int → Int → Int, w 0 13 = 0 → cfI w OP OD CL := by
    by_cases g : w 0 13 = 0
    · obtain ⟨OP, OD, CL, h⟩ := (q.2.2.2.2.1 g).cf
      exact ⟨OP, OD, CL, fun _ => h⟩
    · exact ⟨fun _ _ => 0, fun _ _ => 0, fun _ _ => 0, fun h => absurd h g⟩
  refine (c_212 (by omega) q.1 q.2.2.1.1 hc hAl q.p62).imp (fun r w' h => ?_)
  obtain ⟨z, h1, hT, ⟨h0, rfl⟩ | ⟨h0, f, e13, -, S, hB⟩⟩ := h
  · exact ⟨z, h1, q.F, Or.inl ⟨h0, km3.refl _⟩⟩
  · have nn : ∀ c k, kNo c k → (c ≠ 1 ∧ (c < 5 ∨ 7 < c)) ∧ ¬ (c = 0 ∧ (k = 11 ∨ k = 14)) := fun c k g => by
      rcases g with g | g
      · have := nw_lo g; exact ⟨this.2, fun z => this.1 z.1⟩
      · exact ⟨by omega, by omega⟩
    have n7 : ∀ a, 0 ≤ a → a ≤ 3 → ¬ kNo (17 * a + 86) 7 := fun a g1 g2 g => by
      rcases g with g | g
      · exact nw_a ⟨g1, g2⟩ (by omega) g
      · omega
    have e11 : w' 0 11 = w 0 11 := f _ _ (fun g => (nn _ _ g).2 ⟨rfl, Or.inl rfl⟩)
    have e14 : w' 0 14 = w 0 14 := f _ _ (fun g => (nn _ _ g).2 ⟨rfl, Or.inr rfl⟩)
    have e10 : w' 1 0 = w 1 0 := f _ _ (fun g => (nn _ _ g).1.1 rfl)
    refine ⟨z, h1, kRel.F ⟨hT, H_fr f (fun c k g => (nn c k g).1) q.2.1, ⟨by omega, hB.1.1, e14.trans q.2.2.1.2.2⟩, q.2.2.2.1.eq (f _ _ (fun g => (nn _ _ g).1.1 rfl)) (fun a g1 g2 => f _ _ (n7 a g1 g2)), fun g => by omega, fun _ => ⟨OP, OD, CL, S, hB⟩⟩, Or.inr ⟨h0, e13, e10, e11⟩⟩
theorem k_192 {d : Nat} (hd : 460 ≤ d) {w : eW} (q : kRel w) (hAl : kAl w) : e_Ok 20 elay kcode eI d 192 (0, [(0, (1, 0))], [], w) (fun r w' => ∃ z : Int, r = [(0, z)] ∧ kRelF w' ∧ (w' 0 13 = 0 ∧ w' 1 0 = w 1 0 ∧ w' 0 11 = 0)) := (c_192 (by omega) q.1 q.hC q.2.2.2.1.1 (fun a g1 g2 => (q.2.2.2.1.2.1 a g1 g2).2) q.2.2.2.1.2.2).imp (fun r w' h => by
  obtain ⟨z, h1, f, hT, e11, e12, e13, kb⟩ := h
  have e14 : w' 0 14 = w 0 14 := f _ _ (fun g => by
    rcases g with g | g | g | g | g | g | g | g | g | g | g | g
    · exact (nw_lo g).1 rfl
    all_goals omega)
  have e10 : w' 1 0 = w 1 0 := f _ _ (fun g => (cl_lo g).1 rfl)
  exact ⟨z, h1, kRel.F ⟨hT, H_fr f (fun c k g => cl_lo g) q.2.1, ⟨by omega, by omega, e14.trans q.2.2.1.2.2⟩, kb.2.1.cdD, fun _ => kb, fun g => by omega⟩, e13, e10, e11⟩)
theorem k_190 {d : Nat} (hd : 460 ≤ d) {w : eW} (q : kRel w) (hAl : kAl w) {a : Int} (g_a : (-2147483648 ≤ a ∧ a ≤ 2147483647)) {b : Int} (g_b : (-2147483648 ≤ b ∧ b ≤ 2147483647)) {c : Int} (g_c : (-2147483648 ≤ c ∧ c ≤ 2147483647)) {e : Int} (g_e : (-2147483648 ≤ e ∧ e ≤ 2147483647)) {g : Int} (g_g : (-2147483648 ≤ g ∧ g ≤ 2147483647)) : e_Ok 20 elay kcode eI d 190 (0, [(0, (1, 0)), (1, (0, a)), (2, (0, b)), (3, (0, c)), (4, (0, e)), (5, (0, g))], [], w) (fun r w' => ∃ z : Int, r = [(0, z)] ∧ kRelF w' ∧ ((3980 < w 1 0 ∧ z = -3 ∧ km3 w w') ∨ (w 1 0 ≤ 3980 ∧ z = w 1 0 + 20 ∧ w' 0 13 = w 0 13 ∧ w' 1 0 = w 1 0 + 20 ∧ w' 0 11 = w 0 11))) := by
  have hl := e_Has.get q.2.1 (c := 1) (k := 0) (lo := 0) (hi := 4000) rfl (by decide)
  refine (e_Ok.out kAlk (c_190 (by omega) q.1 g_a g_b g_c g_e g_g rfl hl)).imp (fun r w' h => ?_)
  obtain ⟨⟨z, h1, f, hT, h2⟩, ho⟩ := h
  rcases h2 with ⟨h2, h3, rfl⟩ | ⟨h2, h3, h4⟩
  · exact ⟨z, h1, q.F, Or.inl ⟨h2, h3, km3.refl _⟩⟩
  have e13 : w' 0 13 = w 0 13 := f _ _ (by unfold kTp; omega)
  have e11 : w' 0 11 = w 0 11 := f _ _ (by unfold kTp; omega)
  exact ⟨z, h1, q.tp f hT (by omega) ho, Or.inr ⟨h2, h3, e13, h4, e11⟩⟩
theorem k_191 {d : Nat} (hd : 460 ≤ d) {w : eW} (q : kRel w) (hAl : kAl w) {a : Int} (g_a : (-2147483648 ≤ a ∧ a ≤ 2147483647)) : e_Ok 20 elay kcode eI d 191 (0, [(0, (1, 0)), (1, (0, a))], [], w) (fun r w' => ∃ z : Int, r = [(0, z)] ∧ kRelF w' ∧ (((a < 0 ∨ w 1 0 < a) ∧ z = -1 ∧ km3 w w') ∨ ((0 ≤ a ∧ a ≤ w 1 0) ∧ z = w 1 0 - a ∧ w' 0 13 = w 0 13 ∧ w' 1 0 = w 1 0 - a ∧ w' 0 11 = w 0 11))) := by
  have hl := e_Has.get q.2.1 (c := 1) (k := 0) (lo := 0) (hi := 4000) rfl (by decide)
  refine (e_Ok.out kAlk (c_191 (by omega) q.1 g_a rfl hl)).imp (fun r w' h => ?_)
  obtain ⟨⟨z, h1, f, hT, h2⟩, ho⟩ := h
  rcases h2 with ⟨h2, h3, rfl⟩ | ⟨h2, h3, h4⟩
  · exact ⟨z, h1, q.F, Or.inl ⟨h2, h3, km3.refl _⟩⟩
  have e13 : w' 0 13 = w 0 13 := f _ _ (by unfold kTp; omega)
  have e11 : w' 0 11 = w 0 11 := f _ _ (by unfold kTp; omega)
  exact ⟨z, h1, q.tp f hT (by omega) ho, Or.inr ⟨h2, h3, e13, h4, e11⟩⟩
end
