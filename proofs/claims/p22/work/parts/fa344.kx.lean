noncomputable section
/-! the tape: what each call of the class leaves of it -/
def kt5 (w w' : eW) : Prop := ∀ i, w' 5 i = w 5 i
theorem kt5.refl (w : eW) : kt5 w w := fun _ => rfl
theorem nw_5 {k : Int} : ¬ kNw 5 k := fun g => by
  unfold kNw at g
  rcases g with g | g | g | g | g | g | g | g | g | g | g | g | g | g | g | g | g <;> omega
theorem opK.t5 {w w' : eW} (h : opK w w') : kt5 w w' := by
  rcases h with rfl | ⟨h1, f, hB⟩
  · exact kt5.refl _
  · refine fun k => f 5 k (fun g => ?_)
    rcases g with g | g | g
    · exact nw_5 g
    · omega
    · omega
theorem opB.t5 {w w' : eW} (h : opB w w') : kt5 w w' := by
  rcases h with rfl | ⟨h1, f, h14, hB⟩
  · exact kt5.refl _
  · refine fun k => f 5 k (fun g => ?_)
    rcases g with g | g
    · exact nw_5 g
    · omega
theorem opP.t5 {w w' : eW} (h : opP w w') : kt5 w w' := by
  rcases h with rfl | ⟨h1, f, hB⟩
  · exact kt5.refl _
  · refine fun k => f 5 k (fun g => ?_)
    rcases g with (g | g | g) | g
    · exact nw_5 g
    · omega
    · omega
    · omega
theorem kx_226 {d : Nat} (hd : 460 ≤ d) {w : eW} (q : kRel w) (hAl : kAl w) : e_Ok 20 elay kcode eI d 226 (0, [(0, (1, 0))], [], w) (fun _ w' => kt5 w w') := (c_226 (by omega) (q.lk hAl) ).imp (fun r w' h => by obtain ⟨z, h1, rfl⟩ := h; exact kt5.refl _)
theorem kx_227 {d : Nat} (hd : 460 ≤ d) {w : eW} (q : kRel w) (hAl : kAl w) {a : Int} (g_a : (-2147483648 ≤ a ∧ a ≤ 2147483647)) {b : Int} (g_b : (-2147483648 ≤ b ∧ b ≤ 2147483647)) : e_Ok 20 elay kcode eI d 227 (0, [(0, (1, 0)), (1, (0, a)), (2, (0, b))], [], w) (fun _ w' => kt5 w w') := (c_227 (by omega) (q.lk hAl) g_a g_b).imp (fun r w' h => by obtain ⟨z, h1, rfl⟩ := h; exact kt5.refl _)
theorem kx_228 {d : Nat} (hd : 460 ≤ d) {w : eW} (q : kRel w) (hAl : kAl w) {a : Int} (g_a : (-2147483648 ≤ a ∧ a ≤ 2147483647)) {b : Int} (g_b : (-2147483648 ≤ b ∧ b ≤ 2147483647)) : e_Ok 20 elay kcode eI d 228 (0, [(0, (1, 0)), (1, (0, a)), (2, (0, b))], [], w) (fun _ w' => kt5 w w') := (c_228 (by omega) (q.lk hAl) g_a g_b).imp (fun r w' h => by obtain ⟨z, h1, rfl⟩ := h; exact kt5.refl _)
theorem kx_229 {d : Nat} (hd : 460 ≤ d) {w : eW} (q : kRel w) (hAl : kAl w) {a : Int} (g_a : (-2147483648 ≤ a ∧ a ≤ 2147483647)) {b : Int} (g_b : (-2147483648 ≤ b ∧ b ≤ 2147483647)) {c : Int} (g_c : (-2147483648 ≤ c ∧ c ≤ 2147483647)) : e_Ok 20 elay kcode eI d 229 (0, [(0, (1, 0)), (1, (0, a)), (2, (0, b)), (3, (0, c))], [], w) (fun _ w' => kt5 w w') := (c_229 (by omega) (q.lk hAl) g_a g_b g_c).imp (fun r w' h => by obtain ⟨z, h1, rfl⟩ := h; exact kt5.refl _)
theorem kx_230 {d : Nat} (hd : 460 ≤ d) {w : eW} (q : kRel w) (hAl : kAl w) {a : Int} (g_a : (-2147483648 ≤ a ∧ a ≤ 2147483647)) {b : Int} (g_b : (-2147483648 ≤ b ∧ b ≤ 2147483647)) : e_Ok 20 elay kcode eI d 230 (0, [(0, (1, 0)), (1, (0, a)), (2, (0, b))], [], w) (fun _ w' => kt5 w w') := (c_230 (by omega) (q.lk hAl) g_a g_b).imp (fun r w' h => by obtain ⟨z, h1, rfl⟩ := h; exact kt5.refl _)
theorem kx_231 {d : Nat} (hd : 460 ≤ d) {w : eW} (q : kRel w) (hAl : kAl w) {a : Int} (g_a : (-2147483648 ≤ a ∧ a ≤ 2147483647)) {b : Int} (g_b : (-2147483648 ≤ b ∧ b ≤ 2147483647)) : e_Ok 20 elay kcode eI d 231 (0, [(0, (1, 0)), (1, (0, a)), (2, (0, b))], [], w) (fun _ w' => kt5 w w') := (c_231 (by omega) (q.lk hAl) g_a g_b).imp (fun r w' h => by obtain ⟨z, h1, rfl⟩ := h; exact kt5.refl _)
theorem kx_232 {d : Nat} (hd : 460 ≤ d) {w : eW} (q : kRel w) (hAl : kAl w) {a : Int} (g_a : (-2147483648 ≤ a ∧ a ≤ 2147483647)) {b : Int} (g_b : (-2147483648 ≤ b ∧ b ≤ 2147483647)) : e_Ok 20 elay kcode eI d 232 (0, [(0, (1, 0)), (1, (0, a)), (2, (0, b))], [], w) (fun _ w' => kt5 w w') := (c_232 (by omega) (q.lk hAl) g_a g_b).imp (fun r w' h => by obtain ⟨z, h1, rfl⟩ := h; exact kt5.refl _)
theorem kx_233 {d : Nat} (hd : 460 ≤ d) {w : eW} (q : kRel w) (hAl : kAl w) {a : Int} (g_a : (-2147483648 ≤ a ∧ a ≤ 2147483647)) {b : Int} (g_b : (-2147483648 ≤ b ∧ b ≤ 2147483647)) : e_Ok 20 elay kcode eI d 233 (0, [(0, (1, 0)), (1, (0, a)), (2, (0, b))], [], w) (fun _ w' => kt5 w w') := (c_233 (by omega) (q.lk hAl) g_a g_b).imp (fun r w' h => by obtain ⟨z, h1, rfl⟩ := h; exact kt5.refl _)
theorem kx_234 {d : Nat} (hd : 460 ≤ d) {w : eW} (q : kRel w) (hAl : kAl w) {a : Int} (g_a : (-2147483648 ≤ a ∧ a ≤ 2147483647)) : e_Ok 20 elay kcode eI d 234 (0, [(0, (1, 0)), (1, (0, a))], [], w) (fun _ w' => kt5 w w') := (c_234 (by omega) (q.lk hAl) g_a).imp (fun r w' h => by obtain ⟨z, h1, rfl⟩ := h; exact kt5.refl _)
theorem kx_235 {d : Nat} (hd : 460 ≤ d) {w : eW} (q : kRel w) (hAl : kAl w) {a : Int} (g_a : (-2147483648 ≤ a ∧ a ≤ 2147483647)) {b : Int} (g_b : (-2147483648 ≤ b ∧ b ≤ 2147483647)) : e_Ok 20 elay kcode eI d 235 (0, [(0, (1, 0)), (1, (0, a)), (2, (0, b))], [], w) (fun _ w' => kt5 w w') := (c_235 (by omega) (q.lk hAl) g_a g_b).imp (fun r w' h => by obtain ⟨z, h1, rfl⟩ := h; exact kt5.refl _)
theorem kx_236 {d : Nat} (hd : 460 ≤ d) {w : eW} (q : kRel w) (hAl : kAl w) {a : Int} (g_a : (-2147483648 ≤ a ∧ a ≤ 2147483647)) : e_Ok 20 elay kcode eI d 236 (0, [(0, (1, 0)), (1, (0, a))], [], w) (fun _ w' => kt5 w w') := (c_236 (by omega) (q.lk hAl) g_a).imp (fun r w' h => by obtain ⟨z, h1, rfl⟩ := h; exact kt5.refl _)
theorem kx_237 {d : Nat} (hd : 460 ≤ d) {w : eW} (q : kRel w) (hAl : kAl w) : e_Ok 20 elay kcode eI d 237 (0, [(0, (1, 0))], [], w) (fun _ w' => kt5 w w') := (c_237 (by omega) (q.lk hAl) ).imp (fun r w' h => by obtain ⟨z, h1, rfl⟩ := h; exact kt5.refl _)
theorem kx_238 {d : Nat} (hd : 460 ≤ d) {w : eW} (q : kRel w) (hAl : kAl w) {a : Int} (g_a : (-2147483648 ≤ a ∧ a ≤ 2147483647)) {b : Int} (g_b : (-2147483648 ≤ b ∧ b ≤ 2147483647)) : e_Ok 20 elay kcode eI d 238 (0, [(0, (1, 0)), (1, (0, a)), (2, (0, b))], [], w) (fun _ w' => kt5 w w') := (c_238 (by omega) (q.lk hAl) g_a g_b).imp (fun r w' h => by obtain ⟨z, h1, rfl⟩ := h; exact kt5.refl _)
theorem kx_240 {d : Nat} (hd : 460 ≤ d) {w : eW} (q : kRel w) (hAl : kAl w) {a : Int} (g_a : (-2147483648 ≤ a ∧ a ≤ 2147483647)) : e_Ok 20 elay kcode eI d 240 (0, [(0, (1, 0)), (1, (0, a))], [], w) (fun _ w' => kt5 w w') := (c_240 (by omega) (q.lk hAl) g_a).imp (fun r w' h => by obtain ⟨z, h1, rfl⟩ := h; exact kt5.refl _)
theorem kx_241 {d : Nat} (hd : 460 ≤ d) {w : eW} (q : kRel w) (hAl : kAl w) {a : Int} (g_a : (-2147483648 ≤ a ∧ a ≤ 2147483647)) : e_Ok 20 elay kcode eI d 241 (0, [(0, (1, 0)), (1, (0, a))], [], w) (fun _ w' => kt5 w w') := (c_241 (by omega) (q.lk hAl) g_a).imp (fun r w' h => by obtain ⟨z, h1, rfl⟩ := h; exact kt5.refl _)
theorem kx_211 {d : Nat} (hd : 460 ≤ d) {w : eW} (q : kRel w) (hAl : kAl w) {a : Int} (g_a : (-2147483648 ≤ a ∧ a ≤ 2147483647)) : e_Ok 20 elay kcode eI d 211 (0, [(0, (1, 0)), (1, (0, a))], [], w) (fun _ w' => kt5 w w') := (c_211 (by omega) (q.lk hAl) g_a).imp (fun r w' h => by obtain ⟨z, h1, rfl⟩ := h; exact kt5.refl _)
theorem kx_239 {d : Nat} (hd : 460 ≤ d) {w : eW} (q : kRel w) (hAl : kAl w) {a : Int} (g_a : (-2147483648 ≤ a ∧ a ≤ 2147483647)) {b : Int} (g_b : (-2147483648 ≤ b ∧ b ≤ 2147483647)) : e_Ok 20 elay kcode eI d 239 (0, [(0, (1, 0)), (1, (0, a)), (2, (0, b))], [], w) (fun _ w' => kt5 w w') := (c_239 (by omega) (q.lk hAl) g_a g_b).imp (fun r w' h => by obtain ⟨z, h1, f, hT⟩ := h; exact fun k => f 5 k (fun g => by unfold kTc at g; omega))
theorem kx_213 {d : Nat} (hd : 460 ≤ d) {w : eW} (q : kRel w) (hAl : kAl w) {a : Int} (g_a : (-2147483648 ≤ a ∧ a ≤ 2147483647)) {b : Int} (g_b : (-2147483648 ≤ b ∧ b ≤ 2147483647)) : e_Ok 20 elay kcode eI d 213 (0, [(0, (1, 0)), (1, (0, a)), (2, (0, b))], [], w) (fun _ w' => kt5 w w') := (c_213 (by omega) q.1 q.2.2.1.1 q.hC q.2.2.2.2.2 g_a g_b).imp (fun r w' h => by obtain ⟨z, h1, hT, ho⟩ := h; exact ho.t5)
theorem kx_215 {d : Nat} (hd : 460 ≤ d) {w : eW} (q : kRel w) (hAl : kAl w) {a : Int} (g_a : (-2147483648 ≤ a ∧ a ≤ 2147483647)) {b : Int} (g_b : (-2147483648 ≤ b ∧ b ≤ 2147483647)) : e_Ok 20 elay kcode eI d 215 (0, [(0, (1, 0)), (1, (0, a)), (2, (0, b))], [], w) (fun _ w' => kt5 w w') := (c_215 (by omega) q.1 q.2.2.1.1 q.hC q.2.2.2.2.2 g_a g_b).imp (fun r w' h => by obtain ⟨z, h1, hT, ho⟩ := h; exact ho.t5)
theorem kx_216 {d : Nat} (hd : 460 ≤ d) {w : eW} (q : kRel w) (hAl : kAl w) {a : Int} (g_a : (-2147483648 ≤ a ∧ a ≤ 2147483647)) {b : Int} (g_b : (-2147483648 ≤ b ∧ b ≤ 2147483647)) {c : Int} (g_c : (0 ≤ c ∧ c ≤ 1)) : e_Ok 20 elay kcode eI d 216 (0, [(0, (1, 0)), (1, (0, a)), (2, (0, b)), (3, (0, c))], [], w) (fun _ w' => kt5 w w') := (c_216 (by omega) q.1 q.2.2.1.1 q.hC q.2.2.2.2.2 g_a g_b g_c).imp (fun r w' h => by obtain ⟨z, h1, hT, ho⟩ := h; exact ho.t5)
theorem kx_217 {d : Nat} (hd : 460 ≤ d) {w : eW} (q : kRel w) (hAl : kAl w) {a : Int} (g_a : (-2147483648 ≤ a ∧ a ≤ 2147483647)) {b : Int} (g_b : (0 ≤ b ∧ b ≤ 1)) {c : Int} (g_c : (0 ≤ c ∧ c ≤ 1)) : e_Ok 20 elay kcode eI d 217 (0, [(0, (1, 0)), (1, (0, a)), (2, (0, b)), (3, (0, c))], [], w) (fun _ w' => kt5 w w') := (c_217 (by omega) q.1 q.2.2.1.1 q.hC q.2.2.2.2.2 g_a g_b g_c).imp (fun r w' h => by obtain ⟨z, h1, hT, ho⟩ := h; exact ho.t5)
theorem kx_218 {d : Nat} (hd : 460 ≤ d) {w : eW} (q : kRel w) (hAl : kAl w) {a : Int} (g_a : (-2147483648 ≤ a ∧ a ≤ 2147483647)) : e_Ok 20 elay kcode eI d 218 (0, [(0, (1, 0)), (1, (0, a))], [], w) (fun _ w' => kt5 w w') := (c_218 (by omega) q.1 q.2.2.1.1 q.hC q.2.2.2.2.2 g_a).imp (fun r w' h => by obtain ⟨z, h1, hT, ho⟩ := h; exact ho.t5)
theorem kx_219 {d : Nat} (hd : 460 ≤ d) {w : eW} (q : kRel w) (hAl : kAl w) {a : Int} (g_a : (-2147483648 ≤ a ∧ a ≤ 2147483647)) : e_Ok 20 elay kcode eI d 219 (0, [(0, (1, 0)), (1, (0, a))], [], w) (fun _ w' => kt5 w w') := (c_219 (by omega) q.1 q.2.2.1.1 q.hC q.2.2.2.2.2 g_a).imp (fun r w' h => by obtain ⟨z, h1, hT, ho⟩ := h; exact ho.t5)
theorem kx_220 {d : Nat} (hd : 460 ≤ d) {w : eW} (q : kRel w) (hAl : kAl w) {a : Int} (g_a : (-2147483648 ≤ a ∧ a ≤ 2147483647)) : e_Ok 20 elay kcode eI d 220 (0, [(0, (1, 0)), (1, (0, a))], [], w) (fun _ w' => kt5 w w') := (c_220 (by omega) q.1 q.2.2.1.1 q.hC q.2.2.2.2.2 g_a).imp (fun r w' h => by obtain ⟨z, h1, hT, ho⟩ := h; exact ho.t5)
theorem kx_221 {d : Nat} (hd : 460 ≤ d) {w : eW} (q : kRel w) (hAl : kAl w) {a : Int} (g_a : (-2147483648 ≤ a ∧ a ≤ 2147483647)) {b : Int} (g_b : (-2147483648 ≤ b ∧ b ≤ 2147483647)) {c : Int} (g_c : (-2147483648 ≤ c ∧ c ≤ 2147483647)) : e_Ok 20 elay kcode eI d 221 (0, [(0, (1, 0)), (1, (0, a)), (2, (0, b)), (3, (0, c))], [], w) (fun _ w' => kt5 w w') := (c_221 (by omega) q.1 q.2.2.1.1 q.hC q.2.2.2.2.2 g_a g_b g_c).imp (fun r w' h => by obtain ⟨z, h1, hT, ho⟩ := h; exact ho.t5)
theorem kx_222 {d : Nat} (hd : 460 ≤ d) {w : eW} (q : kRel w) (hAl : kAl w) {a : Int} (g_a : (-2147483648 ≤ a ∧ a ≤ 2147483647)) {b : Int} (g_b : (-2147483648 ≤ b ∧ b ≤ 2147483647)) : e_Ok 20 elay kcode eI d 222 (0, [(0, (1, 0)), (1, (0, a)), (2, (0, b))], [], w) (fun _ w' => kt5 w w') := (c_222 (by omega) q.1 q.2.2.1.1 q.hC q.2.2.2.2.2 g_a g_b).imp (fun r w' h => by obtain ⟨z, h1, hT, ho⟩ := h; exact ho.t5)
theorem kx_224 {d : Nat} (hd : 460 ≤ d) {w : eW} (q : kRel w) (hAl : kAl w) {a : Int} (g_a : (-2147483648 ≤ a ∧ a ≤ 2147483647)) : e_Ok 20 elay kcode eI d 224 (0, [(0, (1, 0)), (1, (0, a))], [], w) (fun _ w' => kt5 w w') := (c_224 (by omega) q.1 q.2.2.1.1 q.hC q.2.2.2.2.2 g_a).imp (fun r w' h => by obtain ⟨z, h1, hT, ho⟩ := h; exact ho.t5)
theorem kx_214 {d : Nat} (hd : 460 ≤ d) {w : eW} (q : kRel w) (hAl : kAl w) {n : Int} (g_n : (-2147483648 ≤ n ∧ n ≤ 2147483647)) : e_Ok 20 elay kcode eI d 214 (0, [(0, (1, 0)), (1, (0, n))], [], w) (fun _ w' => kt5 w w') := (c_214 (by omega) q.1 q.2.2.1.1 q.hC q.2.2.2.2.2 g_n q.2.2.1.2.1).imp (fun r w' h => by obtain ⟨z, h1, hT, ho⟩ := h; exact ho.t5)
theorem kx_225 {d : Nat} (hd : 460 ≤ d) {w : eW} (q : kRel w) (hAl : kAl w) {n : Int} (g_n : (-2147483648 ≤ n ∧ n ≤ 2147483647)) : e_Ok 20 elay kcode eI d 225 (0, [(0, (1, 0)), (1, (0, n))], [], w) (fun _ w' => kt5 w w') := (c_225 (by omega) q.1 q.2.2.1.1 q.hC q.2.2.2.2.2 g_n q.2.2.1.2.1).imp (fun r w' h => by obtain ⟨z, h1, hT, ho⟩ := h; exact ho.t5)
theorem kx_223 {d : Nat} (hd : 460 ≤ d) {w : eW} (q : kRel w) (hAl : kAl w) {a : Int} (g_a : (-2147483648 ≤ a ∧ a ≤ 2147483647)) {n : Int} (g_n : (-2147483648 ≤ n ∧ n ≤ 2147483647)) {e : Int} (g_e : (-2147483648 ≤ e ∧ e ≤ 2147483647)) : e_Ok 20 elay kcode eI d 223 (0, [(0, (1, 0)), (1, (0, a)), (2, (0, n)), (3, (0, e))], [], w) (fun _ w' => kt5 w w') := (c_223 (by omega) q.1 q.2.2.1.1 q.hC q.2.2.2.2.2 g_a g_n g_e rfl rfl q.p62).imp (fun r w' h => by obtain ⟨z, h1, hT, ho⟩ := h; exact ho.t5)
theorem kx_197 {d : Nat} (hd : 460 ≤ d) {w : eW} (q : kRel w) (hAl : kAl w) {a : Int} (g_a : (-2147483648 ≤ a ∧ a ≤ 2147483647)) {b : Int} (g_b : (-2147483648 ≤ b ∧ b ≤ 2147483647)) {c : Int} (g_c : (-2147483648 ≤ c ∧ c ≤ 2147483647)) : e_Ok 20 elay kcode eI d 197 (0, [(0, (1, 0)), (1, (0, a)), (2, (0, b)), (3, (0, c))], [], w) (fun _ w' => kt5 w w') := (kq_197 hd q hAl g_a g_b g_c).imp (fun r w' f => fun k => f 5 k (fun g => by unfold kAs at g; omega))
theorem kx_198 {d : Nat} (hd : 460 ≤ d) {w : eW} (q : kRel w) (hAl : kAl w) {a : Int} (g_a : (-2147483648 ≤ a ∧ a ≤ 2147483647)) {b : Int} (g_b : (-2147483648 ≤ b ∧ b ≤ 2147483647)) {c : Int} (g_c : (-2147483648 ≤ c ∧ c ≤ 2147483647)) {e : Int} (g_e : (-2147483648 ≤ e ∧ e ≤ 2147483647)) : e_Ok 20 elay kcode eI d 198 (0, [(0, (1, 0)), (1, (0, a)), (2, (0, b)), (3, (0, c)), (4, (0, e))], [], w) (fun _ w' => kt5 w w') := (kq_198 hd q hAl g_a g_b g_c g_e).imp (fun r w' f => fun k => f 5 k (fun g => by unfold kAs at g; omega))
theorem kx_205 {d : Nat} (hd : 460 ≤ d) {w : eW} (q : kRel w) (hAl : kAl w) {a : Int} (g_a : (-2147483648 ≤ a ∧ a ≤ 2147483647)) {b : Int} (g_b : (-2147483648 ≤ b ∧ b ≤ 2147483647)) {c : Int} (g_c : (-2147483648 ≤ c ∧ c ≤ 2147483647)) {e : Int} (g_e : (-2147483648 ≤ e ∧ e ≤ 2147483647)) {g : Int} (g_g : (-2147483648 ≤ g ∧ g ≤ 2147483647)) : e_Ok 20 elay kcode eI d 205 (0, [(0, (1, 0)), (1, (0, a)), (2, (0, b)), (3, (0, c)), (4, (0, e)), (5, (0, g))], [], w) (fun _ w' => kt5 w w') := (kq_205 hd q hAl g_a g_b g_c g_e g_g).imp (fun r w' f => fun k => f 5 k (fun g => by unfold kAs at g; omega))
theorem kx_201 {d : Nat} (hd : 460 ≤ d) {w : eW} (q : kRel w) (hAl : kAl w) {a : Int} (g_a : (-2147483648 ≤ a ∧ a ≤ 2147483647)) {b : Int} (g_b : (-2147483648 ≤ b ∧ b ≤ 2147483647)) : e_Ok 20 elay kcode eI d 201 (0, [(0, (1, 0)), (1, (0, a)), (2, (0, b))], [], w) (fun _ w' => kt5 w w') := (kq_201 hd q hAl g_a g_b).imp (fun r w' f => fun k => f 5 k (fun g => by unfold kBd at g; omega))
theorem kx_202 {d : Nat} (hd : 460 ≤ d) {w : eW} (q : kRel w) (hAl : kAl w) {a : Int} (g_a : (-2147483648 ≤ a ∧ a ≤ 2147483647)) {b : Int} (g_b : (-2147483648 ≤ b ∧ b ≤ 2147483647)) {c : Int} (g_c : (-2147483648 ≤ c ∧ c ≤ 2147483647)) {e : Int} (g_e : (-2147483648 ≤ e ∧ e ≤ 2147483647)) : e_Ok 20 elay kcode eI d 202 (0, [(0, (1, 0)), (1, (0, a)), (2, (0, b)), (3, (0, c)), (4, (0, e))], [], w) (fun _ w' => kt5 w w') := (kq_202 hd q hAl g_a g_b g_c g_e).imp (fun r w' f => fun k => f 5 k (fun g => by unfold kBs at g; omega))
theorem kx_206 {d : Nat} (hd : 460 ≤ d) {w : eW} (q : kRel w) (hAl : kAl w) {a : Int} (g_a : (-2147483648 ≤ a ∧ a ≤ 2147483647)) {b : Int} (g_b : (-2147483648 ≤ b ∧ b ≤ 2147483647)) : e_Ok 20 elay kcode eI d 206 (0, [(0, (1, 0)), (1, (0, a)), (2, (0, b))], [], w) (fun _ w' => kt5 w w') := (kq_206 hd q hAl g_a g_b).imp (fun r w' f => fun k => f 5 k (fun g => by unfold kBm0 at g; omega))
theorem kx_207 {d : Nat} (hd : 460 ≤ d) {w : eW} (q : kRel w) (hAl : kAl w) {a : Int} (g_a : (-2147483648 ≤ a ∧ a ≤ 2147483647)) : e_Ok 20 elay kcode eI d 207 (0, [(0, (1, 0)), (1, (0, a))], [], w) (fun _ w' => kt5 w w') := (kq_207 hd q hAl g_a).imp (fun r w' f => fun k => f 5 k (fun g => by unfold kBi at g; omega))
theorem kx_208 {d : Nat} (hd : 460 ≤ d) {w : eW} (q : kRel w) (hAl : kAl w) {a : Int} (g_a : (-2147483648 ≤ a ∧ a ≤ 2147483647)) {b : Int} (g_b : (0 ≤ b ∧ b ≤ 1)) : e_Ok 20 elay kcode eI d 208 (0, [(0, (1, 0)), (1, (0, a)), (2, (0, b))], [], w) (fun _ w' => kt5 w w') := (kq_208 hd q hAl g_a g_b).imp (fun r w' f => fun k => f 5 k (fun g => by unfold kBp at g; omega))
theorem kx_196 {d : Nat} (hd : 460 ≤ d) {w : eW} (q : kRel w) (hAl : kAl w) {a : Int} (g_a : (-2147483648 ≤ a ∧ a ≤ 2147483647)) {b : Int} (g_b : (-2147483648 ≤ b ∧ b ≤ 2147483647)) {c : Int} (g_c : (-2147483648 ≤ c ∧ c ≤ 2147483647)) : e_Ok 20 elay kcode eI d 196 (0, [(0, (1, 0)), (1, (0, a)), (2, (0, b)), (3, (0, c))], [], w) (fun _ w' => kt5 w w') := (kq_196 hd q hAl g_a g_b g_c).imp (fun r w' h => by
  rcases h with rfl | ⟨h0, h2, f⟩
  · exact kt5.refl _
  · exact fun k => f 5 k (fun g => by unfold kBr at g; omega))
theorem kx_199 {d : Nat} (hd : 460 ≤ d) {w : eW} (q : kRel w) (hAl : kAl w) {a : Int} (g_a : (-2147483648 ≤ a ∧ a ≤ 2147483647)) {b : Int} (g_b : (-2147483648 ≤ b ∧ b ≤ 2147483647)) {c : Int} (g_c : (-2147483648 ≤ c ∧ c ≤ 2147483647)) : e_Ok 20 elay kcode eI d 199 (0, [(0, (1, 0)), (1, (0, a)), (2, (0, b)), (3, (0, c))], [], w) (fun _ w' => kt5 w w') := (kq_199 hd q hAl g_a g_b g_c).imp (fun r w' h => by
  rcases h with rfl | ⟨h0, f⟩
  · exact kt5.refl _
  · exact fun k => f 5 k (fun g => by unfold kSd at g; omega))
theorem kx_195 {d : Nat} (hd : 460 ≤ d) {w : eW} (q : kRel w) (hAl : kAl w) {a : Int} (g_a : (-2147483648 ≤ a ∧ a ≤ 2147483647)) {b : Int} (g_b : (-2147483648 ≤ b ∧ b ≤ 2147483647)) {c : Int} (g_c : (-2147483648 ≤ c ∧ c ≤ 2147483647)) {e : Int} (g_e : (-2147483648 ≤ e ∧ e ≤ 2147483647)) : e_Ok 20 elay kcode eI d 195 (0, [(0, (1, 0)), (1, (0, a)), (2, (0, b)), (3, (0, c)), (4, (0, e))], [], w) (fun _ w' => kt5 w w') := (kq_195 hd q hAl g_a g_b g_c g_e).imp (fun r w' h => by
  rcases h with rfl | ⟨h0, h2, f⟩
  · exact kt5.refl _
  · exact fun k => f 5 k (fun g => by unfold kBj at g; omega))
theorem kx_200 {d : Nat} (hd : 460 ≤ d) {w : eW} (q : kRel w) (hAl : kAl w) {a : Int} (g_a : (-2147483648 ≤ a ∧ a ≤ 2147483647)) {b : Int} (g_b : (-2147483648 ≤ b ∧ b ≤ 2147483647)) {c : Int} (g_c : (-2147483648 ≤ c ∧ c ≤ 2147483647)) {e : Int} (g_e : (-2147483648 ≤ e ∧ e ≤ 2147483647)) {g : Int} (g_g : (-2147483648 ≤ g ∧ g ≤ 2147483647)) : e_Ok 20 elay kcode eI d 200 (0, [(0, (1, 0)), (1, (0, a)), (2, (0, b)), (3, (0, c)), (4, (0, e)), (5, (0, g))], [], w) (fun _ w' => kt5 w w') := (kq_200 hd q hAl g_a g_b g_c g_e g_g).imp (fun r w' f => fun k => f 5 k (fun g => by unfold kAb at g; omega))
theorem kx_194 {d : Nat} (hd : 460 ≤ d) {w : eW} (q : kRel w) (hAl : kAl w) {a : Int} (g_a : (-2147483648 ≤ a ∧ a ≤ 2147483647)) {kd : Int} (g_kd : (-2147483648 ≤ kd ∧ kd ≤ 2147483647)) {lo : Int} (g_lo : (-2147483648 ≤ lo ∧ lo ≤ 2147483647)) {hi : Int} (g_hi : (-2147483648 ≤ hi ∧ hi ≤ 2147483647)) {ln : Int} (g_ln : (-2147483648 ≤ ln ∧ ln ≤ 2147483647)) : e_Ok 20 elay kcode eI d 194 (0, [(0, (1, 0)), (1, (0, a)), (2, (0, kd)), (3, (0, lo)), (4, (0, hi)), (5, (0, ln))], [], w) (fun _ w' => kt5 w w') := (kq_194 hd q hAl g_a g_kd g_lo g_hi g_ln).imp (fun r w' h => by
  rcases h with rfl | ⟨h0, f⟩
  · exact kt5.refl _
  · exact fun k => f 5 k (fun g => by unfold kAj at g; omega))
theorem kx_203 {d : Nat} (hd : 460 ≤ d) {w : eW} (q : kRel w) (hAl : kAl w) {a : Int} (g_a : (-2147483648 ≤ a ∧ a ≤ 2147483647)) {b : Int} (g_b : (-2147483648 ≤ b ∧ b ≤ 2147483647)) {c : Int} (g_c : (-2147483648 ≤ c ∧ c ≤ 2147483647)) : e_Ok 20 elay kcode eI d 203 (0, [(0, (1, 0)), (1, (0, a)), (2, (0, b)), (3, (0, c))], [], w) (fun _ w' => kt5 w w') := (kq_203 hd q hAl g_a g_b g_c).imp (fun r w' f => fun k => f 5 k (fun g => by unfold kAp at g; omega))
theorem kx_204 {d : Nat} (hd : 460 ≤ d) {w : eW} (q : kRel w) (hAl : kAl w) {a : Int} (g_a : (-2147483648 ≤ a ∧ a ≤ 2147483647)) {b : Int} (g_b : (-2147483648 ≤ b ∧ b ≤ 2147483647)) {c : Int} (g_c : (-2147483648 ≤ c ∧ c ≤ 2147483647)) : e_Ok 20 elay kcode eI d 204 (0, [(0, (1, 0)), (1, (0, a)), (2, (0, b)), (3, (0, c))], [], w) (fun _ w' => kt5 w w') := (kq_204 hd q hAl g_a g_b g_c).imp (fun r w' f => fun k => f 5 k (fun g => by unfold kAp at g; omega))
theorem kx_209 {d : Nat} (hd : 460 ≤ d) {w : eW} (q : kRel w) (hAl : kAl w) {a : Int} (g_a : (-2147483648 ≤ a ∧ a ≤ 2147483647)) {b : Int} (g_b : (-2147483648 ≤ b ∧ b ≤ 2147483647)) {c : Int} (g_c : (0 ≤ c ∧ c ≤ 1)) : e_Ok 20 elay kcode eI d 209 (0, [(0, (1, 0)), (1, (0, a)), (2, (0, b)), (3, (0, c))], [], w) (fun _ w' => kt5 w w') := (kq_209 hd q hAl g_a g_b g_c).imp (fun r w' f => fun k => f 5 k (fun g => by unfold kCn at g; omega))
theorem kx_193 {d : Nat} (hd : 460 ≤ d) {w : eW} (q : kRel w) (hAl : kAl w) {x : Int} (g_x : (-2147483648 ≤ x ∧ x ≤ 2147483647)) {y : Int} (g_y : (-2147483648 ≤ y ∧ y ≤ 2147483647)) {u : Int} (g_u : (-2147483648 ≤ u ∧ u ≤ 2147483647)) {v : Int} (g_v : (-2147483648 ≤ v ∧ v ≤ 2147483647)) : e_Ok 20 elay kcode eI d 193 (0, [(0, (1, 0)), (1, (0, x)), (2, (0, y)), (3, (0, u)), (4, (0, v))], [], w) (fun _ w' => kt5 w w') := (kq_193 hd q hAl g_x g_y g_u g_v).imp (fun r w' h => by
  have hw0 := e_Has.get q.1 (c := 0) (k := 11) (lo := 0) (hi := 4) rfl (by decide)
  rcases h with rfl | ⟨hn, f, -⟩
  · exact kt5.refl _
  · have hcd := q.hC _ hw0.1 hn
    refine fun k => f 5 k (fun g => ?_)
    unfold kAa kMk at g
    unfold isCd at hcd
    generalize w (17 * w 0 11 + 86) 7 = cd at hcd g
    omega)
theorem kx_210 {d : Nat} (hd : 460 ≤ d) {w : eW} (q : kRel w) (hAl : kAl w) {a : Int} (g_a : (-2147483648 ≤ a ∧ a ≤ 2147483647)) : e_Ok 20 elay kcode eI d 210 (0, [(0, (1, 0)), (1, (0, a))], [], w) (fun _ w' => kt5 w w') := (c_210 (by omega) q.1 q.2.1 q.2.2.1.1 rfl q.2.2.2.1.1 g_a q.hC).imp (fun r w' h => by
  have hcd := q.2.2.2.1.1
  unfold isCd at hcd
  obtain ⟨z, h1, ⟨rfl, h2⟩ | ⟨h0, f, -⟩⟩ := h
  · exact kt5.refl _
  · refine fun k => f 5 k (fun g => ?_)
    unfold kPg kRr at g
    generalize w 1 3 = cd at hcd g
    rcases hcd with rfl | rfl | rfl | rfl | rfl <;> omega)
theorem kx_212 {d : Nat} (hd : 460 ≤ d) {w : eW} (q : kRel w) (hAl : kAl w) : e_Ok 20 elay kcode eI d 212 (0, [(0, (1, 0))], [], w) (fun _ w' => kt5 w w') := by
  obtain ⟨OP, OD, CL, hc⟩ : ∃ OP OD CL : Int → Int → Int, w 0 13 = 0 → cfI w OP OD CL := by
    by_cases g : w 0 13 = 0
    · obtain ⟨OP, OD, CL, h⟩ := (q.2.2.2.2.1 g).cf
      exact ⟨OP, OD, CL, fun _ => h⟩
    · exact ⟨fun _ _ => 0, fun _ _ => 0, fun _ _ => 0, fun h => absurd h g⟩
  refine (c_212 (by omega) q.1 q.2.2.1.1 hc hAl q.p62).imp (fun r w' h => ?_)
  obtain ⟨z, h1, hT, ⟨h0, rfl⟩ | ⟨h0, f, -⟩⟩ := h
  · exact kt5.refl _
  · refine fun k => f 5 k (fun g => ?_)
    rcases g with g | g
    · exact nw_5 g
    · omega
theorem kx_192 {d : Nat} (hd : 460 ≤ d) {w : eW} (q : kRel w) (hAl : kAl w) : e_Ok 20 elay kcode eI d 192 (0, [(0, (1, 0))], [], w) (fun _ w' => kt5 w w') := (c_192 (by omega) q.1 q.hC q.2.2.2.1.1 (fun a g1 g2 => (q.2.2.2.1.2.1 a g1 g2).2) q.2.2.2.1.2.2).imp (fun r w' h => by
  obtain ⟨z, h1, f, -⟩ := h
  refine fun k => f 5 k (fun g => ?_)
  unfold kCL at g
  rcases g with g | g | g | g | g | g | g | g | g | g | g | g
  · exact nw_5 g
  all_goals omega)
theorem kx_191 {d : Nat} (hd : 460 ≤ d) {w : eW} (q : kRel w) (hAl : kAl w) {a : Int} (g_a : (-2147483648 ≤ a ∧ a ≤ 2147483647)) : e_Ok 20 elay kcode eI d 191 (0, [(0, (1, 0)), (1, (0, a))], [], w) (fun _ w' => kt5 w w') := by
  have hl := e_Has.get q.2.1 (c := 1) (k := 0) (lo := 0) (hi := 4000) rfl (by decide)
  refine (e_Ok.andP (by exact (show ([0, 1] : List Nat).Nodup by decide)) (c_191 (by omega) q.1 g_a rfl hl) (fun n9 => l_191 (n := n9) (a := a) (e_Has.eq q.1 (c := 0) (k := 0) (v := 1) rfl))).imp (fun r w' h => ?_)
  obtain ⟨-, z, -, h⟩ := h
  exact h
end
