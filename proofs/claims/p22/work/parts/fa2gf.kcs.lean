noncomputable section
/-! the class: what each call leaves of what was told -/
def kCf (c k : Int) : Prop := (c = 0 ∧ k = 11) ∨ (c = 19 ∧ (k = 0 ∨ k = 1)) ∨ (20 ≤ c ∧ c ≤ 29) ∨ (c = 74 ∧ k = 2) ∨ (c = 76 ∨ c = 77) ∨ (c = 250 ∧ (k = 0 ∨ k = 1)) ∨ (251 ≤ c ∧ c ≤ 261) ∨ ((c = 86 ∨ c = 103 ∨ c = 120 ∨ c = 137) ∧ k = 8) ∨ (c = 92 ∨ c = 109 ∨ c = 126 ∨ c = 143) ∨ (((97 ≤ c ∧ c ≤ 102) ∨ (114 ≤ c ∧ c ≤ 119) ∨ (131 ≤ c ∧ c ≤ 136) ∨ (148 ≤ c ∧ c ≤ 153)) ∧ 0 ≤ k ∧ k ≤ 6) ∨ c = 15 ∨ c = 17
def kcs (w w' : eW) : Prop := ∀ c k, kCf c k → w' c k = w c k
theorem kcs.refl (w : eW) : kcs w w := fun _ _ _ => rfl
theorem cf_nw {c k : Int} (h : kCf c k) : ¬ kNw c k := fun g => by
  unfold kCf at h
  unfold kNw at g
  rcases g with g | g | g | g | g | g | g | g | g | g | g | g | g | g | g | g | g <;> omega
theorem cf_lo {c k : Int} (h : kCf c k) : c ≠ 273 ∧ c ≠ 272 ∧ (c = 0 → k = 11) ∧ ¬ (262 ≤ c ∧ c ≤ 271) ∧ c ≠ 1 ∧ ¬ (2 ≤ c ∧ c ≤ 7) ∧ ((c = 86 ∨ c = 103 ∨ c = 120 ∨ c = 137) → k = 8) := by
  unfold kCf at h
  omega
theorem opK.cs {w w' : eW} (h : opK w w') : kcs w w' := by
  rcases h with rfl | ⟨h1, f, hB⟩
  · exact kcs.refl _
  · refine fun c k q => f c k (fun g => ?_)
    have z := cf_lo q
    rcases g with g | g | g
    · exact cf_nw q g
    · omega
    · omega
theorem opB.cs {w w' : eW} (h : opB w w') : kcs w w' := by
  rcases h with rfl | ⟨h1, f, h14, hB⟩
  · exact kcs.refl _
  · refine fun c k q => f c k (fun g => ?_)
    have z := cf_lo q
    rcases g with g | g
    · exact cf_nw q g
    · omega
theorem opP.cs {w w' : eW} (h : opP w w') : kcs w w' := by
  rcases h with rfl | ⟨h1, f, hB⟩
  · exact kcs.refl _
  · refine fun c k q => f c k (fun g => ?_)
    have z := cf_lo q
    rcases g with (g | g | g) | g
    · exact cf_nw q g
    · omega
    · omega
    · omega
theorem kq_197 {d : Nat} (hd : 460 ≤ d) {w : eW} (q : kRel w) (hAl : kAl w) {a : Int} (g_a : (-2147483648 ≤ a ∧ a ≤ 2147483647)) {b : Int} (g_b : (-2147483648 ≤ b ∧ b ≤ 2147483647)) {c : Int} (g_c : (-2147483648 ≤ c ∧ c ≤ 2147483647)) : e_Ok 20 elay kcode eI d 197 (0, [(0, (1, 0)), (1, (0, a)), (2, (0, b)), (3, (0, c))], [], w) (fun _ w' => e_fr kAs w w') := (c_197 (by omega) q.1 q.2.2.1.1 g_a g_b g_c).imp (fun r w' h => by
  obtain ⟨z, h1, hT, h2⟩ := h
  rcases h2 with rfl | ⟨h0, f⟩
  · exact e_fr.refl _
  · exact f)
theorem kq_198 {d : Nat} (hd : 460 ≤ d) {w : eW} (q : kRel w) (hAl : kAl w) {a : Int} (g_a : (-2147483648 ≤ a ∧ a ≤ 2147483647)) {b : Int} (g_b : (-2147483648 ≤ b ∧ b ≤ 2147483647)) {c : Int} (g_c : (-2147483648 ≤ c ∧ c ≤ 2147483647)) {e : Int} (g_e : (-2147483648 ≤ e ∧ e ≤ 2147483647)) : e_Ok 20 elay kcode eI d 198 (0, [(0, (1, 0)), (1, (0, a)), (2, (0, b)), (3, (0, c)), (4, (0, e))], [], w) (fun _ w' => e_fr kAs w w') := (c_198 (by omega) q.1 q.2.2.1.1 g_a g_b g_c g_e).imp (fun r w' h => by
  obtain ⟨z, h1, hT, h2⟩ := h
  rcases h2 with rfl | ⟨h0, f⟩
  · exact e_fr.refl _
  · exact f)
theorem kq_205 {d : Nat} (hd : 460 ≤ d) {w : eW} (q : kRel w) (hAl : kAl w) {a : Int} (g_a : (-2147483648 ≤ a ∧ a ≤ 2147483647)) {b : Int} (g_b : (-2147483648 ≤ b ∧ b ≤ 2147483647)) {c : Int} (g_c : (-2147483648 ≤ c ∧ c ≤ 2147483647)) {e : Int} (g_e : (-2147483648 ≤ e ∧ e ≤ 2147483647)) {g : Int} (g_g : (-2147483648 ≤ g ∧ g ≤ 2147483647)) : e_Ok 20 elay kcode eI d 205 (0, [(0, (1, 0)), (1, (0, a)), (2, (0, b)), (3, (0, c)), (4, (0, e)), (5, (0, g))], [], w) (fun _ w' => e_fr kAs w w') := (c_205 (by omega) q.1 q.2.2.1.1 g_a g_b g_c g_e g_g).imp (fun r w' h => by
  obtain ⟨z, h1, hT, h2⟩ := h
  rcases h2 with rfl | ⟨h0, f⟩
  · exact e_fr.refl _
  · exact f)
theorem kq_201 {d : Nat} (hd : 460 ≤ d) {w : eW} (q : kRel w) (hAl : kAl w) {a : Int} (g_a : (-2147483648 ≤ a ∧ a ≤ 2147483647)) {b : Int} (g_b : (-2147483648 ≤ b ∧ b ≤ 2147483647)) : e_Ok 20 elay kcode eI d 201 (0, [(0, (1, 0)), (1, (0, a)), (2, (0, b))], [], w) (fun _ w' => e_fr kBd w w') := (c_201 (by omega) q.1 q.2.2.1.1 g_a g_b).imp (fun r w' h => by
  obtain ⟨z, h1, hT, h2⟩ := h
  rcases h2 with rfl | ⟨h0, f⟩
  · exact e_fr.refl _
  · exact f)
theorem kq_202 {d : Nat} (hd : 460 ≤ d) {w : eW} (q : kRel w) (hAl : kAl w) {a : Int} (g_a : (-2147483648 ≤ a ∧ a ≤ 2147483647)) {b : Int} (g_b : (-2147483648 ≤ b ∧ b ≤ 2147483647)) {c : Int} (g_c : (-2147483648 ≤ c ∧ c ≤ 2147483647)) {e : Int} (g_e : (-2147483648 ≤ e ∧ e ≤ 2147483647)) : e_Ok 20 elay kcode eI d 202 (0, [(0, (1, 0)), (1, (0, a)), (2, (0, b)), (3, (0, c)), (4, (0, e))], [], w) (fun _ w' => e_fr kBs w w') := (c_202 (by omega) q.1 q.2.2.1.1 g_a g_b g_c g_e).imp (fun r w' h => by
  obtain ⟨z, h1, hT, h2⟩ := h
  rcases h2 with rfl | ⟨h0, f⟩
  · exact e_fr.refl _
  · exact f)
theorem kq_206 {d : Nat} (hd : 460 ≤ d) {w : eW} (q : kRel w) (hAl : kAl w) {a : Int} (g_a : (-2147483648 ≤ a ∧ a ≤ 2147483647)) {b : Int} (g_b : (-2147483648 ≤ b ∧ b ≤ 2147483647)) : e_Ok 20 elay kcode eI d 206 (0, [(0, (1, 0)), (1, (0, a)), (2, (0, b))], [], w) (fun _ w' => e_fr kBm0 w w') := (c_206 (by omega) q.1 q.2.2.1.1 g_a g_b).imp (fun r w' h => by
  obtain ⟨z, h1, hT, h2⟩ := h
  rcases h2 with rfl | ⟨h0, f⟩
  · exact e_fr.refl _
  · exact f)
theorem kq_207 {d : Nat} (hd : 460 ≤ d) {w : eW} (q : kRel w) (hAl : kAl w) {a : Int} (g_a : (-2147483648 ≤ a ∧ a ≤ 2147483647)) : e_Ok 20 elay kcode eI d 207 (0, [(0, (1, 0)), (1, (0, a))], [], w) (fun _ w' => e_fr kBi w w') := (c_207 (by omega) q.1 q.2.2.1.1 g_a).imp (fun r w' h => by
  obtain ⟨z, h1, hT, h2⟩ := h
  rcases h2 with rfl | ⟨h0, f⟩
  · exact e_fr.refl _
  · exact f)
theorem kq_208 {d : Nat} (hd : 460 ≤ d) {w : eW} (q : kRel w) (hAl : kAl w) {a : Int} (g_a : (-2147483648 ≤ a ∧ a ≤ 2147483647)) {b : Int} (g_b : (0 ≤ b ∧ b ≤ 1)) : e_Ok 20 elay kcode eI d 208 (0, [(0, (1, 0)), (1, (0, a)), (2, (0, b))], [], w) (fun _ w' => e_fr kBp w w') := (c_208 (by omega) q.1 q.2.2.1.1 g_a g_b).imp (fun r w' h => by
  obtain ⟨z, h1, hT, h2⟩ := h
  rcases h2 with rfl | ⟨h0, f⟩
  · exact e_fr.refl _
  · exact f)
theorem kq_196 {d : Nat} (hd : 460 ≤ d) {w : eW} (q : kRel w) (hAl : kAl w) {a : Int} (g_a : (-2147483648 ≤ a ∧ a ≤ 2147483647)) {b : Int} (g_b : (-2147483648 ≤ b ∧ b ≤ 2147483647)) {c : Int} (g_c : (-2147483648 ≤ c ∧ c ≤ 2147483647)) : e_Ok 20 elay kcode eI d 196 (0, [(0, (1, 0)), (1, (0, a)), (2, (0, b)), (3, (0, c))], [], w) (fun _ w' => (w' = w ∨ ((0 ≤ a ∧ a ≤ 3) ∧ (0 ≤ b ∧ b ≤ 5) ∧ e_fr (kBr a b) w w'))) := (c_196_r (by omega) q.1 q.2.2.1.1 g_a g_b g_c).imp (fun r w' h => by
  have hw0 := e_Has.get q.1 (c := 0) (k := 11) (lo := 0) (hi := 4) rfl (by decide)
  obtain ⟨z, h1, hT, h2⟩ := h
  rcases h2 with rfl | ⟨h0, f, ⟨x1, x2⟩, ⟨x3, x4⟩⟩
  · exact Or.inl rfl
  · have hjn := kn_joints q.1 (a := a) (by omega)
    exact Or.inr ⟨by omega, by omega, f⟩)
theorem kq_199 {d : Nat} (hd : 460 ≤ d) {w : eW} (q : kRel w) (hAl : kAl w) {a : Int} (g_a : (-2147483648 ≤ a ∧ a ≤ 2147483647)) {b : Int} (g_b : (-2147483648 ≤ b ∧ b ≤ 2147483647)) {c : Int} (g_c : (-2147483648 ≤ c ∧ c ≤ 2147483647)) : e_Ok 20 elay kcode eI d 199 (0, [(0, (1, 0)), (1, (0, a)), (2, (0, b)), (3, (0, c))], [], w) (fun _ w' => (w' = w ∨ ((0 ≤ a ∧ a ≤ 3) ∧ e_fr (kSd a) w w'))) := (c_199_r (by omega) q.1 q.2.2.1.1 g_a g_b g_c).imp (fun r w' h => by
  have hw0 := e_Has.get q.1 (c := 0) (k := 11) (lo := 0) (hi := 4) rfl (by decide)
  obtain ⟨z, h1, hT, h2⟩ := h
  rcases h2 with rfl | ⟨h0, f, ⟨x1, x2⟩⟩
  · exact Or.inl rfl
  · exact Or.inr ⟨by omega, f⟩)
theorem kq_195 {d : Nat} (hd : 460 ≤ d) {w : eW} (q : kRel w) (hAl : kAl w) {a : Int} (g_a : (-2147483648 ≤ a ∧ a ≤ 2147483647)) {b : Int} (g_b : (-2147483648 ≤ b ∧ b ≤ 2147483647)) {c : Int} (g_c : (-2147483648 ≤ c ∧ c ≤ 2147483647)) {e : Int} (g_e : (-2147483648 ≤ e ∧ e ≤ 2147483647)) : e_Ok 20 elay kcode eI d 195 (0, [(0, (1, 0)), (1, (0, a)), (2, (0, b)), (3, (0, c)), (4, (0, e))], [], w) (fun _ w' => (w' = w ∨ ((0 ≤ a ∧ a ≤ 3) ∧ (0 ≤ b ∧ b ≤ 5) ∧ e_fr (kBj a b) w w'))) := (c_195 (by omega) q.1 q.2.2.1.1 g_a g_b g_c g_e).imp (fun r w' h => by
  have hw0 := e_Has.get q.1 (c := 0) (k := 11) (lo := 0) (hi := 4) rfl (by decide)
  obtain ⟨z, h1, hT, h2⟩ := h
  rcases h2 with rfl | ⟨h0, f, ⟨⟨x1, x2⟩, ⟨x3, x4⟩, -⟩, -⟩
  · exact Or.inl rfl
  · have hjn := kn_joints q.1 (a := a) (by omega)
    exact Or.inr ⟨by omega, by omega, f⟩)
theorem kq_200 {d : Nat} (hd : 460 ≤ d) {w : eW} (q : kRel w) (hAl : kAl w) {a : Int} (g_a : (-2147483648 ≤ a ∧ a ≤ 2147483647)) {b : Int} (g_b : (-2147483648 ≤ b ∧ b ≤ 2147483647)) {c : Int} (g_c : (-2147483648 ≤ c ∧ c ≤ 2147483647)) {e : Int} (g_e : (-2147483648 ≤ e ∧ e ≤ 2147483647)) {g : Int} (g_g : (-2147483648 ≤ g ∧ g ≤ 2147483647)) : e_Ok 20 elay kcode eI d 200 (0, [(0, (1, 0)), (1, (0, a)), (2, (0, b)), (3, (0, c)), (4, (0, e)), (5, (0, g))], [], w) (fun _ w' => e_fr kAb w w') := (c_200 (by omega) q.1 q.2.2.1.1 g_a g_b g_c g_e g_g).imp (fun r w' h => by
  obtain ⟨z, h1, hT, h2⟩ := h
  rcases h2 with rfl | ⟨h0, f, -⟩
  · exact e_fr.refl _
  · exact f)
theorem kq_194 {d : Nat} (hd : 460 ≤ d) {w : eW} (q : kRel w) (hAl : kAl w) {a : Int} (g_a : (-2147483648 ≤ a ∧ a ≤ 2147483647)) {kd : Int} (g_kd : (-2147483648 ≤ kd ∧ kd ≤ 2147483647)) {lo : Int} (g_lo : (-2147483648 ≤ lo ∧ lo ≤ 2147483647)) {hi : Int} (g_hi : (-2147483648 ≤ hi ∧ hi ≤ 2147483647)) {ln : Int} (g_ln : (-2147483648 ≤ ln ∧ ln ≤ 2147483647)) : e_Ok 20 elay kcode eI d 194 (0, [(0, (1, 0)), (1, (0, a)), (2, (0, kd)), (3, (0, lo)), (4, (0, hi)), (5, (0, ln))], [], w) (fun _ w' => (w' = w ∨ ((0 ≤ a ∧ a ≤ 3) ∧ e_fr (kAj a) w w'))) := (c_194 (by omega) q.1 q.2.2.1.1 q.ak g_a g_kd g_lo g_hi g_ln).imp (fun r w' h => by
  have hw0 := e_Has.get q.1 (c := 0) (k := 11) (lo := 0) (hi := 4) rfl (by decide)
  obtain ⟨z, h1, hT, h2⟩ := h
  rcases h2 with rfl | ⟨h0, f, ⟨⟨x1, x2⟩, -⟩, -⟩
  · exact Or.inl rfl
  · exact Or.inr ⟨by omega, f⟩)
theorem kq_203 {d : Nat} (hd : 460 ≤ d) {w : eW} (q : kRel w) (hAl : kAl w) {a : Int} (g_a : (-2147483648 ≤ a ∧ a ≤ 2147483647)) {b : Int} (g_b : (-2147483648 ≤ b ∧ b ≤ 2147483647)) {c : Int} (g_c : (-2147483648 ≤ c ∧ c ≤ 2147483647)) : e_Ok 20 elay kcode eI d 203 (0, [(0, (1, 0)), (1, (0, a)), (2, (0, b)), (3, (0, c))], [], w) (fun _ w' => e_fr kAp w w') := (c_203 (by omega) q.1 q.2.2.1.1 (fun h => (q.2.2.2.2.1 h).2.2.2.1.2) g_a g_b g_c).imp (fun r w' h => by
  obtain ⟨z, h1, hT, h2⟩ := h
  rcases h2 with rfl | ⟨h0, f, -⟩
  · exact e_fr.refl _
  · exact f)
theorem kq_204 {d : Nat} (hd : 460 ≤ d) {w : eW} (q : kRel w) (hAl : kAl w) {a : Int} (g_a : (-2147483648 ≤ a ∧ a ≤ 2147483647)) {b : Int} (g_b : (-2147483648 ≤ b ∧ b ≤ 2147483647)) {c : Int} (g_c : (-2147483648 ≤ c ∧ c ≤ 2147483647)) : e_Ok 20 elay kcode eI d 204 (0, [(0, (1, 0)), (1, (0, a)), (2, (0, b)), (3, (0, c))], [], w) (fun _ w' => e_fr kAp w w') := (c_204 (by omega) q.1 q.2.2.1.1 (fun h => (q.2.2.2.2.1 h).2.2.2.1.2) g_a g_b g_c).imp (fun r w' h => by
  obtain ⟨z, h1, hT, h2⟩ := h
  rcases h2 with rfl | ⟨h0, f, -⟩
  · exact e_fr.refl _
  · exact f)
theorem kq_209 {d : Nat} (hd : 460 ≤ d) {w : eW} (q : kRel w) (hAl : kAl w) {a : Int} (g_a : (-2147483648 ≤ a ∧ a ≤ 2147483647)) {b : Int} (g_b : (-2147483648 ≤ b ∧ b ≤ 2147483647)) {c : Int} (g_c : (0 ≤ c ∧ c ≤ 1)) : e_Ok 20 elay kcode eI d 209 (0, [(0, (1, 0)), (1, (0, a)), (2, (0, b)), (3, (0, c))], [], w) (fun _ w' => e_fr kCn w w') := (c_209 (by omega) q.1 q.2.2.1.1 (fun h => (q.2.2.2.2.1 h).2.2.1.2.2) g_a g_b g_c).imp (fun r w' h => by
  obtain ⟨z, h1, hT, h2⟩ := h
  rcases h2 with rfl | ⟨h0, f, -⟩
  · exact e_fr.refl _
  · exact f)
theorem kq_193 {d : Nat} (hd : 460 ≤ d) {w : eW} (q : kRel w) (hAl : kAl w) {x : Int} (g_x : (-2147483648 ≤ x ∧ x ≤ 2147483647)) {y : Int} (g_y : (-2147483648 ≤ y ∧ y ≤ 2147483647)) {u : Int} (g_u : (-2147483648 ≤ u ∧ u ≤ 2147483647)) {v : Int} (g_v : (-2147483648 ≤ v ∧ v ≤ 2147483647)) : e_Ok 20 elay kcode eI d 193 (0, [(0, (1, 0)), (1, (0, x)), (2, (0, y)), (3, (0, u)), (4, (0, v))], [], w) (fun _ w' => ((w' = w) ∨ (w 0 11 ≤ 3 ∧ e_fr (kAa (w 0 11) (w (17 * w 0 11 + 86) 7)) w w' ∧ w' 0 11 = w 0 11 + 1 ∧ w' (17 * w 0 11 + 86) 8 = 0))) := by
  have hw0 := e_Has.get q.1 (c := 0) (k := 11) (lo := 0) (hi := 4) rfl (by decide)
  by_cases hn : w 0 11 ≤ 3
  · refine (c_193 (e_dq0 hd rfl) (n := w 0 11) (cd := w (17 * w 0 11 + 86) 7) q.1 q.2.2.1.1 rfl hn rfl (q.hC _ hw0.1 hn) g_x g_y g_u g_v).imp (fun r w' h => ?_)
    obtain ⟨z, h1, hT, h2⟩ := h
    rcases h2 with ⟨rfl, h2⟩ | ⟨h0, f, X0, X1, X2, -⟩
    · exact Or.inl rfl
    · exact Or.inr ⟨hn, f, X1, X2⟩
  · refine (c_193_4 (e_dq0 hd rfl) q.1 q.2.2.1.1 (by omega) g_x g_y g_u g_v).imp (fun r w' h => ?_)
    obtain ⟨z, h1, rfl⟩ := h
    exact Or.inl rfl
end
