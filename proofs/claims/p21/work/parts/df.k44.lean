noncomputable section
/-! the class: calls that only look; the tape -/
def kTp (c k : Int) : Prop := (c = 1 ∧ k = 0) ∨ c = 5
/-- what the calls that only look ask -/
def lkK (w : eW) : Prop := e_Has kTy w ∧ (∀ c k, 0 ≤ c → c ≤ 274 → kn1 (w c k)) ∧ (∀ a, 0 ≤ a → a ≤ 3 → isCd (w (17 * a + 86) 7)) ∧ (∀ a, 0 ≤ a → a ≤ 3 → 0 ≤ w (17 * a + 86) 17 → yD w (w (17 * a + 86) 8) (w (17 * a + 86) 17)) ∧ (∀ a, 0 ≤ a → a ≤ 3 → aK w a) ∧ fK w
theorem ke_arm_hd {x a b : Int} {t : Nat} {r : List (Int × Int × Nat)} (h : a ≤ x ∧ x ≤ b) : e_arm x ((a, b, t) :: r) = some t := by
  unfold e_arm
  rw [decide_eq_true h.1, decide_eq_true h.2]
  rfl
theorem ke_arm_tl {x a b : Int} {t : Nat} {r : List (Int × Int × Nat)} (h : x < a ∨ b < x) : e_arm x ((a, b, t) :: r) = e_arm x r := by
  rw [e_arm]
  have : (decide (a ≤ x) && decide (x ≤ b)) = false := by
    rcases h with h | h
    · rw [decide_eq_false (by omega : ¬ a ≤ x)]; rfl
    · rw [decide_eq_false (by omega : ¬ x ≤ b), Bool.and_false]
  simp only [this, cond_false]
theorem c_96_a {d : Nat} (hd : 22 ≤ d) {w : eW} (hT : e_Has kTy w) {y j : Int} (g_y : (-1) ≤ y ∧ y ≤ 59) (g_j : (-2147483648) ≤ j ∧ j ≤ 2147483647) {m : Int} (hy : 0 ≤ y → yD w m y) (hm : m ≤ 6) : e_Ok 20 elay kcode eI d 96 (0, [(0, (1, 262)), (1, (0, y)), (2, (0, j))], [], w) (fun r w' => ∃ z : Int, r = [(0, z)] ∧ w = w' ∧ ((-2147483648) ≤ z ∧ z ≤ 2147483647)) := by
  obtain ⟨d, rfl⟩ : ∃ e, d = e + 1 := ⟨d - 1, by omega⟩
  refine e_Ok.run (t' := (4, [(0, (1, 262)), (1, (0, y)), (2, (0, j))], [(0, y), (1, 262), (0, 0), (0, j)], w)) 4 rfl ?_
  refine e_Ok.callV rfl (by omega) rfl rfl rfl rfl (c_95 (by omega) hT (by omega) hy) (fun r1 w2 h3 => ?_)
  obtain ⟨z5, rfl, rfl, q4r, q4x⟩ := h3
  show e_Ok 20 elay kcode eI (d + 1) 96 (7, [(0, (1, 262)), (1, (0, y)), (2, (0, j))], [(0, z5), (0, 0), (0, j)], w) _
  refine e_Ok.run (t' := (8, [(0, (1, 262)), (1, (0, y)), (2, (0, j))], [(0, 1), (0, z5), (0, 0), (0, j)], w)) 1 rfl ?_
  refine e_Ok.sub' (z := z5 - 1) rfl (by omega) (by omega) ?_
  refine e_Ok.callS rfl (by omega) rfl rfl (c_242 (by omega) (by omega) (by omega)) (fun r6 w7 h8 => ?_)
  obtain ⟨z9, rfl, rfl, q10⟩ := h8
  obtain ⟨rfl, q10⟩ | ⟨rfl, q10⟩ := q10
  · show e_Ok 20 elay kcode eI (d + 1) 96 (12, [(0, (1, 262)), (1, (0, y)), (2, (0, j))], [(0, 1)], w) _
    refine e_Ok.if1 rfl (fun h11 => ?_) (fun h11 => ?_)
    · replace h11 : (1 : Int) = 0 := h11
      exfalso; omega
    · replace h11 : (1 : Int) ≠ 0 := by have q : ¬ ((1 : Int) = 0) := h11; omega
      have hq := (hy (by omega)).2.2 j (by omega) (by omega)
      have hy1 := (hy (by omega)).1
      refine e_Ok.run (t' := (16, [(0, (1, 262)), (1, (0, y)), (2, (0, j))], [(1, 262)], w)) 1 rfl ?_
      refine e_Ok.getr (z := 269) rfl (el_o rfl) rfl rfl (Eq.trans (e_Has.eq hT rfl) (by omega)) (by omega) ?_
      refine e_Ok.run (t' := (23, [(0, (1, 262)), (1, (0, y)), (2, (0, j))], [(0, 1000), (0, y), (1, 269)], w)) 2 rfl ?_
      refine e_Ok.mul (z := 1000 * y) rfl (by omega) (by omega) ?_
      refine e_Ok.run (t' := (25, [(0, (1, 262)), (1, (0, y)), (2, (0, j))], [(0, j), (0, 1000 * y), (1, 269)], w)) 1 rfl ?_
      refine e_Ok.add (z := 1000 * y + j) rfl (by omega) (by omega) ?_
      refine e_Ok.ald (z := w 269 (1000 * y + j)) rfl (el_o rfl) rfl (by omega) rfl (by omega) ?_
      refine e_Ok.run (t' := (31, [(0, (1, 262)), (1, (0, y)), (2, (0, j))], [(0, w 269 (1000 * y + j))], w)) 1 rfl ?_
      refine e_Ok.rets rfl rfl ?_
      exact ⟨_, rfl, rfl, ⟨by omega, by omega⟩⟩
  · show e_Ok 20 elay kcode eI (d + 1) 96 (12, [(0, (1, 262)), (1, (0, y)), (2, (0, j))], [(0, 0)], w) _
    refine e_Ok.if1 rfl (fun h12 => ?_) (fun h12 => ?_)
    · replace h12 : (0 : Int) = 0 := h12
      refine e_Ok.run (t' := (31, [(0, (1, 262)), (1, (0, y)), (2, (0, j))], [(0, (-1))], w)) 1 rfl ?_
      refine e_Ok.rets rfl rfl ?_
      exact ⟨_, rfl, rfl, ⟨by omega, by omega⟩⟩
    · replace h12 : (0 : Int) ≠ 0 := by have q : ¬ ((0 : Int) = 0) := h12; omega
      exfalso; omega
theorem c_226 {d : Nat} (hd : 25 ≤ d) {w : eW} (hl : lkK w) : e_Ok 20 elay kcode eI d 226 (0, [(0, (1, 0))], [], w) (fun r w' => ∃ z : Int, r = [(0, z)] ∧ w = w') := by
  obtain ⟨hT, hAll, hC, hW, ka, hF⟩ := hl
  have hw0 := e_Has.get hT (c := 0) (k := 11) (lo := 0) (hi := 4) rfl (by decide)
  refine e_Ok.run (t' := (1, [(0, (1, 0))], [(1, 0)], w)) 1 rfl ?_
  refine e_Ok.getr (z := 74) rfl (el_o rfl) rfl rfl (Eq.trans (e_Has.eq hT rfl) (by omega)) (by omega) ?_
  have h1 := (e_Has.get hT (c := 74) (k := 0) (lo := 0) (hi := 6000) rfl (by decide))
  refine e_Ok.getf (z := w 74 0) rfl (el_o rfl) rfl rfl rfl (by omega) ?_
  refine e_Ok.rets rfl rfl ?_
  exact ⟨_, rfl, rfl⟩
theorem c_227 {d : Nat} (hd : 25 ≤ d) {w : eW} (hl : lkK w) {a : Int} (g_a : (-2147483648) ≤ a ∧ a ≤ 2147483647) {b : Int} (g_b : (-2147483648) ≤ b ∧ b ≤ 2147483647) : e_Ok 20 elay kcode eI d 227 (0, [(0, (1, 0)), (1, (0, a)), (2, (0, b))], [], w) (fun r w' => ∃ z : Int, r = [(0, z)] ∧ w = w') := by
  obtain ⟨d, rfl⟩ : ∃ e, d = e + 1 := ⟨d - 1, by omega⟩
  obtain ⟨hT, hAll, hC, hW, ka, hF⟩ := hl
  have hw0 := e_Has.get hT (c := 0) (k := 11) (lo := 0) (hi := 4) rfl (by decide)
  refine e_Ok.run (t' := (2, [(0, (1, 0)), (1, (0, a)), (2, (0, b))], [(0, a), (1, 0)], w)) 2 rfl ?_
  refine e_Ok.callV rfl (by omega) rfl rfl rfl rfl (c_246 (by omega) hT (by omega)) (fun r1 w2 h3 => ?_)
  obtain ⟨z4, rfl, rfl, q5⟩ := h3
  obtain ⟨rfl, q5⟩ | ⟨rfl, q5⟩ := q5
  · show e_Ok 20 elay kcode eI (d + 1) 227 (5, [(0, (1, 0)), (1, (0, a)), (2, (0, b))], [(0, 1)], w) _
    refine e_Ok.if1 rfl (fun h6 => ?_) (fun h6 => ?_)
    · replace h6 : (1 : Int) ≠ 0 := h6
      refine e_Ok.run (t' := (11, [(0, (1, 0)), (1, (0, a)), (2, (0, b))], [(1, 0)], w)) 1 rfl ?_
      refine e_Ok.getr (z := 9) rfl (el_o rfl) rfl rfl (Eq.trans (e_Has.eq hT rfl) (by omega)) (by omega) ?_
      refine e_Ok.run (t' := (15, [(0, (1, 0)), (1, (0, a)), (2, (0, b))], [(0, a), (1, 9)], w)) 1 rfl ?_
      refine e_Ok.aald (z := 17 * a + 86) rfl (el_o rfl) rfl (by omega) (Eq.trans (e_Has.eq hT (k9 (by omega))) (by omega)) (by omega) ?_
      refine e_Ok.run (t' := (17, [(3, (1, 17 * a + 86)), (0, (1, 0)), (1, (0, a)), (2, (0, b))], [], w)) 1 rfl ?_
      have hcd := hC a (by omega) (by omega)
      have hcd2 := hcd; unfold isCd at hcd2
      refine e_Ok.run (t' := (18, [(3, (1, 17 * a + 86)), (0, (1, 0)), (1, (0, a)), (2, (0, b))], [(0, b)], w)) 1 rfl ?_
      obtain h7 | h7 | h7 | h7 | h7 | h7 | h7 | h7 | h7 | h7 : (b : Int) < 0 ∨ (b : Int) = 0 ∨ (b : Int) = 1 ∨ (b : Int) = 2 ∨ (b : Int) = 3 ∨ (b : Int) = 4 ∨ (b : Int) = 5 ∨ (b : Int) = 6 ∨ (b : Int) = 7 ∨ 7 < (b : Int) := by omega
      · refine e_Ok.swk (tg := 141) rfl (ke_arm_hd (by omega)) ?_
        refine e_Ok.run (t' := (142, [(3, (1, 17 * a + 86)), (0, (1, 0)), (1, (0, a)), (2, (0, b))], [(0, (-1))], w)) 1 rfl ?_
        refine e_Ok.rets rfl rfl ?_
        exact ⟨_, rfl, rfl⟩
      · refine e_Ok.swk (tg := 64) rfl (by rw [ke_arm_tl (by omega)]; exact ke_arm_hd (by omega)) ?_
        refine e_Ok.run (t' := (65, [(3, (1, 17 * a + 86)), (0, (1, 0)), (1, (0, a)), (2, (0, b))], [(1, 17 * a + 86)], w)) 1 rfl ?_
        have h8 := (e_Has.get hT (c := 17 * a + 86) (k := 11) (lo := 0) (hi := 2) (kA_11 (a := a) (by omega) (by omega)) (by decide))
        refine e_Ok.getf (z := w (17 * a + 86) 11) rfl (lA0 (a := a) (by omega) (by omega)) rfl rfl rfl (by omega) ?_
        refine e_Ok.rets rfl rfl ?_
        exact ⟨_, rfl, rfl⟩
      · refine e_Ok.swk (tg := 69) rfl (by rw [ke_arm_tl (by omega), ke_arm_tl (by omega)]; exact ke_arm_hd (by omega)) ?_
        refine e_Ok.run (t' := (70, [(3, (1, 17 * a + 86)), (0, (1, 0)), (1, (0, a)), (2, (0, b))], [(1, 17 * a + 86)], w)) 1 rfl ?_
        have h9 := (e_Has.get hT (c := 17 * a + 86) (k := 8) (lo := 0) (hi := 6) (kA_8 (a := a) (by omega) (by omega)) (by decide))
        refine e_Ok.getf (z := w (17 * a + 86) 8) rfl (lA0 (a := a) (by omega) (by omega)) rfl rfl rfl (by omega) ?_
        refine e_Ok.rets rfl rfl ?_
        exact ⟨_, rfl, rfl⟩
      · refine e_Ok.swk (tg := 74) rfl (by rw [ke_arm_tl (by omega), ke_arm_tl (by omega), ke_arm_tl (by omega)]; exact ke_arm_hd (by omega)) ?_
        refine e_Ok.run (t' := (75, [(3, (1, 17 * a + 86)), (0, (1, 0)), (1, (0, a)), (2, (0, b))], [(1, 17 * a + 86)], w)) 1 rfl ?_
        have h10 := (e_Has.get hT (c := 17 * a + 86) (k := 14) (lo := (-1)) (hi := 31) (kA_14 (a := a) (by omega) (by omega)) (by decide))
        refine e_Ok.getf (z := w (17 * a + 86) 14) rfl (lA0 (a := a) (by omega) (by omega)) rfl rfl rfl (by omega) ?_
        refine e_Ok.rets rfl rfl ?_
        exact ⟨_, rfl, rfl⟩
      · refine e_Ok.swk (tg := 79) rfl (by rw [ke_arm_tl (by omega), ke_arm_tl (by omega), ke_arm_tl (by omega), ke_arm_tl (by omega)]; exact ke_arm_hd (by omega)) ?_
        refine e_Ok.run (t' := (80, [(3, (1, 17 * a + 86)), (0, (1, 0)), (1, (0, a)), (2, (0, b))], [(1, 17 * a + 86)], w)) 1 rfl ?_
        have h11 := (e_Has.get hT (c := 17 * a + 86) (k := 16) (lo := (-1)) (hi := 15) (kA_16 (a := a) (by omega) (by omega)) (by decide))
        refine e_Ok.getf (z := w (17 * a + 86) 16) rfl (lA0 (a := a) (by omega) (by omega)) rfl rfl rfl (by omega) ?_
        refine e_Ok.rets rfl rfl ?_
        exact ⟨_, rfl, rfl⟩
      · refine e_Ok.swk (tg := 84) rfl (by rw [ke_arm_tl (by omega), ke_arm_tl (by omega), ke_arm_tl (by omega), ke_arm_tl (by omega), ke_arm_tl (by omega)]; exact ke_arm_hd (by omega)) ?_
        refine e_Ok.run (t' := (85, [(3, (1, 17 * a + 86)), (0, (1, 0)), (1, (0, a)), (2, (0, b))], [(1, 17 * a + 86)], w)) 1 rfl ?_
        refine e_Ok.getr (z := w (17 * a + 86) 7) rfl (lA0 (a := a) (by omega) (by omega)) rfl rfl rfl (by omega) ?_
        have h12 := (e_Has.get hT (c := w (17 * a + 86) 7) (k := 1) (lo := 0) (hi := 32) (kD_1 hcd) (by decide))
        refine e_Ok.getf (z := w (w (17 * a + 86) 7) 1) rfl (lD0 hcd) rfl rfl rfl (by omega) ?_
        refine e_Ok.rets rfl rfl ?_
        exact ⟨_, rfl, rfl⟩
      · refine e_Ok.swk (tg := 92) rfl (by rw [ke_arm_tl (by omega), ke_arm_tl (by omega), ke_arm_tl (by omega), ke_arm_tl (by omega), ke_arm_tl (by omega), ke_arm_tl (by omega)]; exact ke_arm_hd (by omega)) ?_
        refine e_Ok.run (t' := (93, [(3, (1, 17 * a + 86)), (0, (1, 0)), (1, (0, a)), (2, (0, b))], [(1, 17 * a + 86)], w)) 1 rfl ?_
        have h13 := (e_Has.get hT (c := 17 * a + 86) (k := 17) (lo := (-1)) (hi := 59) (kA_17 (a := a) (by omega) (by omega)) (by decide))
        refine e_Ok.getf (z := w (17 * a + 86) 17) rfl (lA0 (a := a) (by omega) (by omega)) rfl rfl rfl (by omega) ?_
        refine e_Ok.if1 rfl (fun h14 => ?_) (fun h14 => ?_)
        · replace h14 : (w (17 * a + 86) 17 : Int) ≥ 0 := h14
          refine e_Ok.run (t' := (104, [(3, (1, 17 * a + 86)), (0, (1, 0)), (1, (0, a)), (2, (0, b))], [(1, 0)], w)) 1 rfl ?_
          refine e_Ok.getr (z := 262) rfl (el_o rfl) rfl rfl (Eq.trans (e_Has.eq hT rfl) (by omega)) (by omega) ?_
          refine e_Ok.run (t' := (108, [(3, (1, 17 * a + 86)), (0, (1, 0)), (1, (0, a)), (2, (0, b))], [(1, 17 * a + 86), (1, 262)], w)) 1 rfl ?_
          refine e_Ok.getf (z := w (17 * a + 86) 17) rfl (lA0 (a := a) (by omega) (by omega)) rfl rfl rfl (by omega) ?_
          refine e_Ok.callV rfl (by omega) rfl rfl rfl rfl (c_95 (by omega) (m := w (17 * a + 86) 8) hT (by omega) (fun g => hW a (by omega) (by omega) g)) (fun r15 w16 h17 => ?_)
          obtain ⟨z18, rfl, rfl, q19r, -⟩ := h17
          show e_Ok 20 elay kcode eI (d + 1) 227 (114, [(3, (1, 17 * a + 86)), (0, (1, 0)), (1, (0, a)), (2, (0, b))], [(0, z18)], w) _
          refine e_Ok.rets rfl rfl ?_
          exact ⟨_, rfl, rfl⟩
        · replace h14 : (w (17 * a + 86) 17 : Int) < 0 := by have q : ¬ ((w (17 * a + 86) 17 : Int) ≥ 0) := h14; omega
          refine e_Ok.run (t' := (114, [(3, (1, 17 * a + 86)), (0, (1, 0)), (1, (0, a)), (2, (0, b))], [(0, (-1))], w)) 2 rfl ?_
          refine e_Ok.rets rfl rfl ?_
          exact ⟨_, rfl, rfl⟩
      · refine e_Ok.swk (tg := 115) rfl (by rw [ke_arm_tl (by omega), ke_arm_tl (by omega), ke_arm_tl (by omega), ke_arm_tl (by omega), ke_arm_tl (by omega), ke_arm_tl (by omega), ke_arm_tl (by omega)]; exact ke_arm_hd (by omega)) ?_
        refine e_Ok.run (t' := (116, [(3, (1, 17 * a + 86)), (0, (1, 0)), (1, (0, a)), (2, (0, b))], [(1, 17 * a + 86)], w)) 1 rfl ?_
        refine e_Ok.callV rfl (by omega) rfl (lA0 (a := a) (by omega) (by omega)) rfl rfl (c_9_b (a := a) hT (by omega)) (fun r20 w21 h22 => ?_)
        obtain ⟨z23, rfl, rfl, q24⟩ := h22
        obtain ⟨rfl, q24⟩ | ⟨rfl, q24⟩ := q24
        · show e_Ok 20 elay kcode eI (d + 1) 227 (119, [(3, (1, 17 * a + 86)), (0, (1, 0)), (1, (0, a)), (2, (0, b))], [(0, 1)], w) _
          refine e_Ok.if1 rfl (fun h25 => ?_) (fun h25 => ?_)
          · replace h25 : (1 : Int) = 0 := h25
            exfalso; omega
          · replace h25 : (1 : Int) ≠ 0 := by have q : ¬ ((1 : Int) = 0) := h25; omega
            refine e_Ok.run (t' := (127, [(3, (1, 17 * a + 86)), (0, (1, 0)), (1, (0, a)), (2, (0, b))], [(0, 1)], w)) 2 rfl ?_
            refine e_Ok.rets rfl rfl ?_
            exact ⟨_, rfl, rfl⟩
        · show e_Ok 20 elay kcode eI (d + 1) 227 (119, [(3, (1, 17 * a + 86)), (0, (1, 0)), (1, (0, a)), (2, (0, b))], [(0, 0)], w) _
          refine e_Ok.if1 rfl (fun h26 => ?_) (fun h26 => ?_)
          · replace h26 : (0 : Int) = 0 := h26
            refine e_Ok.run (t' := (127, [(3, (1, 17 * a + 86)), (0, (1, 0)), (1, (0, a)), (2, (0, b))], [(0, 0)], w)) 1 rfl ?_
            refine e_Ok.rets rfl rfl ?_
            exact ⟨_, rfl, rfl⟩
          · replace h26 : (0 : Int) ≠ 0 := by have q : ¬ ((0 : Int) = 0) := h26; omega
            exfalso; omega
      · refine e_Ok.swk (tg := 128) rfl (by rw [ke_arm_tl (by omega), ke_arm_tl (by omega), ke_arm_tl (by omega), ke_arm_tl (by omega), ke_arm_tl (by omega), ke_arm_tl (by omega), ke_arm_tl (by omega), ke_arm_tl (by omega)]; exact ke_arm_hd (by omega)) ?_
        refine e_Ok.run (t' := (129, [(3, (1, 17 * a + 86)), (0, (1, 0)), (1, (0, a)), (2, (0, b))], [(1, 17 * a + 86)], w)) 1 rfl ?_
        have h27 := (e_Has.get hT (c := 17 * a + 86) (k := 18) (lo := (-1)) (hi := 1000) (kA_18 (a := a) (by omega) (by omega)) (by decide))
        refine e_Ok.getf (z := w (17 * a + 86) 18) rfl (lA0 (a := a) (by omega) (by omega)) rfl rfl rfl (by omega) ?_
        refine e_Ok.if1 rfl (fun h28 => ?_) (fun h28 => ?_)
        · replace h28 : (w (17 * a + 86) 18 : Int) < 0 := h28
          refine e_Ok.run (t' := (140, [(3, (1, 17 * a + 86)), (0, (1, 0)), (1, (0, a)), (2, (0, b))], [(0, 0)], w)) 1 rfl ?_
          refine e_Ok.rets rfl rfl ?_
          exact ⟨_, rfl, rfl⟩
        · replace h28 : (w (17 * a + 86) 18 : Int) ≥ 0 := by have q : ¬ ((w (17 * a + 86) 18 : Int) < 0) := h28; omega
          refine e_Ok.run (t' := (140, [(3, (1, 17 * a + 86)), (0, (1, 0)), (1, (0, a)), (2, (0, b))], [(0, 1)], w)) 2 rfl ?_
          refine e_Ok.rets rfl rfl ?_
          exact ⟨_, rfl, rfl⟩
      · refine e_Ok.swk (tg := 141) rfl (by rw [ke_arm_tl (by omega), ke_arm_tl (by omega), ke_arm_tl (by omega), ke_arm_tl (by omega), ke_arm_tl (by omega), ke_arm_tl (by omega), ke_arm_tl (by omega), ke_arm_tl (by omega), ke_arm_tl (by omega)]; exact ke_arm_hd (by omega)) ?_
        refine e_Ok.run (t' := (142, [(3, (1, 17 * a + 86)), (0, (1, 0)), (1, (0, a)), (2, (0, b))], [(0, (-1))], w)) 1 rfl ?_
        refine e_Ok.rets rfl rfl ?_
        exact ⟨_, rfl, rfl⟩
    · replace h6 : (1 : Int) = 0 := by have q : ¬ ((1 : Int) ≠ 0) := h6; omega
      exfalso; omega
  · show e_Ok 20 elay kcode eI (d + 1) 227 (5, [(0, (1, 0)), (1, (0, a)), (2, (0, b))], [(0, 0)], w) _
    refine e_Ok.if1 rfl (fun h29 => ?_) (fun h29 => ?_)
    · replace h29 : (0 : Int) ≠ 0 := h29
      exfalso; omega
    · replace h29 : (0 : Int) = 0 := by have q : ¬ ((0 : Int) ≠ 0) := h29; omega
      refine e_Ok.run (t' := (9, [(0, (1, 0)), (1, (0, a)), (2, (0, b))], [(0, (-1))], w)) 1 rfl ?_
      refine e_Ok.rets rfl rfl ?_
      exact ⟨_, rfl, rfl⟩
theorem c_228 {d : Nat} (hd : 25 ≤ d) {w : eW} (hl : lkK w) {a : Int} (g_a : (-2147483648) ≤ a ∧ a ≤ 2147483647) {b : Int} (g_b : (-2147483648) ≤ b ∧ b ≤ 2147483647) : e_Ok 20 elay kcode eI d 228 (0, [(0, (1, 0)), (1, (0, a)), (2, (0, b))], [], w) (fun r w' => ∃ z : Int, r = [(0, z)] ∧ w = w') := by
  obtain ⟨d, rfl⟩ : ∃ e, d = e + 1 := ⟨d - 1, by omega⟩
  obtain ⟨hT, hAll, hC, hW, ka, hF⟩ := hl
  have hw0 := e_Has.get hT (c := 0) (k := 11) (lo := 0) (hi := 4) rfl (by decide)
  refine e_Ok.run (t' := (3, [(0, (1, 0)), (1, (0, a)), (2, (0, b))], [(0, b), (0, a), (1, 0)], w)) 3 rfl ?_
  refine e_Ok.callV rfl (by omega) rfl rfl rfl rfl (c_247 (by omega) hT (by omega) (by omega)) (fun r1 w2 h3 => ?_)
  obtain ⟨z4, rfl, rfl, q5⟩ := h3
  obtain ⟨rfl, q5⟩ | ⟨rfl, q5⟩ := q5
  · show e_Ok 20 elay kcode eI (d + 1) 228 (6, [(0, (1, 0)), (1, (0, a)), (2, (0, b))], [(0, 1)], w) _
    refine e_Ok.if1 rfl (fun h6 => ?_) (fun h6 => ?_)
    · replace h6 : (1 : Int) = 0 := h6
      exfalso; omega
    · replace h6 : (1 : Int) ≠ 0 := by have q : ¬ ((1 : Int) = 0) := h6; omega
      have hjn := kn_joints hT (a := a) (by omega)
      refine e_Ok.run (t' := (10, [(0, (1, 0)), (1, (0, a)), (2, (0, b))], [(1, 0)], w)) 1 rfl ?_
      refine e_Ok.getr (z := 9) rfl (el_o rfl) rfl rfl (Eq.trans (e_Has.eq hT rfl) (by omega)) (by omega) ?_
      refine e_Ok.run (t' := (14, [(0, (1, 0)), (1, (0, a)), (2, (0, b))], [(0, a), (1, 9)], w)) 1 rfl ?_
      refine e_Ok.aald (z := 17 * a + 86) rfl (el_o rfl) rfl (by omega) (Eq.trans (e_Has.eq hT (k9 (by omega))) (by omega)) (by omega) ?_
      refine e_Ok.getr (z := 17 * a + 87) rfl (lA0 (a := a) (by omega) (by omega)) rfl rfl (Eq.trans (e_Has.eq hT (kA_0 (a := a) (by omega) (by omega))) (by omega)) (by omega) ?_
      refine e_Ok.run (t' := (19, [(0, (1, 0)), (1, (0, a)), (2, (0, b))], [(0, b), (1, 17 * a + 87)], w)) 1 rfl ?_
      refine e_Ok.aald (z := 17 * a + b + 97) rfl (lA1 (a := a) (by omega) (by omega)) rfl (by omega) (Eq.trans (e_Has.eq hT (kA87 (a := a) (by omega) (by omega) (by omega))) (by omega)) (by omega) ?_
      have h7 := (e_Has.get hT (c := 17 * a + b + 97) (k := 7) (lo := (-2147483648)) (hi := 2147483647) (kJ_7 (a := a) (j := b) (by omega) (by omega) (by omega)) (by decide))
      refine e_Ok.getf (z := w (17 * a + b + 97) 7) rfl (lJ (a := a) (j := b) (by omega) (by omega) (by omega)) rfl rfl rfl (by omega) ?_
      refine e_Ok.run (t' := (27, [(0, (1, 0)), (1, (0, a)), (2, (0, b))], [(0, w (17 * a + b + 97) 7)], w)) 1 rfl ?_
      refine e_Ok.rets rfl rfl ?_
      exact ⟨_, rfl, rfl⟩
  · show e_Ok 20 elay kcode eI (d + 1) 228 (6, [(0, (1, 0)), (1, (0, a)), (2, (0, b))], [(0, 0)], w) _
    refine e_Ok.if1 rfl (fun h8 => ?_) (fun h8 => ?_)
    · replace h8 : (0 : Int) = 0 := h8
      refine e_Ok.run (t' := (27, [(0, (1, 0)), (1, (0, a)), (2, (0, b))], [(0, (-1))], w)) 1 rfl ?_
      refine e_Ok.rets rfl rfl ?_
      exact ⟨_, rfl, rfl⟩
    · replace h8 : (0 : Int) ≠ 0 := by have q : ¬ ((0 : Int) = 0) := h8; omega
      exfalso; omega
theorem c_229 {d : Nat} (hd : 25 ≤ d) {w : eW} (hl : lkK w) {a : Int} (g_a : (-2147483648) ≤ a ∧ a ≤ 2147483647) {b : Int} (g_b : (-2147483648) ≤ b ∧ b ≤ 2147483647) {c : Int} (g_c : (-2147483648) ≤ c ∧ c ≤ 2147483647) : e_Ok 20 elay kcode eI d 229 (0, [(0, (1, 0)), (1, (0, a)), (2, (0, b)), (3, (0, c))], [], w) (fun r w' => ∃ z : Int, r = [(0, z)] ∧ w = w') := by
  obtain ⟨d, rfl⟩ : ∃ e, d = e + 1 := ⟨d - 1, by omega⟩
  obtain ⟨hT, hAll, hC, hW, ka, hF⟩ := hl
  have hw0 := e_Has.get hT (c := 0) (k := 11) (lo := 0) (hi := 4) rfl (by decide)
  refine e_Ok.run (t' := (2, [(0, (1, 0)), (1, (0, a)), (2, (0, b)), (3, (0, c))], [(0, a), (1, 0)], w)) 2 rfl ?_
  refine e_Ok.callV rfl (by omega) rfl rfl rfl rfl (c_246 (by omega) hT (by omega)) (fun r1 w2 h3 => ?_)
  obtain ⟨z4, rfl, rfl, q5⟩ := h3
  obtain ⟨rfl, q5⟩ | ⟨rfl, q5⟩ := q5
  · show e_Ok 20 elay kcode eI (d + 1) 229 (5, [(0, (1, 0)), (1, (0, a)), (2, (0, b)), (3, (0, c))], [(0, 1)], w) _
    refine e_Ok.if1 rfl (fun h6 => ?_) (fun h6 => ?_)
    · replace h6 : (1 : Int) = 0 := h6
      exfalso; omega
    · replace h6 : (1 : Int) ≠ 0 := by have q : ¬ ((1 : Int) = 0) := h6; omega
      have hjn := kn_joints hT (a := a) (by omega)
      refine e_Ok.run (t' := (11, [(0, (1, 0)), (1, (0, a)), (2, (0, b)), (3, (0, c))], [(1, 0), (0, 0), (0, b)], w)) 3 rfl ?_
      refine e_Ok.getr (z := 9) rfl (el_o rfl) rfl rfl (Eq.trans (e_Has.eq hT rfl) (by omega)) (by omega) ?_
      refine e_Ok.run (t' := (15, [(0, (1, 0)), (1, (0, a)), (2, (0, b)), (3, (0, c))], [(0, a), (1, 9), (0, 0), (0, b)], w)) 1 rfl ?_
      refine e_Ok.aald (z := 17 * a + 86) rfl (el_o rfl) rfl (by omega) (Eq.trans (e_Has.eq hT (k9 (by omega))) (by omega)) (by omega) ?_
      have h7 := (e_Has.get hT (c := 17 * a + 86) (k := 8) (lo := 0) (hi := 6) (kA_8 (a := a) (by omega) (by omega)) (by decide))
      refine e_Ok.getf (z := w (17 * a + 86) 8) rfl (lA0 (a := a) (by omega) (by omega)) rfl rfl rfl (by omega) ?_
      refine e_Ok.callS rfl (by omega) rfl rfl (c_242 (by omega) (by omega) (by omega)) (fun r8 w9 h10 => ?_)
      obtain ⟨z11, rfl, rfl, q12⟩ := h10
      obtain ⟨rfl, q12⟩ | ⟨rfl, q12⟩ := q12
      · show e_Ok 20 elay kcode eI (d + 1) 229 (22, [(0, (1, 0)), (1, (0, a)), (2, (0, b)), (3, (0, c))], [(0, 1)], w) _
        refine e_Ok.if1 rfl (fun h13 => ?_) (fun h13 => ?_)
        · replace h13 : (1 : Int) = 0 := h13
          exfalso; omega
        · replace h13 : (1 : Int) ≠ 0 := by have q : ¬ ((1 : Int) = 0) := h13; omega
          refine e_Ok.run (t' := (28, [(0, (1, 0)), (1, (0, a)), (2, (0, b)), (3, (0, c))], [(0, 1), (0, 0), (0, c)], w)) 3 rfl ?_
          refine e_Ok.callS rfl (by omega) rfl rfl (c_242 (by omega) (by omega) (by omega)) (fun r14 w15 h16 => ?_)
          obtain ⟨z17, rfl, rfl, q18⟩ := h16
          obtain ⟨rfl, q18⟩ | ⟨rfl, q18⟩ := q18
          · show e_Ok 20 elay kcode eI (d + 1) 229 (31, [(0, (1, 0)), (1, (0, a)), (2, (0, b)), (3, (0, c))], [(0, 1)], w) _
            refine e_Ok.if1 rfl (fun h19 => ?_) (fun h19 => ?_)
            · replace h19 : (1 : Int) ≠ 0 := h19
              refine e_Ok.run (t' := (37, [(0, (1, 0)), (1, (0, a)), (2, (0, b)), (3, (0, c))], [(0, c)], w)) 1 rfl ?_
              refine e_Ok.if1 rfl (fun h20 => ?_) (fun h20 => ?_)
              · replace h20 : (c : Int) ≠ 0 := h20
                refine e_Ok.run (t' := (55, [(0, (1, 0)), (1, (0, a)), (2, (0, b)), (3, (0, c))], [(1, 0)], w)) 1 rfl ?_
                refine e_Ok.getr (z := 9) rfl (el_o rfl) rfl rfl (Eq.trans (e_Has.eq hT rfl) (by omega)) (by omega) ?_
                refine e_Ok.run (t' := (59, [(0, (1, 0)), (1, (0, a)), (2, (0, b)), (3, (0, c))], [(0, a), (1, 9)], w)) 1 rfl ?_
                refine e_Ok.aald (z := 17 * a + 86) rfl (el_o rfl) rfl (by omega) (Eq.trans (e_Has.eq hT (k9 (by omega))) (by omega)) (by omega) ?_
                refine e_Ok.getr (z := 17 * a + 89) rfl (lA0 (a := a) (by omega) (by omega)) rfl rfl (Eq.trans (e_Has.eq hT (kA_2 (a := a) (by omega) (by omega))) (by omega)) (by omega) ?_
                refine e_Ok.run (t' := (64, [(0, (1, 0)), (1, (0, a)), (2, (0, b)), (3, (0, c))], [(0, b), (1, 17 * a + 89)], w)) 1 rfl ?_
                have h21 := (show -2147483648 ≤ w (17 * a + 89) b ∧ w (17 * a + 89) b ≤ 2147483647 from hAll (17 * a + 89) b (by omega) (by omega))
                refine e_Ok.ald (z := w (17 * a + 89) b) rfl (lA3 (a := a) (by omega) (by omega)) rfl (by omega) rfl (by omega) ?_
                refine e_Ok.rets rfl rfl ?_
                exact ⟨_, rfl, rfl⟩
              · replace h20 : (c : Int) = 0 := by have q : ¬ ((c : Int) ≠ 0) := h20; omega
                refine e_Ok.run (t' := (41, [(0, (1, 0)), (1, (0, a)), (2, (0, b)), (3, (0, c))], [(1, 0)], w)) 1 rfl ?_
                refine e_Ok.getr (z := 9) rfl (el_o rfl) rfl rfl (Eq.trans (e_Has.eq hT rfl) (by omega)) (by omega) ?_
                refine e_Ok.run (t' := (45, [(0, (1, 0)), (1, (0, a)), (2, (0, b)), (3, (0, c))], [(0, a), (1, 9)], w)) 1 rfl ?_
                refine e_Ok.aald (z := 17 * a + 86) rfl (el_o rfl) rfl (by omega) (Eq.trans (e_Has.eq hT (k9 (by omega))) (by omega)) (by omega) ?_
                refine e_Ok.getr (z := 17 * a + 88) rfl (lA0 (a := a) (by omega) (by omega)) rfl rfl (Eq.trans (e_Has.eq hT (kA_1 (a := a) (by omega) (by omega))) (by omega)) (by omega) ?_
                refine e_Ok.run (t' := (50, [(0, (1, 0)), (1, (0, a)), (2, (0, b)), (3, (0, c))], [(0, b), (1, 17 * a + 88)], w)) 1 rfl ?_
                have h22 := (show -2147483648 ≤ w (17 * a + 88) b ∧ w (17 * a + 88) b ≤ 2147483647 from hAll (17 * a + 88) b (by omega) (by omega))
                refine e_Ok.ald (z := w (17 * a + 88) b) rfl (lA2 (a := a) (by omega) (by omega)) rfl (by omega) rfl (by omega) ?_
                refine e_Ok.run (t' := (65, [(0, (1, 0)), (1, (0, a)), (2, (0, b)), (3, (0, c))], [(0, w (17 * a + 88) b)], w)) 1 rfl ?_
                refine e_Ok.rets rfl rfl ?_
                exact ⟨_, rfl, rfl⟩
            · replace h19 : (1 : Int) = 0 := by have q : ¬ ((1 : Int) ≠ 0) := h19; omega
              exfalso; omega
          · show e_Ok 20 elay kcode eI (d + 1) 229 (31, [(0, (1, 0)), (1, (0, a)), (2, (0, b)), (3, (0, c))], [(0, 0)], w) _
            refine e_Ok.if1 rfl (fun h23 => ?_) (fun h23 => ?_)
            · replace h23 : (0 : Int) ≠ 0 := h23
              exfalso; omega
            · replace h23 : (0 : Int) = 0 := by have q : ¬ ((0 : Int) ≠ 0) := h23; omega
              refine e_Ok.run (t' := (35, [(0, (1, 0)), (1, (0, a)), (2, (0, b)), (3, (0, c))], [(0, (-1))], w)) 1 rfl ?_
              refine e_Ok.rets rfl rfl ?_
              exact ⟨_, rfl, rfl⟩
      · show e_Ok 20 elay kcode eI (d + 1) 229 (22, [(0, (1, 0)), (1, (0, a)), (2, (0, b)), (3, (0, c))], [(0, 0)], w) _
        refine e_Ok.if1 rfl (fun h24 => ?_) (fun h24 => ?_)
        · replace h24 : (0 : Int) = 0 := h24
          refine e_Ok.run (t' := (35, [(0, (1, 0)), (1, (0, a)), (2, (0, b)), (3, (0, c))], [(0, (-1))], w)) 1 rfl ?_
          refine e_Ok.rets rfl rfl ?_
          exact ⟨_, rfl, rfl⟩
        · replace h24 : (0 : Int) ≠ 0 := by have q : ¬ ((0 : Int) = 0) := h24; omega
          exfalso; omega
  · show e_Ok 20 elay kcode eI (d + 1) 229 (5, [(0, (1, 0)), (1, (0, a)), (2, (0, b)), (3, (0, c))], [(0, 0)], w) _
    refine e_Ok.if1 rfl (fun h25 => ?_) (fun h25 => ?_)
    · replace h25 : (0 : Int) = 0 := h25
      refine e_Ok.run (t' := (35, [(0, (1, 0)), (1, (0, a)), (2, (0, b)), (3, (0, c))], [(0, (-1))], w)) 1 rfl ?_
      refine e_Ok.rets rfl rfl ?_
      exact ⟨_, rfl, rfl⟩
    · replace h25 : (0 : Int) ≠ 0 := by have q : ¬ ((0 : Int) = 0) := h25; omega
      exfalso; omega
theorem c_230 {d : Nat} (hd : 25 ≤ d) {w : eW} (hl : lkK w) {a : Int} (g_a : (-2147483648) ≤ a ∧ a ≤ 2147483647) {b : Int} (g_b : (-2147483648) ≤ b ∧ b ≤ 2147483647) : e_Ok 20 elay kcode eI d 230 (0, [(0, (1, 0)), (1, (0, a)), (2, (0, b))], [], w) (fun r w' => ∃ z : Int, r = [(0, z)] ∧ w = w') := by
  obtain ⟨d, rfl⟩ : ∃ e, d = e + 1 := ⟨d - 1, by omega⟩
  obtain ⟨hT, hAll, hC, hW, ka, hF⟩ := hl
  have hw0 := e_Has.get hT (c := 0) (k := 11) (lo := 0) (hi := 4) rfl (by decide)
  refine e_Ok.run (t' := (2, [(0, (1, 0)), (1, (0, a)), (2, (0, b))], [(0, a), (1, 0)], w)) 2 rfl ?_
  refine e_Ok.callV rfl (by omega) rfl rfl rfl rfl (c_246 (by omega) hT (by omega)) (fun r1 w2 h3 => ?_)
  obtain ⟨z4, rfl, rfl, q5⟩ := h3
  obtain ⟨rfl, q5⟩ | ⟨rfl, q5⟩ := q5
  · show e_Ok 20 elay kcode eI (d + 1) 230 (5, [(0, (1, 0)), (1, (0, a)), (2, (0, b))], [(0, 1)], w) _
    refine e_Ok.if1 rfl (fun h6 => ?_) (fun h6 => ?_)
    · replace h6 : (1 : Int) = 0 := h6
      exfalso; omega
    · replace h6 : (1 : Int) ≠ 0 := by have q : ¬ ((1 : Int) = 0) := h6; omega
      refine e_Ok.run (t' := (9, [(0, (1, 0)), (1, (0, a)), (2, (0, b))], [(1, 0)], w)) 1 rfl ?_
      refine e_Ok.getr (z := 9) rfl (el_o rfl) rfl rfl (Eq.trans (e_Has.eq hT rfl) (by omega)) (by omega) ?_
      refine e_Ok.run (t' := (13, [(0, (1, 0)), (1, (0, a)), (2, (0, b))], [(0, a), (1, 9)], w)) 1 rfl ?_
      refine e_Ok.aald (z := 17 * a + 86) rfl (el_o rfl) rfl (by omega) (Eq.trans (e_Has.eq hT (k9 (by omega))) (by omega)) (by omega) ?_
      have h7 := (e_Has.get hT (c := 17 * a + 86) (k := 17) (lo := (-1)) (hi := 59) (kA_17 (a := a) (by omega) (by omega)) (by decide))
      refine e_Ok.getf (z := w (17 * a + 86) 17) rfl (lA0 (a := a) (by omega) (by omega)) rfl rfl rfl (by omega) ?_
      refine e_Ok.if1 rfl (fun h8 => ?_) (fun h8 => ?_)
      · replace h8 : (w (17 * a + 86) 17 : Int) ≥ 0 := h8
        refine e_Ok.run (t' := (23, [(0, (1, 0)), (1, (0, a)), (2, (0, b))], [(1, 0)], w)) 1 rfl ?_
        refine e_Ok.getr (z := 262) rfl (el_o rfl) rfl rfl (Eq.trans (e_Has.eq hT rfl) (by omega)) (by omega) ?_
        refine e_Ok.run (t' := (27, [(0, (1, 0)), (1, (0, a)), (2, (0, b))], [(1, 0), (1, 262)], w)) 1 rfl ?_
        refine e_Ok.getr (z := 9) rfl (el_o rfl) rfl rfl (Eq.trans (e_Has.eq hT rfl) (by omega)) (by omega) ?_
        refine e_Ok.run (t' := (31, [(0, (1, 0)), (1, (0, a)), (2, (0, b))], [(0, a), (1, 9), (1, 262)], w)) 1 rfl ?_
        refine e_Ok.aald (z := 17 * a + 86) rfl (el_o rfl) rfl (by omega) (Eq.trans (e_Has.eq hT (k9 (by omega))) (by omega)) (by omega) ?_
        refine e_Ok.getf (z := w (17 * a + 86) 17) rfl (lA0 (a := a) (by omega) (by omega)) rfl rfl rfl (by omega) ?_
        refine e_Ok.run (t' := (36, [(0, (1, 0)), (1, (0, a)), (2, (0, b))], [(0, b), (0, w (17 * a + 86) 17), (1, 262)], w)) 1 rfl ?_
        have hjn := kn_joints hT (a := a) (by omega)
        refine e_Ok.callV rfl (by omega) rfl rfl rfl rfl (c_96_a (by omega) (m := w (17 * a + 86) 8) hT (by omega) (by omega) (fun g => hW a (by omega) (by omega) g) (by omega)) (fun r9 w10 h11 => ?_)
        obtain ⟨z12, rfl, rfl, q13r⟩ := h11
        show e_Ok 20 elay kcode eI (d + 1) 230 (39, [(0, (1, 0)), (1, (0, a)), (2, (0, b))], [(0, z12)], w) _
        refine e_Ok.rets rfl rfl ?_
        exact ⟨_, rfl, rfl⟩
      · replace h8 : (w (17 * a + 86) 17 : Int) < 0 := by have q : ¬ ((w (17 * a + 86) 17 : Int) ≥ 0) := h8; omega
        refine e_Ok.run (t' := (21, [(0, (1, 0)), (1, (0, a)), (2, (0, b))], [(0, (-1))], w)) 1 rfl ?_
        refine e_Ok.rets rfl rfl ?_
        exact ⟨_, rfl, rfl⟩
  · show e_Ok 20 elay kcode eI (d + 1) 230 (5, [(0, (1, 0)), (1, (0, a)), (2, (0, b))], [(0, 0)], w) _
    refine e_Ok.if1 rfl (fun h14 => ?_) (fun h14 => ?_)
    · replace h14 : (0 : Int) = 0 := h14
      refine e_Ok.run (t' := (21, [(0, (1, 0)), (1, (0, a)), (2, (0, b))], [(0, (-1))], w)) 1 rfl ?_
      refine e_Ok.rets rfl rfl ?_
      exact ⟨_, rfl, rfl⟩
    · replace h14 : (0 : Int) ≠ 0 := by have q : ¬ ((0 : Int) = 0) := h14; omega
      exfalso; omega
theorem c_231 {d : Nat} (hd : 25 ≤ d) {w : eW} (hl : lkK w) {a : Int} (g_a : (-2147483648) ≤ a ∧ a ≤ 2147483647) {b : Int} (g_b : (-2147483648) ≤ b ∧ b ≤ 2147483647) : e_Ok 20 elay kcode eI d 231 (0, [(0, (1, 0)), (1, (0, a)), (2, (0, b))], [], w) (fun r w' => ∃ z : Int, r = [(0, z)] ∧ w = w') := by
  obtain ⟨d, rfl⟩ : ∃ e, d = e + 1 := ⟨d - 1, by omega⟩
  obtain ⟨hT, hAll, hC, hW, ka, hF⟩ := hl
  have hw0 := e_Has.get hT (c := 0) (k := 11) (lo := 0) (hi := 4) rfl (by decide)
  refine e_Ok.run (t' := (4, [(0, (1, 0)), (1, (0, a)), (2, (0, b))], [(0, 15), (0, 0), (0, a)], w)) 3 rfl ?_
  refine e_Ok.callS rfl (by omega) rfl rfl (c_242 (by omega) (by omega) (by omega)) (fun r1 w2 h3 => ?_)
  obtain ⟨z4, rfl, rfl, q5⟩ := h3
  obtain ⟨rfl, q5⟩ | ⟨rfl, q5⟩ := q5
  · show e_Ok 20 elay kcode eI (d + 1) 231 (7, [(0, (1, 0)), (1, (0, a)), (2, (0, b))], [(0, 1)], w) _
    refine e_Ok.if1 rfl (fun h6 => ?_) (fun h6 => ?_)
    · replace h6 : (1 : Int) ≠ 0 := h6
      refine e_Ok.run (t' := (13, [(0, (1, 0)), (1, (0, a)), (2, (0, b))], [(1, 0)], w)) 1 rfl ?_
      refine e_Ok.getr (z := 8) rfl (el_o rfl) rfl rfl (Eq.trans (e_Has.eq hT rfl) (by omega)) (by omega) ?_
      refine e_Ok.getr (z := 82) rfl (el_o rfl) rfl rfl (Eq.trans (e_Has.eq hT rfl) (by omega)) (by omega) ?_
      refine e_Ok.run (t' := (20, [(0, (1, 0)), (1, (0, a)), (2, (0, b))], [(0, a), (1, 82)], w)) 1 rfl ?_
      refine e_Ok.aald (z := 6 * a + 154) rfl (el_o rfl) rfl (by omega) (Eq.trans (e_Has.eq hT (k82 (by omega))) (by omega)) (by omega) ?_
      refine e_Ok.run (t' := (23, [(3, (1, 6 * a + 154)), (0, (1, 0)), (1, (0, a)), (2, (0, b))], [(0, b)], w)) 2 rfl ?_
      obtain h7 | h7 | h7 | h7 | h7 | h7 : (b : Int) < 0 ∨ (b : Int) = 0 ∨ (b : Int) = 1 ∨ (b : Int) = 2 ∨ (b : Int) = 3 ∨ 3 < (b : Int) := by omega
      · refine e_Ok.swk (tg := 72) rfl (ke_arm_hd (by omega)) ?_
        refine e_Ok.run (t' := (73, [(3, (1, 6 * a + 154)), (0, (1, 0)), (1, (0, a)), (2, (0, b))], [(0, (-1))], w)) 1 rfl ?_
        refine e_Ok.rets rfl rfl ?_
        exact ⟨_, rfl, rfl⟩
      · refine e_Ok.swk (tg := 52) rfl (by rw [ke_arm_tl (by omega)]; exact ke_arm_hd (by omega)) ?_
        refine e_Ok.run (t' := (53, [(3, (1, 6 * a + 154)), (0, (1, 0)), (1, (0, a)), (2, (0, b))], [(1, 6 * a + 154)], w)) 1 rfl ?_
        have h8 := (e_Has.get hT (c := 6 * a + 154) (k := 1) (lo := 0) (hi := 7) (kT_1 (t := a) (by omega) (by omega)) (by decide))
        refine e_Ok.getf (z := w (6 * a + 154) 1) rfl (lT0 (t := a) (by omega) (by omega)) rfl rfl rfl (by omega) ?_
        refine e_Ok.rets rfl rfl ?_
        exact ⟨_, rfl, rfl⟩
      · refine e_Ok.swk (tg := 57) rfl (by rw [ke_arm_tl (by omega), ke_arm_tl (by omega)]; exact ke_arm_hd (by omega)) ?_
        refine e_Ok.run (t' := (58, [(3, (1, 6 * a + 154)), (0, (1, 0)), (1, (0, a)), (2, (0, b))], [(1, 6 * a + 154)], w)) 1 rfl ?_
        have h9 := (e_Has.get hT (c := 6 * a + 154) (k := 2) (lo := (-1)) (hi := 3) (kT_2 (t := a) (by omega) (by omega)) (by decide))
        refine e_Ok.getf (z := w (6 * a + 154) 2) rfl (lT0 (t := a) (by omega) (by omega)) rfl rfl rfl (by omega) ?_
        refine e_Ok.rets rfl rfl ?_
        exact ⟨_, rfl, rfl⟩
      · refine e_Ok.swk (tg := 62) rfl (by rw [ke_arm_tl (by omega), ke_arm_tl (by omega), ke_arm_tl (by omega)]; exact ke_arm_hd (by omega)) ?_
        refine e_Ok.run (t' := (63, [(3, (1, 6 * a + 154)), (0, (1, 0)), (1, (0, a)), (2, (0, b))], [(1, 6 * a + 154)], w)) 1 rfl ?_
        have h10 := (e_Has.get hT (c := 6 * a + 154) (k := 5) (lo := (-2147483648)) (hi := 2147483647) (kT_5 (t := a) (by omega) (by omega)) (by decide))
        refine e_Ok.getf (z := w (6 * a + 154) 5) rfl (lT0 (t := a) (by omega) (by omega)) rfl rfl rfl (by omega) ?_
        refine e_Ok.rets rfl rfl ?_
        exact ⟨_, rfl, rfl⟩
      · refine e_Ok.swk (tg := 67) rfl (by rw [ke_arm_tl (by omega), ke_arm_tl (by omega), ke_arm_tl (by omega), ke_arm_tl (by omega)]; exact ke_arm_hd (by omega)) ?_
        refine e_Ok.run (t' := (68, [(3, (1, 6 * a + 154)), (0, (1, 0)), (1, (0, a)), (2, (0, b))], [(1, 6 * a + 154)], w)) 1 rfl ?_
        have h11 := (e_Has.get hT (c := 6 * a + 154) (k := 4) (lo := 0) (hi := 20) (kT_4 (t := a) (by omega) (by omega)) (by decide))
        refine e_Ok.getf (z := w (6 * a + 154) 4) rfl (lT0 (t := a) (by omega) (by omega)) rfl rfl rfl (by omega) ?_
        refine e_Ok.rets rfl rfl ?_
        exact ⟨_, rfl, rfl⟩
      · refine e_Ok.swk (tg := 72) rfl (by rw [ke_arm_tl (by omega), ke_arm_tl (by omega), ke_arm_tl (by omega), ke_arm_tl (by omega), ke_arm_tl (by omega)]; exact ke_arm_hd (by omega)) ?_
        refine e_Ok.run (t' := (73, [(3, (1, 6 * a + 154)), (0, (1, 0)), (1, (0, a)), (2, (0, b))], [(0, (-1))], w)) 1 rfl ?_
        refine e_Ok.rets rfl rfl ?_
        exact ⟨_, rfl, rfl⟩
    · replace h6 : (1 : Int) = 0 := by have q : ¬ ((1 : Int) ≠ 0) := h6; omega
      exfalso; omega
  · show e_Ok 20 elay kcode eI (d + 1) 231 (7, [(0, (1, 0)), (1, (0, a)), (2, (0, b))], [(0, 0)], w) _
    refine e_Ok.if1 rfl (fun h12 => ?_) (fun h12 => ?_)
    · replace h12 : (0 : Int) ≠ 0 := h12
      exfalso; omega
    · replace h12 : (0 : Int) = 0 := by have q : ¬ ((0 : Int) ≠ 0) := h12; omega
      refine e_Ok.run (t' := (11, [(0, (1, 0)), (1, (0, a)), (2, (0, b))], [(0, (-1))], w)) 1 rfl ?_
      refine e_Ok.rets rfl rfl ?_
      exact ⟨_, rfl, rfl⟩
theorem c_232 {d : Nat} (hd : 25 ≤ d) {w : eW} (hl : lkK w) {a : Int} (g_a : (-2147483648) ≤ a ∧ a ≤ 2147483647) {b : Int} (g_b : (-2147483648) ≤ b ∧ b ≤ 2147483647) : e_Ok 20 elay kcode eI d 232 (0, [(0, (1, 0)), (1, (0, a)), (2, (0, b))], [], w) (fun r w' => ∃ z : Int, r = [(0, z)] ∧ w = w') := by
  obtain ⟨d, rfl⟩ : ∃ e, d = e + 1 := ⟨d - 1, by omega⟩
  obtain ⟨hT, hAll, hC, hW, ka, hF⟩ := hl
  have hw0 := e_Has.get hT (c := 0) (k := 11) (lo := 0) (hi := 4) rfl (by decide)
  refine e_Ok.run (t' := (2, [(0, (1, 0)), (1, (0, a)), (2, (0, b))], [(0, a), (1, 0)], w)) 2 rfl ?_
  refine e_Ok.callV rfl (by omega) rfl rfl rfl rfl (c_246 (by omega) hT (by omega)) (fun r1 w2 h3 => ?_)
  obtain ⟨z4, rfl, rfl, q5⟩ := h3
  obtain ⟨rfl, q5⟩ | ⟨rfl, q5⟩ := q5
  · show e_Ok 20 elay kcode eI (d + 1) 232 (5, [(0, (1, 0)), (1, (0, a)), (2, (0, b))], [(0, 1)], w) _
    refine e_Ok.if1 rfl (fun h6 => ?_) (fun h6 => ?_)
    · replace h6 : (1 : Int) = 0 := h6
      exfalso; omega
    · replace h6 : (1 : Int) ≠ 0 := by have q : ¬ ((1 : Int) = 0) := h6; omega
      have hcd := hC a (by omega) (by omega)
      have hcd2 := hcd; unfold isCd at hcd2
      refine e_Ok.run (t' := (11, [(0, (1, 0)), (1, (0, a)), (2, (0, b))], [(1, 0), (0, 0), (0, b)], w)) 3 rfl ?_
      refine e_Ok.getr (z := 9) rfl (el_o rfl) rfl rfl (Eq.trans (e_Has.eq hT rfl) (by omega)) (by omega) ?_
      refine e_Ok.run (t' := (15, [(0, (1, 0)), (1, (0, a)), (2, (0, b))], [(0, a), (1, 9), (0, 0), (0, b)], w)) 1 rfl ?_
      refine e_Ok.aald (z := 17 * a + 86) rfl (el_o rfl) rfl (by omega) (Eq.trans (e_Has.eq hT (k9 (by omega))) (by omega)) (by omega) ?_
      refine e_Ok.getr (z := w (17 * a + 86) 7) rfl (lA0 (a := a) (by omega) (by omega)) rfl rfl rfl (by omega) ?_
      have h7 := (e_Has.get hT (c := w (17 * a + 86) 7) (k := 2) (lo := 0) (hi := 32) (kD_2 hcd) (by decide))
      refine e_Ok.getf (z := w (w (17 * a + 86) 7) 2) rfl (lD0 hcd) rfl rfl rfl (by omega) ?_
      refine e_Ok.run (t' := (23, [(0, (1, 0)), (1, (0, a)), (2, (0, b))], [(0, 1), (0, w (w (17 * a + 86) 7) 2), (0, 0), (0, b)], w)) 1 rfl ?_
      refine e_Ok.sub' (z := w (w (17 * a + 86) 7) 2 - 1) rfl (by omega) (by omega) ?_
      refine e_Ok.callS rfl (by omega) rfl rfl (c_242 (by omega) (by omega) (by omega)) (fun r8 w9 h10 => ?_)
      obtain ⟨z11, rfl, rfl, q12⟩ := h10
      obtain ⟨rfl, q12⟩ | ⟨rfl, q12⟩ := q12
      · show e_Ok 20 elay kcode eI (d + 1) 232 (27, [(0, (1, 0)), (1, (0, a)), (2, (0, b))], [(0, 1)], w) _
        refine e_Ok.if1 rfl (fun h13 => ?_) (fun h13 => ?_)
        · replace h13 : (1 : Int) ≠ 0 := h13
          refine e_Ok.run (t' := (33, [(0, (1, 0)), (1, (0, a)), (2, (0, b))], [(1, 0)], w)) 1 rfl ?_
          refine e_Ok.getr (z := 9) rfl (el_o rfl) rfl rfl (Eq.trans (e_Has.eq hT rfl) (by omega)) (by omega) ?_
          refine e_Ok.run (t' := (37, [(0, (1, 0)), (1, (0, a)), (2, (0, b))], [(0, a), (1, 9)], w)) 1 rfl ?_
          refine e_Ok.aald (z := 17 * a + 86) rfl (el_o rfl) rfl (by omega) (Eq.trans (e_Has.eq hT (k9 (by omega))) (by omega)) (by omega) ?_
          refine e_Ok.getr (z := 17 * a + 93) rfl (lA0 (a := a) (by omega) (by omega)) rfl rfl (Eq.trans (e_Has.eq hT (kA_6 (a := a) (by omega) (by omega))) (by omega)) (by omega) ?_
          refine e_Ok.run (t' := (42, [(0, (1, 0)), (1, (0, a)), (2, (0, b))], [(0, b), (1, 17 * a + 93)], w)) 1 rfl ?_
          have h14 := (e_Has.get hT (c := 17 * a + 93) (k := b) (lo := (-2147483648)) (hi := 2147483647) (kA93 (a := a) _ (by omega) (by omega)) (by decide))
          refine e_Ok.ald (z := w (17 * a + 93) b) rfl (lA7 (a := a) (by omega) (by omega)) rfl (by omega) rfl (by omega) ?_
          refine e_Ok.rets rfl rfl ?_
          exact ⟨_, rfl, rfl⟩
        · replace h13 : (1 : Int) = 0 := by have q : ¬ ((1 : Int) ≠ 0) := h13; omega
          exfalso; omega
      · show e_Ok 20 elay kcode eI (d + 1) 232 (27, [(0, (1, 0)), (1, (0, a)), (2, (0, b))], [(0, 0)], w) _
        refine e_Ok.if1 rfl (fun h15 => ?_) (fun h15 => ?_)
        · replace h15 : (0 : Int) ≠ 0 := h15
          exfalso; omega
        · replace h15 : (0 : Int) = 0 := by have q : ¬ ((0 : Int) ≠ 0) := h15; omega
          refine e_Ok.run (t' := (31, [(0, (1, 0)), (1, (0, a)), (2, (0, b))], [(0, (-1))], w)) 1 rfl ?_
          refine e_Ok.rets rfl rfl ?_
          exact ⟨_, rfl, rfl⟩
  · show e_Ok 20 elay kcode eI (d + 1) 232 (5, [(0, (1, 0)), (1, (0, a)), (2, (0, b))], [(0, 0)], w) _
    refine e_Ok.if1 rfl (fun h16 => ?_) (fun h16 => ?_)
    · replace h16 : (0 : Int) = 0 := h16
      refine e_Ok.run (t' := (31, [(0, (1, 0)), (1, (0, a)), (2, (0, b))], [(0, (-1))], w)) 1 rfl ?_
      refine e_Ok.rets rfl rfl ?_
      exact ⟨_, rfl, rfl⟩
    · replace h16 : (0 : Int) ≠ 0 := by have q : ¬ ((0 : Int) = 0) := h16; omega
      exfalso; omega
theorem c_233 {d : Nat} (hd : 25 ≤ d) {w : eW} (hl : lkK w) {a : Int} (g_a : (-2147483648) ≤ a ∧ a ≤ 2147483647) {b : Int} (g_b : (-2147483648) ≤ b ∧ b ≤ 2147483647) : e_Ok 20 elay kcode eI d 233 (0, [(0, (1, 0)), (1, (0, a)), (2, (0, b))], [], w) (fun r w' => ∃ z : Int, r = [(0, z)] ∧ w = w') := by
  obtain ⟨d, rfl⟩ : ∃ e, d = e + 1 := ⟨d - 1, by omega⟩
  obtain ⟨hT, hAll, hC, hW, ka, hF⟩ := hl
  have hw0 := e_Has.get hT (c := 0) (k := 11) (lo := 0) (hi := 4) rfl (by decide)
  refine e_Ok.run (t' := (1, [(0, (1, 0)), (1, (0, a)), (2, (0, b))], [(0, a)], w)) 1 rfl ?_
  refine e_Ok.callS rfl (by omega) rfl rfl (c_245 (by omega) (by omega)) (fun r1 w2 h3 => ?_)
  obtain ⟨z4, rfl, rfl, q5⟩ := h3
  obtain ⟨rfl, q5⟩ | ⟨rfl, q5⟩ := q5
  · show e_Ok 20 elay kcode eI (d + 1) 233 (4, [(0, (1, 0)), (1, (0, a)), (2, (0, b))], [(0, 1)], w) _
    refine e_Ok.if1 rfl (fun h6 => ?_) (fun h6 => ?_)
    · replace h6 : (1 : Int) ≠ 0 := h6
      refine e_Ok.run (t' := (10, [(0, (1, 0)), (1, (0, a)), (2, (0, b))], [(0, b)], w)) 1 rfl ?_
      obtain h7 | h7 | h7 | h7 | h7 : (b : Int) < 0 ∨ (b : Int) = 0 ∨ (b : Int) = 1 ∨ (b : Int) = 2 ∨ 2 < (b : Int) := by omega
      · refine e_Ok.swk (tg := 66) rfl (ke_arm_hd (by omega)) ?_
        refine e_Ok.run (t' := (67, [(0, (1, 0)), (1, (0, a)), (2, (0, b))], [(0, (-1))], w)) 1 rfl ?_
        refine e_Ok.rets rfl rfl ?_
        exact ⟨_, rfl, rfl⟩
      · refine e_Ok.swk (tg := 36) rfl (by rw [ke_arm_tl (by omega)]; exact ke_arm_hd (by omega)) ?_
        refine e_Ok.run (t' := (37, [(0, (1, 0)), (1, (0, a)), (2, (0, b))], [(1, 0)], w)) 1 rfl ?_
        refine e_Ok.getr (z := 10) rfl (el_o rfl) rfl rfl (Eq.trans (e_Has.eq hT rfl) (by omega)) (by omega) ?_
        refine e_Ok.getr (z := 12) rfl (el_o rfl) rfl rfl (Eq.trans (e_Has.eq hT rfl) (by omega)) (by omega) ?_
        refine e_Ok.run (t' := (44, [(0, (1, 0)), (1, (0, a)), (2, (0, b))], [(0, a), (1, 12)], w)) 1 rfl ?_
        have h8 := (e_Has.get hT (c := 12) (k := a) (lo := (-2147483648)) (hi := 2147483647) rfl (by decide))
        refine e_Ok.ald (z := w 12 a) rfl (el_o rfl) rfl (by omega) rfl (by omega) ?_
        refine e_Ok.rets rfl rfl ?_
        exact ⟨_, rfl, rfl⟩
      · refine e_Ok.swk (tg := 46) rfl (by rw [ke_arm_tl (by omega), ke_arm_tl (by omega)]; exact ke_arm_hd (by omega)) ?_
        refine e_Ok.run (t' := (47, [(0, (1, 0)), (1, (0, a)), (2, (0, b))], [(1, 0)], w)) 1 rfl ?_
        refine e_Ok.getr (z := 10) rfl (el_o rfl) rfl rfl (Eq.trans (e_Has.eq hT rfl) (by omega)) (by omega) ?_
        refine e_Ok.getr (z := 11) rfl (el_o rfl) rfl rfl (Eq.trans (e_Has.eq hT rfl) (by omega)) (by omega) ?_
        refine e_Ok.run (t' := (54, [(0, (1, 0)), (1, (0, a)), (2, (0, b))], [(0, a), (1, 11)], w)) 1 rfl ?_
        have h9 := (e_Has.get hT (c := 11) (k := a) (lo := (-2147483648)) (hi := 2147483647) rfl (by decide))
        refine e_Ok.ald (z := w 11 a) rfl (el_o rfl) rfl (by omega) rfl (by omega) ?_
        refine e_Ok.rets rfl rfl ?_
        exact ⟨_, rfl, rfl⟩
      · refine e_Ok.swk (tg := 56) rfl (by rw [ke_arm_tl (by omega), ke_arm_tl (by omega), ke_arm_tl (by omega)]; exact ke_arm_hd (by omega)) ?_
        refine e_Ok.run (t' := (57, [(0, (1, 0)), (1, (0, a)), (2, (0, b))], [(1, 0)], w)) 1 rfl ?_
        refine e_Ok.getr (z := 10) rfl (el_o rfl) rfl rfl (Eq.trans (e_Has.eq hT rfl) (by omega)) (by omega) ?_
        refine e_Ok.getr (z := 13) rfl (el_o rfl) rfl rfl (Eq.trans (e_Has.eq hT rfl) (by omega)) (by omega) ?_
        refine e_Ok.run (t' := (64, [(0, (1, 0)), (1, (0, a)), (2, (0, b))], [(0, a), (1, 13)], w)) 1 rfl ?_
        have h10 := (e_Has.get hT (c := 13) (k := a) (lo := (-2147483648)) (hi := 2147483647) rfl (by decide))
        refine e_Ok.ald (z := w 13 a) rfl (el_o rfl) rfl (by omega) rfl (by omega) ?_
        refine e_Ok.rets rfl rfl ?_
        exact ⟨_, rfl, rfl⟩
      · refine e_Ok.swk (tg := 66) rfl (by rw [ke_arm_tl (by omega), ke_arm_tl (by omega), ke_arm_tl (by omega), ke_arm_tl (by omega)]; exact ke_arm_hd (by omega)) ?_
        refine e_Ok.run (t' := (67, [(0, (1, 0)), (1, (0, a)), (2, (0, b))], [(0, (-1))], w)) 1 rfl ?_
        refine e_Ok.rets rfl rfl ?_
        exact ⟨_, rfl, rfl⟩
    · replace h6 : (1 : Int) = 0 := by have q : ¬ ((1 : Int) ≠ 0) := h6; omega
      exfalso; omega
  · show e_Ok 20 elay kcode eI (d + 1) 233 (4, [(0, (1, 0)), (1, (0, a)), (2, (0, b))], [(0, 0)], w) _
    refine e_Ok.if1 rfl (fun h11 => ?_) (fun h11 => ?_)
    · replace h11 : (0 : Int) ≠ 0 := h11
      exfalso; omega
    · replace h11 : (0 : Int) = 0 := by have q : ¬ ((0 : Int) ≠ 0) := h11; omega
      refine e_Ok.run (t' := (8, [(0, (1, 0)), (1, (0, a)), (2, (0, b))], [(0, (-1))], w)) 1 rfl ?_
      refine e_Ok.rets rfl rfl ?_
      exact ⟨_, rfl, rfl⟩
theorem c_234 {d : Nat} (hd : 25 ≤ d) {w : eW} (hl : lkK w) {a : Int} (g_a : (-2147483648) ≤ a ∧ a ≤ 2147483647) : e_Ok 20 elay kcode eI d 234 (0, [(0, (1, 0)), (1, (0, a))], [], w) (fun r w' => ∃ z : Int, r = [(0, z)] ∧ w = w') := by
  obtain ⟨d, rfl⟩ : ∃ e, d = e + 1 := ⟨d - 1, by omega⟩
  obtain ⟨hT, hAll, hC, hW, ka, hF⟩ := hl
  have hw0 := e_Has.get hT (c := 0) (k := 11) (lo := 0) (hi := 4) rfl (by decide)
  refine e_Ok.run (t' := (4, [(0, (1, 0)), (1, (0, a))], [(0, 7), (0, 0), (0, a)], w)) 3 rfl ?_
  refine e_Ok.callS rfl (by omega) rfl rfl (c_242 (by omega) (by omega) (by omega)) (fun r1 w2 h3 => ?_)
  obtain ⟨z4, rfl, rfl, q5⟩ := h3
  obtain ⟨rfl, q5⟩ | ⟨rfl, q5⟩ := q5
  · show e_Ok 20 elay kcode eI (d + 1) 234 (7, [(0, (1, 0)), (1, (0, a))], [(0, 1)], w) _
    refine e_Ok.if1 rfl (fun h6 => ?_) (fun h6 => ?_)
    · replace h6 : (1 : Int) = 0 := h6
      exfalso; omega
    · replace h6 : (1 : Int) ≠ 0 := by have q : ¬ ((1 : Int) = 0) := h6; omega
      refine e_Ok.run (t' := (11, [(0, (1, 0)), (1, (0, a))], [(1, 0)], w)) 1 rfl ?_
      refine e_Ok.getr (z := 8) rfl (el_o rfl) rfl rfl (Eq.trans (e_Has.eq hT rfl) (by omega)) (by omega) ?_
      refine e_Ok.getr (z := 83) rfl (el_o rfl) rfl rfl (Eq.trans (e_Has.eq hT rfl) (by omega)) (by omega) ?_
      refine e_Ok.run (t' := (18, [(0, (1, 0)), (1, (0, a))], [(0, a), (1, 83)], w)) 1 rfl ?_
      have h7 := (e_Has.get hT (c := 83) (k := a) (lo := (-1)) (hi := 15) rfl (by decide))
      refine e_Ok.ald (z := w 83 a) rfl (el_o rfl) rfl (by omega) rfl (by omega) ?_
      refine e_Ok.run (t' := (23, [(0, (1, 0)), (1, (0, a))], [(0, w 83 a)], w)) 1 rfl ?_
      refine e_Ok.rets rfl rfl ?_
      exact ⟨_, rfl, rfl⟩
  · show e_Ok 20 elay kcode eI (d + 1) 234 (7, [(0, (1, 0)), (1, (0, a))], [(0, 0)], w) _
    refine e_Ok.if1 rfl (fun h8 => ?_) (fun h8 => ?_)
    · replace h8 : (0 : Int) = 0 := h8
      refine e_Ok.run (t' := (23, [(0, (1, 0)), (1, (0, a))], [(0, (-1))], w)) 1 rfl ?_
      refine e_Ok.rets rfl rfl ?_
      exact ⟨_, rfl, rfl⟩
    · replace h8 : (0 : Int) ≠ 0 := by have q : ¬ ((0 : Int) = 0) := h8; omega
      exfalso; omega
theorem c_236 {d : Nat} (hd : 25 ≤ d) {w : eW} (hl : lkK w) {a : Int} (g_a : (-2147483648) ≤ a ∧ a ≤ 2147483647) : e_Ok 20 elay kcode eI d 236 (0, [(0, (1, 0)), (1, (0, a))], [], w) (fun r w' => ∃ z : Int, r = [(0, z)] ∧ w = w') := by
  obtain ⟨d, rfl⟩ : ∃ e, d = e + 1 := ⟨d - 1, by omega⟩
  obtain ⟨hT, hAll, hC, hW, ka, hF⟩ := hl
  have hw0 := e_Has.get hT (c := 0) (k := 11) (lo := 0) (hi := 4) rfl (by decide)
  have h742 := e_Has.get hT (c := 74) (k := 2) (lo := 0) (hi := 8) rfl (by decide)
  refine e_Ok.run (t' := (1, [(0, (1, 0)), (1, (0, a))], [(0, a)], w)) 1 rfl ?_
  obtain h1 | h1 | h1 | h1 | h1 | h1 : (a : Int) < 0 ∨ (a : Int) = 0 ∨ (a : Int) = 1 ∨ (a : Int) = 2 ∨ (a : Int) = 3 ∨ 3 < (a : Int) := by omega
  · refine e_Ok.swk (tg := 72) rfl (ke_arm_hd (by omega)) ?_
    refine e_Ok.run (t' := (76, [(0, (1, 0)), (1, (0, a))], [(1, 0), (0, 3), (0, 4), (0, a)], w)) 4 rfl ?_
    refine e_Ok.getr (z := 74) rfl (el_o rfl) rfl rfl (Eq.trans (e_Has.eq hT rfl) (by omega)) (by omega) ?_
    have h2 := (e_Has.get hT (c := 74) (k := 2) (lo := 0) (hi := 8) rfl (by decide))
    refine e_Ok.getf (z := w 74 2) rfl (el_o rfl) rfl rfl rfl (by omega) ?_
    refine e_Ok.add (z := w 74 2 + 3) rfl (by omega) (by omega) ?_
    refine e_Ok.callS rfl (by omega) rfl rfl (c_242 (by omega) (by omega) (by omega)) (fun r3 w4 h5 => ?_)
    obtain ⟨z6, rfl, rfl, q7⟩ := h5
    obtain ⟨rfl, q7⟩ | ⟨rfl, q7⟩ := q7
    · show e_Ok 20 elay kcode eI (d + 1) 236 (86, [(0, (1, 0)), (1, (0, a))], [(0, 1)], w) _
      refine e_Ok.if1 rfl (fun h8 => ?_) (fun h8 => ?_)
      · replace h8 : (1 : Int) = 0 := h8
        exfalso; omega
      · replace h8 : (1 : Int) ≠ 0 := by have q : ¬ ((1 : Int) = 0) := h8; omega
        refine e_Ok.run (t' := (90, [(0, (1, 0)), (1, (0, a))], [(1, 0)], w)) 1 rfl ?_
        refine e_Ok.getr (z := 74) rfl (el_o rfl) rfl rfl (Eq.trans (e_Has.eq hT rfl) (by omega)) (by omega) ?_
        refine e_Ok.run (t' := (95, [(0, (1, 0)), (1, (0, a))], [(0, 4), (0, a), (1, 74)], w)) 2 rfl ?_
        refine e_Ok.sub' (z := a - 4) rfl (by omega) (by omega) ?_
        refine e_Ok.callV rfl (by omega) rfl rfl rfl rfl (c_30 (by omega) hT (by omega)) (fun r9 w10 h11 => ?_)
        obtain ⟨z13, rfl, rfl, q12r⟩ := h11
        show e_Ok 20 elay kcode eI (d + 1) 236 (99, [(0, (1, 0)), (1, (0, a))], [(0, z13)], w) _
        refine e_Ok.run (t' := (103, [(0, (1, 0)), (1, (0, a))], [(0, z13)], w)) 1 rfl ?_
        refine e_Ok.rets rfl rfl ?_
        exact ⟨_, rfl, rfl⟩
    · show e_Ok 20 elay kcode eI (d + 1) 236 (86, [(0, (1, 0)), (1, (0, a))], [(0, 0)], w) _
      refine e_Ok.if1 rfl (fun h14 => ?_) (fun h14 => ?_)
      · replace h14 : (0 : Int) = 0 := h14
        refine e_Ok.run (t' := (103, [(0, (1, 0)), (1, (0, a))], [(0, (-1))], w)) 1 rfl ?_
        refine e_Ok.rets rfl rfl ?_
        exact ⟨_, rfl, rfl⟩
      · replace h14 : (0 : Int) ≠ 0 := by have q : ¬ ((0 : Int) = 0) := h14; omega
        exfalso; omega
  · refine e_Ok.swk (tg := 32) rfl (by rw [ke_arm_tl (by omega)]; exact ke_arm_hd (by omega)) ?_
    refine e_Ok.run (t' := (33, [(0, (1, 0)), (1, (0, a))], [(1, 0)], w)) 1 rfl ?_
    refine e_Ok.getr (z := 74) rfl (el_o rfl) rfl rfl (Eq.trans (e_Has.eq hT rfl) (by omega)) (by omega) ?_
    have h15 := (e_Has.get hT (c := 74) (k := 3) (lo := 0) (hi := 1) rfl (by decide))
    refine e_Ok.getf (z := w 74 3) rfl (el_o rfl) rfl rfl rfl (by omega) ?_
    refine e_Ok.if1 rfl (fun h16 => ?_) (fun h16 => ?_)
    · replace h16 : (w 74 3 : Int) = 0 := h16
      refine e_Ok.run (t' := (47, [(0, (1, 0)), (1, (0, a))], [(0, 0)], w)) 1 rfl ?_
      refine e_Ok.rets rfl rfl ?_
      exact ⟨_, rfl, rfl⟩
    · replace h16 : (w 74 3 : Int) ≠ 0 := by have q : ¬ ((w 74 3 : Int) = 0) := h16; omega
      refine e_Ok.run (t' := (47, [(0, (1, 0)), (1, (0, a))], [(0, 1)], w)) 2 rfl ?_
      refine e_Ok.rets rfl rfl ?_
      exact ⟨_, rfl, rfl⟩
  · refine e_Ok.swk (tg := 48) rfl (by rw [ke_arm_tl (by omega), ke_arm_tl (by omega)]; exact ke_arm_hd (by omega)) ?_
    refine e_Ok.run (t' := (49, [(0, (1, 0)), (1, (0, a))], [(1, 0)], w)) 1 rfl ?_
    refine e_Ok.getr (z := 74) rfl (el_o rfl) rfl rfl (Eq.trans (e_Has.eq hT rfl) (by omega)) (by omega) ?_
    have h17 := (e_Has.get hT (c := 74) (k := 4) (lo := (-2147483648)) (hi := 2147483647) rfl (by decide))
    refine e_Ok.getf (z := w 74 4) rfl (el_o rfl) rfl rfl rfl (by omega) ?_
    refine e_Ok.rets rfl rfl ?_
    exact ⟨_, rfl, rfl⟩
  · refine e_Ok.swk (tg := 56) rfl (by rw [ke_arm_tl (by omega), ke_arm_tl (by omega), ke_arm_tl (by omega)]; exact ke_arm_hd (by omega)) ?_
    refine e_Ok.run (t' := (57, [(0, (1, 0)), (1, (0, a))], [(1, 0)], w)) 1 rfl ?_
    refine e_Ok.getr (z := 74) rfl (el_o rfl) rfl rfl (Eq.trans (e_Has.eq hT rfl) (by omega)) (by omega) ?_
    have h18 := (e_Has.get hT (c := 74) (k := 5) (lo := (-2147483648)) (hi := 2147483647) rfl (by decide))
    refine e_Ok.getf (z := w 74 5) rfl (el_o rfl) rfl rfl rfl (by omega) ?_
    refine e_Ok.rets rfl rfl ?_
    exact ⟨_, rfl, rfl⟩
  · refine e_Ok.swk (tg := 64) rfl (by rw [ke_arm_tl (by omega), ke_arm_tl (by omega), ke_arm_tl (by omega), ke_arm_tl (by omega)]; exact ke_arm_hd (by omega)) ?_
    refine e_Ok.run (t' := (65, [(0, (1, 0)), (1, (0, a))], [(1, 0)], w)) 1 rfl ?_
    refine e_Ok.getr (z := 74) rfl (el_o rfl) rfl rfl (Eq.trans (e_Has.eq hT rfl) (by omega)) (by omega) ?_
    have h19 := (e_Has.get hT (c := 74) (k := 6) (lo := (-2147483648)) (hi := 2147483647) rfl (by decide))
    refine e_Ok.getf (z := w 74 6) rfl (el_o rfl) rfl rfl rfl (by omega) ?_
    refine e_Ok.rets rfl rfl ?_
    exact ⟨_, rfl, rfl⟩
  · refine e_Ok.swk (tg := 72) rfl (by rw [ke_arm_tl (by omega), ke_arm_tl (by omega), ke_arm_tl (by omega), ke_arm_tl (by omega), ke_arm_tl (by omega)]; exact ke_arm_hd (by omega)) ?_
    refine e_Ok.run (t' := (76, [(0, (1, 0)), (1, (0, a))], [(1, 0), (0, 3), (0, 4), (0, a)], w)) 4 rfl ?_
    refine e_Ok.getr (z := 74) rfl (el_o rfl) rfl rfl (Eq.trans (e_Has.eq hT rfl) (by omega)) (by omega) ?_
    have h20 := (e_Has.get hT (c := 74) (k := 2) (lo := 0) (hi := 8) rfl (by decide))
    refine e_Ok.getf (z := w 74 2) rfl (el_o rfl) rfl rfl rfl (by omega) ?_
    refine e_Ok.add (z := w 74 2 + 3) rfl (by omega) (by omega) ?_
    refine e_Ok.callS rfl (by omega) rfl rfl (c_242 (by omega) (by omega) (by omega)) (fun r21 w22 h23 => ?_)
    obtain ⟨z24, rfl, rfl, q25⟩ := h23
    obtain ⟨rfl, q25⟩ | ⟨rfl, q25⟩ := q25
    · show e_Ok 20 elay kcode eI (d + 1) 236 (86, [(0, (1, 0)), (1, (0, a))], [(0, 1)], w) _
      refine e_Ok.if1 rfl (fun h26 => ?_) (fun h26 => ?_)
      · replace h26 : (1 : Int) = 0 := h26
        exfalso; omega
      · replace h26 : (1 : Int) ≠ 0 := by have q : ¬ ((1 : Int) = 0) := h26; omega
        refine e_Ok.run (t' := (90, [(0, (1, 0)), (1, (0, a))], [(1, 0)], w)) 1 rfl ?_
        refine e_Ok.getr (z := 74) rfl (el_o rfl) rfl rfl (Eq.trans (e_Has.eq hT rfl) (by omega)) (by omega) ?_
        refine e_Ok.run (t' := (95, [(0, (1, 0)), (1, (0, a))], [(0, 4), (0, a), (1, 74)], w)) 2 rfl ?_
        refine e_Ok.sub' (z := a - 4) rfl (by omega) (by omega) ?_
        refine e_Ok.callV rfl (by omega) rfl rfl rfl rfl (c_30 (by omega) hT (by omega)) (fun r27 w28 h29 => ?_)
        obtain ⟨z31, rfl, rfl, q30r⟩ := h29
        show e_Ok 20 elay kcode eI (d + 1) 236 (99, [(0, (1, 0)), (1, (0, a))], [(0, z31)], w) _
        refine e_Ok.run (t' := (103, [(0, (1, 0)), (1, (0, a))], [(0, z31)], w)) 1 rfl ?_
        refine e_Ok.rets rfl rfl ?_
        exact ⟨_, rfl, rfl⟩
    · show e_Ok 20 elay kcode eI (d + 1) 236 (86, [(0, (1, 0)), (1, (0, a))], [(0, 0)], w) _
      refine e_Ok.if1 rfl (fun h32 => ?_) (fun h32 => ?_)
      · replace h32 : (0 : Int) = 0 := h32
        refine e_Ok.run (t' := (103, [(0, (1, 0)), (1, (0, a))], [(0, (-1))], w)) 1 rfl ?_
        refine e_Ok.rets rfl rfl ?_
        exact ⟨_, rfl, rfl⟩
      · replace h32 : (0 : Int) ≠ 0 := by have q : ¬ ((0 : Int) = 0) := h32; omega
        exfalso; omega
theorem c_237 {d : Nat} (hd : 25 ≤ d) {w : eW} (hl : lkK w) : e_Ok 20 elay kcode eI d 237 (0, [(0, (1, 0))], [], w) (fun r w' => ∃ z : Int, r = [(0, z)] ∧ w = w') := by
  obtain ⟨hT, hAll, hC, hW, ka, hF⟩ := hl
  have hw0 := e_Has.get hT (c := 0) (k := 11) (lo := 0) (hi := 4) rfl (by decide)
  refine e_Ok.run (t' := (1, [(0, (1, 0))], [(1, 0)], w)) 1 rfl ?_
  refine e_Ok.getr (z := 74) rfl (el_o rfl) rfl rfl (Eq.trans (e_Has.eq hT rfl) (by omega)) (by omega) ?_
  have h1 := (e_Has.get hT (c := 74) (k := 1) (lo := 0) (hi := 2147483647) rfl (by decide))
  refine e_Ok.getf (z := w 74 1) rfl (el_o rfl) rfl rfl rfl (by omega) ?_
  refine e_Ok.rets rfl rfl ?_
  exact ⟨_, rfl, rfl⟩
theorem c_238 {d : Nat} (hd : 25 ≤ d) {w : eW} (hl : lkK w) {a : Int} (g_a : (-2147483648) ≤ a ∧ a ≤ 2147483647) {b : Int} (g_b : (-2147483648) ≤ b ∧ b ≤ 2147483647) : e_Ok 20 elay kcode eI d 238 (0, [(0, (1, 0)), (1, (0, a)), (2, (0, b))], [], w) (fun r w' => ∃ z : Int, r = [(0, z)] ∧ w = w') := by
  obtain ⟨d, rfl⟩ : ∃ e, d = e + 1 := ⟨d - 1, by omega⟩
  obtain ⟨hT, hAll, hC, hW, ka, hF⟩ := hl
  have hw0 := e_Has.get hT (c := 0) (k := 11) (lo := 0) (hi := 4) rfl (by decide)
  have h741 := e_Has.get hT (c := 74) (k := 1) (lo := 0) (hi := 2147483647) rfl (by decide)
  refine e_Ok.run (t' := (3, [(0, (1, 0)), (1, (0, a)), (2, (0, b))], [(1, 0), (0, 0), (0, a)], w)) 3 rfl ?_
  refine e_Ok.getr (z := 74) rfl (el_o rfl) rfl rfl (Eq.trans (e_Has.eq hT rfl) (by omega)) (by omega) ?_
  have h1 := (e_Has.get hT (c := 74) (k := 1) (lo := 0) (hi := 2147483647) rfl (by decide))
  refine e_Ok.getf (z := w 74 1) rfl (el_o rfl) rfl rfl rfl (by omega) ?_
  refine e_Ok.run (t' := (12, [(0, (1, 0)), (1, (0, a)), (2, (0, b))], [(0, 2000), (0, w 74 1), (0, 0), (0, a)], w)) 1 rfl ?_
  refine e_Ok.mmin rfl rfl (fun z2 hz2 => ?_)
  replace hz2 : (2000 < w 74 1 ∧ z2 = 2000) ∨ ((w 74 1) ≤ 2000 ∧ z2 = w 74 1) := hz2
  refine e_Ok.run (t' := (16, [(0, (1, 0)), (1, (0, a)), (2, (0, b))], [(0, 1), (0, z2), (0, 0), (0, a)], w)) 1 rfl ?_
  refine e_Ok.sub' (z := z2 - 1) rfl (by omega) (by omega) ?_
  refine e_Ok.callS rfl (by omega) rfl rfl (c_242 (by omega) (by omega) (by omega)) (fun r3 w4 h5 => ?_)
  obtain ⟨z6, rfl, rfl, q7⟩ := h5
  obtain ⟨rfl, q7⟩ | ⟨rfl, q7⟩ := q7
  · show e_Ok 20 elay kcode eI (d + 1) 238 (20, [(0, (1, 0)), (1, (0, a)), (2, (0, b))], [(0, 1)], w) _
    refine e_Ok.if1 rfl (fun h8 => ?_) (fun h8 => ?_)
    · replace h8 : (1 : Int) = 0 := h8
      exfalso; omega
    · replace h8 : (1 : Int) ≠ 0 := by have q : ¬ ((1 : Int) = 0) := h8; omega
      refine e_Ok.run (t' := (26, [(0, (1, 0)), (1, (0, a)), (2, (0, b))], [(0, 3), (0, 0), (0, b)], w)) 3 rfl ?_
      refine e_Ok.callS rfl (by omega) rfl rfl (c_242 (by omega) (by omega) (by omega)) (fun r9 w10 h11 => ?_)
      obtain ⟨z12, rfl, rfl, q13⟩ := h11
      obtain ⟨rfl, q13⟩ | ⟨rfl, q13⟩ := q13
      · show e_Ok 20 elay kcode eI (d + 1) 238 (29, [(0, (1, 0)), (1, (0, a)), (2, (0, b))], [(0, 1)], w) _
        refine e_Ok.if1 rfl (fun h14 => ?_) (fun h14 => ?_)
        · replace h14 : (1 : Int) ≠ 0 := h14
          refine e_Ok.run (t' := (35, [(0, (1, 0)), (1, (0, a)), (2, (0, b))], [(1, 0)], w)) 1 rfl ?_
          refine e_Ok.getr (z := 74) rfl (el_o rfl) rfl rfl (Eq.trans (e_Has.eq hT rfl) (by omega)) (by omega) ?_
          refine e_Ok.getr (z := 75) rfl (el_o rfl) rfl rfl (Eq.trans (e_Has.eq hT rfl) (by omega)) (by omega) ?_
          refine e_Ok.run (t' := (43, [(0, (1, 0)), (1, (0, a)), (2, (0, b))], [(0, 4), (0, a), (1, 75)], w)) 2 rfl ?_
          refine e_Ok.mul (z := 4 * a) rfl (by omega) (by omega) ?_
          refine e_Ok.run (t' := (45, [(0, (1, 0)), (1, (0, a)), (2, (0, b))], [(0, b), (0, 4 * a), (1, 75)], w)) 1 rfl ?_
          refine e_Ok.add (z := 4 * a + b) rfl (by omega) (by omega) ?_
          have h15 := (show -2147483648 ≤ w 75 (4 * a + b) ∧ w 75 (4 * a + b) ≤ 2147483647 from hAll 75 (4 * a + b) (by omega) (by omega))
          refine e_Ok.ald (z := w 75 (4 * a + b)) rfl (el_o rfl) rfl (by omega) rfl (by omega) ?_
          refine e_Ok.rets rfl rfl ?_
          exact ⟨_, rfl, rfl⟩
        · replace h14 : (1 : Int) = 0 := by have q : ¬ ((1 : Int) ≠ 0) := h14; omega
          exfalso; omega
      · show e_Ok 20 elay kcode eI (d + 1) 238 (29, [(0, (1, 0)), (1, (0, a)), (2, (0, b))], [(0, 0)], w) _
        refine e_Ok.if1 rfl (fun h16 => ?_) (fun h16 => ?_)
        · replace h16 : (0 : Int) ≠ 0 := h16
          exfalso; omega
        · replace h16 : (0 : Int) = 0 := by have q : ¬ ((0 : Int) ≠ 0) := h16; omega
          refine e_Ok.run (t' := (33, [(0, (1, 0)), (1, (0, a)), (2, (0, b))], [(0, (-1))], w)) 1 rfl ?_
          refine e_Ok.rets rfl rfl ?_
          exact ⟨_, rfl, rfl⟩
  · show e_Ok 20 elay kcode eI (d + 1) 238 (20, [(0, (1, 0)), (1, (0, a)), (2, (0, b))], [(0, 0)], w) _
    refine e_Ok.if1 rfl (fun h17 => ?_) (fun h17 => ?_)
    · replace h17 : (0 : Int) = 0 := h17
      refine e_Ok.run (t' := (33, [(0, (1, 0)), (1, (0, a)), (2, (0, b))], [(0, (-1))], w)) 1 rfl ?_
      refine e_Ok.rets rfl rfl ?_
      exact ⟨_, rfl, rfl⟩
    · replace h17 : (0 : Int) ≠ 0 := by have q : ¬ ((0 : Int) = 0) := h17; omega
      exfalso; omega
theorem c_240 {d : Nat} (hd : 25 ≤ d) {w : eW} (hl : lkK w) {a : Int} (g_a : (-2147483648) ≤ a ∧ a ≤ 2147483647) : e_Ok 20 elay kcode eI d 240 (0, [(0, (1, 0)), (1, (0, a))], [], w) (fun r w' => ∃ z : Int, r = [(0, z)] ∧ w = w') := by
  obtain ⟨hT, hAll, hC, hW, ka, hF⟩ := hl
  have hw0 := e_Has.get hT (c := 0) (k := 11) (lo := 0) (hi := 4) rfl (by decide)
  refine e_Ok.run (t' := (1, [(0, (1, 0)), (1, (0, a))], [(0, a)], w)) 1 rfl ?_
  obtain h1 | h1 | h1 | h1 | h1 | h1 | h1 | h1 | h1 | h1 | h1 : (a : Int) < 0 ∨ (a : Int) = 0 ∨ (a : Int) = 1 ∨ (a : Int) = 2 ∨ (a : Int) = 3 ∨ (a : Int) = 4 ∨ (a : Int) = 5 ∨ (a : Int) = 6 ∨ (a : Int) = 7 ∨ (a : Int) = 8 ∨ 8 < (a : Int) := by omega
  · refine e_Ok.swk (tg := 123) rfl (ke_arm_hd (by omega)) ?_
    refine e_Ok.run (t' := (124, [(0, (1, 0)), (1, (0, a))], [(0, (-1))], w)) 1 rfl ?_
    refine e_Ok.rets rfl rfl ?_
    exact ⟨_, rfl, rfl⟩
  · refine e_Ok.swk (tg := 52) rfl (by rw [ke_arm_tl (by omega)]; exact ke_arm_hd (by omega)) ?_
    refine e_Ok.run (t' := (53, [(0, (1, 0)), (1, (0, a))], [(1, 0)], w)) 1 rfl ?_
    have h2 := (e_Has.get hT (c := 0) (k := 11) (lo := 0) (hi := 4) rfl (by decide))
    refine e_Ok.getf (z := w 0 11) rfl (el_o rfl) rfl rfl rfl (by omega) ?_
    refine e_Ok.rets rfl rfl ?_
    exact ⟨_, rfl, rfl⟩
  · refine e_Ok.swk (tg := 57) rfl (by rw [ke_arm_tl (by omega), ke_arm_tl (by omega)]; exact ke_arm_hd (by omega)) ?_
    refine e_Ok.run (t' := (58, [(0, (1, 0)), (1, (0, a))], [(1, 0)], w)) 1 rfl ?_
    refine e_Ok.getr (z := 250) rfl (el_o rfl) rfl rfl (Eq.trans (e_Has.eq hT rfl) (by omega)) (by omega) ?_
    have h3 := (e_Has.get hT (c := 250) (k := 0) (lo := 0) (hi := 16) rfl (by decide))
    refine e_Ok.getf (z := w 250 0) rfl (el_o rfl) rfl rfl rfl (by omega) ?_
    refine e_Ok.rets rfl rfl ?_
    exact ⟨_, rfl, rfl⟩
  · refine e_Ok.swk (tg := 65) rfl (by rw [ke_arm_tl (by omega), ke_arm_tl (by omega), ke_arm_tl (by omega)]; exact ke_arm_hd (by omega)) ?_
    refine e_Ok.run (t' := (66, [(0, (1, 0)), (1, (0, a))], [(1, 0)], w)) 1 rfl ?_
    refine e_Ok.getr (z := 19) rfl (el_o rfl) rfl rfl (Eq.trans (e_Has.eq hT rfl) (by omega)) (by omega) ?_
    have h4 := (e_Has.get hT (c := 19) (k := 0) (lo := 0) (hi := 4) rfl (by decide))
    refine e_Ok.getf (z := w 19 0) rfl (el_o rfl) rfl rfl rfl (by omega) ?_
    refine e_Ok.rets rfl rfl ?_
    exact ⟨_, rfl, rfl⟩
  · refine e_Ok.swk (tg := 73) rfl (by rw [ke_arm_tl (by omega), ke_arm_tl (by omega), ke_arm_tl (by omega), ke_arm_tl (by omega)]; exact ke_arm_hd (by omega)) ?_
    refine e_Ok.run (t' := (74, [(0, (1, 0)), (1, (0, a))], [(1, 0)], w)) 1 rfl ?_
    refine e_Ok.getr (z := 19) rfl (el_o rfl) rfl rfl (Eq.trans (e_Has.eq hT rfl) (by omega)) (by omega) ?_
    have h5 := (e_Has.get hT (c := 19) (k := 1) (lo := 0) (hi := 32) rfl (by decide))
    refine e_Ok.getf (z := w 19 1) rfl (el_o rfl) rfl rfl rfl (by omega) ?_
    refine e_Ok.rets rfl rfl ?_
    exact ⟨_, rfl, rfl⟩
  · refine e_Ok.swk (tg := 81) rfl (by rw [ke_arm_tl (by omega), ke_arm_tl (by omega), ke_arm_tl (by omega), ke_arm_tl (by omega), ke_arm_tl (by omega)]; exact ke_arm_hd (by omega)) ?_
    refine e_Ok.run (t' := (82, [(0, (1, 0)), (1, (0, a))], [(1, 0)], w)) 1 rfl ?_
    refine e_Ok.getr (z := 250) rfl (el_o rfl) rfl rfl (Eq.trans (e_Has.eq hT rfl) (by omega)) (by omega) ?_
    have h6 := (e_Has.get hT (c := 250) (k := 1) (lo := 0) (hi := 8) rfl (by decide))
    refine e_Ok.getf (z := w 250 1) rfl (el_o rfl) rfl rfl rfl (by omega) ?_
    refine e_Ok.rets rfl rfl ?_
    exact ⟨_, rfl, rfl⟩
  · refine e_Ok.swk (tg := 89) rfl (by rw [ke_arm_tl (by omega), ke_arm_tl (by omega), ke_arm_tl (by omega), ke_arm_tl (by omega), ke_arm_tl (by omega), ke_arm_tl (by omega)]; exact ke_arm_hd (by omega)) ?_
    refine e_Ok.run (t' := (90, [(0, (1, 0)), (1, (0, a))], [(1, 0)], w)) 1 rfl ?_
    refine e_Ok.getr (z := 74) rfl (el_o rfl) rfl rfl (Eq.trans (e_Has.eq hT rfl) (by omega)) (by omega) ?_
    have h7 := (e_Has.get hT (c := 74) (k := 2) (lo := 0) (hi := 8) rfl (by decide))
    refine e_Ok.getf (z := w 74 2) rfl (el_o rfl) rfl rfl rfl (by omega) ?_
    refine e_Ok.rets rfl rfl ?_
    exact ⟨_, rfl, rfl⟩
  · refine e_Ok.swk (tg := 97) rfl (by rw [ke_arm_tl (by omega), ke_arm_tl (by omega), ke_arm_tl (by omega), ke_arm_tl (by omega), ke_arm_tl (by omega), ke_arm_tl (by omega), ke_arm_tl (by omega)]; exact ke_arm_hd (by omega)) ?_
    refine e_Ok.run (t' := (98, [(0, (1, 0)), (1, (0, a))], [(1, 0)], w)) 1 rfl ?_
    have h8 := (show -2147483648 ≤ w 0 12 ∧ w 0 12 ≤ 2147483647 from hAll 0 12 (by omega) (by omega))
    refine e_Ok.getf (z := w 0 12) rfl (el_o rfl) rfl rfl rfl (by omega) ?_
    refine e_Ok.rets rfl rfl ?_
    exact ⟨_, rfl, rfl⟩
  · refine e_Ok.swk (tg := 102) rfl (by rw [ke_arm_tl (by omega), ke_arm_tl (by omega), ke_arm_tl (by omega), ke_arm_tl (by omega), ke_arm_tl (by omega), ke_arm_tl (by omega), ke_arm_tl (by omega), ke_arm_tl (by omega)]; exact ke_arm_hd (by omega)) ?_
    refine e_Ok.run (t' := (103, [(0, (1, 0)), (1, (0, a))], [(1, 0)], w)) 1 rfl ?_
    refine e_Ok.getr (z := 1) rfl (el_o rfl) rfl rfl (Eq.trans (e_Has.eq hT rfl) (by omega)) (by omega) ?_
    have h9 := (show -2147483648 ≤ w 1 0 ∧ w 1 0 ≤ 2147483647 from hAll 1 0 (by omega) (by omega))
    refine e_Ok.getf (z := w 1 0) rfl (el_o rfl) rfl rfl rfl (by omega) ?_
    refine e_Ok.rets rfl rfl ?_
    exact ⟨_, rfl, rfl⟩
  · refine e_Ok.swk (tg := 110) rfl (by rw [ke_arm_tl (by omega), ke_arm_tl (by omega), ke_arm_tl (by omega), ke_arm_tl (by omega), ke_arm_tl (by omega), ke_arm_tl (by omega), ke_arm_tl (by omega), ke_arm_tl (by omega), ke_arm_tl (by omega)]; exact ke_arm_hd (by omega)) ?_
    refine e_Ok.run (t' := (111, [(0, (1, 0)), (1, (0, a))], [(1, 0)], w)) 1 rfl ?_
    have h10 := (show -2147483648 ≤ w 0 13 ∧ w 0 13 ≤ 2147483647 from hAll 0 13 (by omega) (by omega))
    refine e_Ok.getf (z := w 0 13) rfl (el_o rfl) rfl rfl rfl (by omega) ?_
    refine e_Ok.if1 rfl (fun h11 => ?_) (fun h11 => ?_)
    · replace h11 : (w 0 13 : Int) = 0 := h11
      refine e_Ok.run (t' := (122, [(0, (1, 0)), (1, (0, a))], [(0, 0)], w)) 1 rfl ?_
      refine e_Ok.rets rfl rfl ?_
      exact ⟨_, rfl, rfl⟩
    · replace h11 : (w 0 13 : Int) ≠ 0 := by have q : ¬ ((w 0 13 : Int) = 0) := h11; omega
      refine e_Ok.run (t' := (122, [(0, (1, 0)), (1, (0, a))], [(0, 1)], w)) 2 rfl ?_
      refine e_Ok.rets rfl rfl ?_
      exact ⟨_, rfl, rfl⟩
  · refine e_Ok.swk (tg := 123) rfl (by rw [ke_arm_tl (by omega), ke_arm_tl (by omega), ke_arm_tl (by omega), ke_arm_tl (by omega), ke_arm_tl (by omega), ke_arm_tl (by omega), ke_arm_tl (by omega), ke_arm_tl (by omega), ke_arm_tl (by omega), ke_arm_tl (by omega)]; exact ke_arm_hd (by omega)) ?_
    refine e_Ok.run (t' := (124, [(0, (1, 0)), (1, (0, a))], [(0, (-1))], w)) 1 rfl ?_
    refine e_Ok.rets rfl rfl ?_
    exact ⟨_, rfl, rfl⟩
theorem c_241 {d : Nat} (hd : 25 ≤ d) {w : eW} (hl : lkK w) {a : Int} (g_a : (-2147483648) ≤ a ∧ a ≤ 2147483647) : e_Ok 20 elay kcode eI d 241 (0, [(0, (1, 0)), (1, (0, a))], [], w) (fun r w' => ∃ z : Int, r = [(0, z)] ∧ w = w') := by
  obtain ⟨d, rfl⟩ : ∃ e, d = e + 1 := ⟨d - 1, by omega⟩
  obtain ⟨hT, hAll, hC, hW, ka, hF⟩ := hl
  have hw0 := e_Has.get hT (c := 0) (k := 11) (lo := 0) (hi := 4) rfl (by decide)
  refine e_Ok.run (t' := (3, [(0, (1, 0)), (1, (0, a))], [(0, 3), (0, 0), (0, a)], w)) 3 rfl ?_
  refine e_Ok.callS rfl (by omega) rfl rfl (c_242 (by omega) (by omega) (by omega)) (fun r1 w2 h3 => ?_)
  obtain ⟨z4, rfl, rfl, q5⟩ := h3
  obtain ⟨rfl, q5⟩ | ⟨rfl, q5⟩ := q5
  · show e_Ok 20 elay kcode eI (d + 1) 241 (6, [(0, (1, 0)), (1, (0, a))], [(0, 1)], w) _
    refine e_Ok.if1 rfl (fun h6 => ?_) (fun h6 => ?_)
    · replace h6 : (1 : Int) = 0 := h6
      exfalso; omega
    · replace h6 : (1 : Int) ≠ 0 := by have q : ¬ ((1 : Int) = 0) := h6; omega
      refine e_Ok.run (t' := (10, [(0, (1, 0)), (1, (0, a))], [(1, 0)], w)) 1 rfl ?_
      refine e_Ok.getr (z := 274) rfl (el_o rfl) rfl rfl (Eq.trans (e_Has.eq hT rfl) (by omega)) (by omega) ?_
      refine e_Ok.run (t' := (14, [(0, (1, 0)), (1, (0, a))], [(0, a), (1, 274)], w)) 1 rfl ?_
      have h7 := (show -2147483648 ≤ w 274 a ∧ w 274 a ≤ 2147483647 from hAll 274 a (by omega) (by omega))
      refine e_Ok.ald (z := w 274 a) rfl (el_o rfl) rfl (by omega) rfl (by omega) ?_
      refine e_Ok.run (t' := (19, [(0, (1, 0)), (1, (0, a))], [(0, w 274 a)], w)) 1 rfl ?_
      refine e_Ok.rets rfl rfl ?_
      exact ⟨_, rfl, rfl⟩
  · show e_Ok 20 elay kcode eI (d + 1) 241 (6, [(0, (1, 0)), (1, (0, a))], [(0, 0)], w) _
    refine e_Ok.if1 rfl (fun h8 => ?_) (fun h8 => ?_)
    · replace h8 : (0 : Int) = 0 := h8
      refine e_Ok.run (t' := (19, [(0, (1, 0)), (1, (0, a))], [(0, (-1))], w)) 1 rfl ?_
      refine e_Ok.rets rfl rfl ?_
      exact ⟨_, rfl, rfl⟩
    · replace h8 : (0 : Int) ≠ 0 := by have q : ¬ ((0 : Int) = 0) := h8; omega
      exfalso; omega
theorem c_211 {d : Nat} (hd : 25 ≤ d) {w : eW} (hl : lkK w) {a : Int} (g_a : (-2147483648) ≤ a ∧ a ≤ 2147483647) : e_Ok 20 elay kcode eI d 211 (0, [(0, (1, 0)), (1, (0, a))], [], w) (fun r w' => ∃ z : Int, r = [(0, z)] ∧ w = w') := by
  obtain ⟨d, rfl⟩ : ∃ e, d = e + 1 := ⟨d - 1, by omega⟩
  obtain ⟨hT, hAll, hC, hW, ka, hF⟩ := hl
  have hw0 := e_Has.get hT (c := 0) (k := 11) (lo := 0) (hi := 4) rfl (by decide)
  refine e_Ok.run (t' := (3, [(0, (1, 0)), (1, (0, a))], [(0, 1), (0, 0), (0, a)], w)) 3 rfl ?_
  refine e_Ok.callS rfl (by omega) rfl rfl (c_242 (by omega) (by omega) (by omega)) (fun r1 w2 h3 => ?_)
  obtain ⟨z4, rfl, rfl, q5⟩ := h3
  obtain ⟨rfl, q5⟩ | ⟨rfl, q5⟩ := q5
  · show e_Ok 20 elay kcode eI (d + 1) 211 (6, [(0, (1, 0)), (1, (0, a))], [(0, 1)], w) _
    refine e_Ok.if1 rfl (fun h6 => ?_) (fun h6 => ?_)
    · replace h6 : (1 : Int) = 0 := h6
      exfalso; omega
    · replace h6 : (1 : Int) ≠ 0 := by have q : ¬ ((1 : Int) = 0) := h6; omega
      refine e_Ok.run (t' := (10, [(0, (1, 0)), (1, (0, a))], [(1, 0)], w)) 1 rfl ?_
      refine e_Ok.getr (z := 1) rfl (el_o rfl) rfl rfl (Eq.trans (e_Has.eq hT rfl) (by omega)) (by omega) ?_
      have h7 := (show -2147483648 ≤ w 1 1 ∧ w 1 1 ≤ 2147483647 from hAll 1 1 (by omega) (by omega))
      refine e_Ok.getf (z := w 1 1) rfl (el_o rfl) rfl rfl rfl (by omega) ?_
      refine e_Ok.if1 rfl (fun h8 => ?_) (fun h8 => ?_)
      · replace h8 : (w 1 1 : Int) ≥ 0 := h8
        refine e_Ok.run (t' := (22, [(0, (1, 0)), (1, (0, a))], [(1, 0)], w)) 1 rfl ?_
        have h9 := (show -2147483648 ≤ w 0 13 ∧ w 0 13 ≤ 2147483647 from hAll 0 13 (by omega) (by omega))
        refine e_Ok.getf (z := w 0 13) rfl (el_o rfl) rfl rfl rfl (by omega) ?_
        refine e_Ok.if1 rfl (fun h10 => ?_) (fun h10 => ?_)
        · replace h10 : (w 0 13 : Int) = 0 := h10
          refine e_Ok.run (t' := (32, [(0, (1, 0)), (1, (0, a))], [(0, a)], w)) 1 rfl ?_
          refine e_Ok.if1 rfl (fun h11 => ?_) (fun h11 => ?_)
          · replace h11 : (a : Int) ≠ 0 := h11
            refine e_Ok.run (t' := (46, [(0, (1, 0)), (1, (0, a))], [(1, 0)], w)) 1 rfl ?_
            refine e_Ok.getr (z := 1) rfl (el_o rfl) rfl rfl (Eq.trans (e_Has.eq hT rfl) (by omega)) (by omega) ?_
            have h12 := (show -2147483648 ≤ w 1 2 ∧ w 1 2 ≤ 2147483647 from hAll 1 2 (by omega) (by omega))
            refine e_Ok.getf (z := w 1 2) rfl (el_o rfl) rfl rfl rfl (by omega) ?_
            refine e_Ok.rets rfl rfl ?_
            exact ⟨_, rfl, rfl⟩
          · replace h11 : (a : Int) = 0 := by have q : ¬ ((a : Int) ≠ 0) := h11; omega
            refine e_Ok.run (t' := (36, [(0, (1, 0)), (1, (0, a))], [(1, 0)], w)) 1 rfl ?_
            refine e_Ok.getr (z := 1) rfl (el_o rfl) rfl rfl (Eq.trans (e_Has.eq hT rfl) (by omega)) (by omega) ?_
            refine e_Ok.getf (z := w 1 1) rfl (el_o rfl) rfl rfl rfl (by omega) ?_
            refine e_Ok.run (t' := (52, [(0, (1, 0)), (1, (0, a))], [(0, w 1 1)], w)) 1 rfl ?_
            refine e_Ok.rets rfl rfl ?_
            exact ⟨_, rfl, rfl⟩
        · replace h10 : (w 0 13 : Int) ≠ 0 := by have q : ¬ ((w 0 13 : Int) = 0) := h10; omega
          refine e_Ok.run (t' := (30, [(0, (1, 0)), (1, (0, a))], [(0, (-2))], w)) 1 rfl ?_
          refine e_Ok.rets rfl rfl ?_
          exact ⟨_, rfl, rfl⟩
      · replace h8 : (w 1 1 : Int) < 0 := by have q : ¬ ((w 1 1 : Int) ≥ 0) := h8; omega
        refine e_Ok.run (t' := (20, [(0, (1, 0)), (1, (0, a))], [(0, (-1))], w)) 1 rfl ?_
        refine e_Ok.rets rfl rfl ?_
        exact ⟨_, rfl, rfl⟩
  · show e_Ok 20 elay kcode eI (d + 1) 211 (6, [(0, (1, 0)), (1, (0, a))], [(0, 0)], w) _
    refine e_Ok.if1 rfl (fun h13 => ?_) (fun h13 => ?_)
    · replace h13 : (0 : Int) = 0 := h13
      refine e_Ok.run (t' := (20, [(0, (1, 0)), (1, (0, a))], [(0, (-1))], w)) 1 rfl ?_
      refine e_Ok.rets rfl rfl ?_
      exact ⟨_, rfl, rfl⟩
    · replace h13 : (0 : Int) ≠ 0 := by have q : ¬ ((0 : Int) = 0) := h13; omega
      exfalso; omega
theorem c_118 {d : Nat} {w : eW} (hT : e_Has kTy w) {b l : Int} (g_b : -2147483648 ≤ b ∧ b ≤ 2147483647) (hl : w 1 0 = l) (gl : 0 ≤ l ∧ l ≤ 3996) : e_Ok 20 elay kcode eI d 118 (0, [(0, (1, 1)), (1, (0, b))], [], w) (fun r w' => r = [] ∧ e_fr kTp w w' ∧ e_Has kTy w' ∧ w' 1 0 = l + 4) := by
  refine e_Ok.run (t' := (3, [(2, (0, 24)), (0, (1, 1)), (1, (0, b))], [], w)) 2 rfl ?_
  have hL1 : ∀ (nn : Nat) (y2 : Int) (v1 : eW) (q1 : Int), e_fr kTp w v1 ∧ e_Has kTy v1 ∧ v1 1 0 = l + q1 ∧ ((y2 = 24 - 8 * q1 ∧ 0 ≤ q1 ∧ q1 ≤ 4)) → 4 - q1 < nn → e_Ok 20 elay kcode eI d 118 (3, [(0, (1, 1)), (1, (0, b)), (2, (0, y2))], [], v1) (fun r w' => r = [] ∧ e_fr kTp w w' ∧ e_Has kTy w' ∧ w' 1 0 = l + 4) := by
    intro nn
    induction nn with
    | zero => intro y2 v1 q1 hj hm; obtain ⟨j3, j4, j5, j6⟩ := hj; exfalso; omega
    | succ nn ih2 =>
      intro y2 v1 q1 hj hm
      obtain ⟨j3, j4, j5, j6⟩ := hj
      refine e_Ok.run (t' := (4, [(0, (1, 1)), (1, (0, b)), (2, (0, y2))], [(0, y2)], v1)) 1 rfl ?_
      refine e_Ok.if1 rfl (fun h7 => ?_) (fun h7 => ?_)
      · replace h7 : (y2 : Int) < 0 := h7
        refine e_Ok.rets rfl rfl ?_
        exact ⟨rfl, j3, j4, by omega⟩
      · replace h7 : (y2 : Int) ≥ 0 := by have q : ¬ ((y2 : Int) < 0) := h7; omega
        refine e_Ok.run (t' := (8, [(0, (1, 1)), (1, (0, b)), (2, (0, y2))], [(1, 1)], v1)) 1 rfl ?_
        refine e_Ok.getf (z := l + q1) rfl (el_o rfl) rfl rfl j5 (by omega) ?_
        refine e_Ok.run (t' := (14, [(0, (1, 1)), (1, (0, b)), (2, (0, y2))], [(0, 4000), (0, l + q1)], v1)) 1 rfl ?_
        refine e_Ok.if2 rfl (fun h8 => ?_) (fun h8 => ?_)
        · replace h8 : (l + q1 : Int) ≥ 4000 := h8
          refine e_Ok.rets rfl rfl ?_
          exact ⟨rfl, j3, j4, by omega⟩
        · replace h8 : (l + q1 : Int) < 4000 := by have q : ¬ ((l + q1 : Int) ≥ 4000) := h8; omega
          refine e_Ok.run (t' := (18, [(0, (1, 1)), (1, (0, b)), (2, (0, y2))], [(1, 1)], v1)) 1 rfl ?_
          refine e_Ok.getr (z := 5) rfl (el_o rfl) rfl rfl ((j3 1 4 (by unfold kTp; omega)).trans (Eq.trans (e_Has.eq hT rfl) (by omega))) (by omega) ?_
          refine e_Ok.run (t' := (22, [(0, (1, 1)), (1, (0, b)), (2, (0, y2))], [(1, 1), (1, 5)], v1)) 1 rfl ?_
          refine e_Ok.getf (z := l + q1) rfl (el_o rfl) rfl rfl j5 (by omega) ?_
          refine e_Ok.run (t' := (27, [(0, (1, 1)), (1, (0, b)), (2, (0, y2))], [(0, y2), (0, b), (0, l + q1), (1, 5)], v1)) 2 rfl ?_
          refine e_Ok.any rfl (eB_any _ _) (fun z9 z9a z9b => ?_)
          refine e_Ok.i2b rfl (fun z10 hz10 => ?_)
          obtain ⟨z11, hz11, z11r⟩ := e_nar_2 z10
          refine e_Ok.ast rfl (el_o rfl) rfl hz11 (by omega) ?_
          generalize hw12 : e_up v1 5 (l + q1) z11 = w12
          have f13 : e_fr kTp w w12 := e_fr.up j3 hw12 (by unfold kTp; omega)
          have hT14 : e_Has kTy w12 := e_Has.ups j4 hw12 rfl
          refine e_Ok.run (t' := (32, [(0, (1, 1)), (1, (0, b)), (2, (0, y2))], [(1, 1), (1, 1)], w12)) 2 rfl ?_
          refine e_Ok.getf (z := l + q1) rfl (el_o rfl) rfl rfl (by rw [← hw12]; exact (e_up_ne _ _ (Or.inl (by omega))).trans j5) (by omega) ?_
          refine e_Ok.run (t' := (36, [(0, (1, 1)), (1, (0, b)), (2, (0, y2))], [(0, 1), (0, l + q1), (1, 1)], w12)) 1 rfl ?_
          refine e_Ok.add (z := l + q1 + 1) rfl (by omega) (by omega) ?_
          refine e_Ok.putf rfl (el_o rfl) rfl rfl ?_
          generalize hw15 : e_up w12 1 0 (l + q1 + 1) = w15
          have f16 : e_fr kTp w w15 := e_fr.up f13 hw15 (by unfold kTp; omega)
          have hT17 : e_Has kTy w15 := e_Has.ups hT14 hw15 rfl
          refine e_Ok.inc (z := y2 - 8) rfl rfl (by omega) (by omega) ?_
          show e_Ok 20 elay kcode eI d 118 (43, [(2, (0, y2 - 8)), (0, (1, 1)), (1, (0, b))], [], w15) _
          refine e_Ok.run (t' := (3, [(2, (0, y2 - 8)), (0, (1, 1)), (1, (0, b))], [], w15)) 1 rfl ?_
          refine e_Ok.sub kAlk (e_sub_of rfl ?_) (ih2 (y2 - 8) w15 (q1 + 1) ⟨f16, hT17, (by have g : w15 1 0 = l + q1 + 1 := (by rw [← hw15]; exact e_up_eq _ _ _ _); omega), by omega⟩ (by omega))
          exact ⟨rfl, rfl, rfl, trivial⟩
  refine e_Ok.sub kAlk (e_sub_of rfl ?_) (hL1 (4 + 1 : Int).toNat 24 w 0 ⟨(e_fr.refl w), hT, (by omega), by omega⟩ (by omega))
  exact ⟨rfl, rfl, rfl, trivial⟩
theorem c_190 {d : Nat} (hd : 22 ≤ d) {w : eW} (hT : e_Has kTy w) {a b c e g l : Int} (g_a : -2147483648 ≤ a ∧ a ≤ 2147483647) (g_b : -2147483648 ≤ b ∧ b ≤ 2147483647) (g_c : -2147483648 ≤ c ∧ c ≤ 2147483647) (g_e : -2147483648 ≤ e ∧ e ≤ 2147483647) (g_g : -2147483648 ≤ g ∧ g ≤ 2147483647) (hl : w 1 0 = l) (gl : 0 ≤ l ∧ l ≤ 4000) : e_Ok 20 elay kcode eI d 190 (0, [(0, (1, 0)), (1, (0, a)), (2, (0, b)), (3, (0, c)), (4, (0, e)), (5, (0, g))], [], w) (fun r w' => ∃ z : Int, r = [(0, z)] ∧ e_fr kTp w w' ∧ e_Has kTy w' ∧ ((3980 < l ∧ z = -3 ∧ w' = w) ∨ (l ≤ 3980 ∧ z = l + 20 ∧ w' 1 0 = l + 20))) := by
  obtain ⟨d, rfl⟩ : ∃ e, d = e + 1 := ⟨d - 1, by omega⟩
  refine e_Ok.run (t' := (1, [(0, (1, 0)), (1, (0, a)), (2, (0, b)), (3, (0, c)), (4, (0, e)), (5, (0, g))], [(1, 0)], w)) 1 rfl ?_
  refine e_Ok.getr (z := 1) rfl (el_o rfl) rfl rfl (Eq.trans (e_Has.eq hT rfl) (by omega)) (by omega) ?_
  refine e_Ok.getf (z := l) rfl (el_o rfl) rfl rfl hl (by omega) ?_
  refine e_Ok.run (t' := (10, [(0, (1, 0)), (1, (0, a)), (2, (0, b)), (3, (0, c)), (4, (0, e)), (5, (0, g))], [(0, 3980), (0, l)], w)) 1 rfl ?_
  refine e_Ok.if2 rfl (fun h1 => ?_) (fun h1 => ?_)
  · replace h1 : (l : Int) ≤ 3980 := h1
    refine e_Ok.run (t' := (17, [(0, (1, 0)), (1, (0, a)), (2, (0, b)), (3, (0, c)), (4, (0, e)), (5, (0, g))], [(1, 0)], w)) 1 rfl ?_
    refine e_Ok.getr (z := 1) rfl (el_o rfl) rfl rfl (Eq.trans (e_Has.eq hT rfl) (by omega)) (by omega) ?_
    refine e_Ok.run (t' := (21, [(0, (1, 0)), (1, (0, a)), (2, (0, b)), (3, (0, c)), (4, (0, e)), (5, (0, g))], [(0, a), (1, 1)], w)) 1 rfl ?_
    refine e_Ok.callV rfl (by omega) rfl rfl rfl rfl (c_118 hT (l := l) (by omega) (by have g := hl; omega) (by omega)) (fun r2 w3 h4 => ?_)
    obtain ⟨rfl, q5f, q5T, q5x⟩ := h4
    have f6 : e_fr kTp w w3 := e_fr.trans (e_fr.refl w) (e_fr.mono q5f (fun c k q => by exact q))
    replace q5x : w3 1 0 = l + 4 := by omega
    show e_Ok 20 elay kcode eI (d + 1) 190 (24, [(0, (1, 0)), (1, (0, a)), (2, (0, b)), (3, (0, c)), (4, (0, e)), (5, (0, g))], [], w3) _
    refine e_Ok.run (t' := (25, [(0, (1, 0)), (1, (0, a)), (2, (0, b)), (3, (0, c)), (4, (0, e)), (5, (0, g))], [(1, 0)], w3)) 1 rfl ?_
    refine e_Ok.getr (z := 1) rfl (el_o rfl) rfl rfl ((q5f 0 0 (by unfold kTp; omega)).trans (Eq.trans (e_Has.eq hT rfl) (by omega))) (by omega) ?_
    refine e_Ok.run (t' := (29, [(0, (1, 0)), (1, (0, a)), (2, (0, b)), (3, (0, c)), (4, (0, e)), (5, (0, g))], [(0, b), (1, 1)], w3)) 1 rfl ?_
    refine e_Ok.callV rfl (by omega) rfl rfl rfl rfl (c_118 q5T (l := l + 4) (by omega) (by have g := q5x; omega) (by omega)) (fun r7 w8 h9 => ?_)
    obtain ⟨rfl, q10f, q10T, q10x⟩ := h9
    have f11 : e_fr kTp w w8 := e_fr.trans f6 (e_fr.mono q10f (fun c k q => by exact q))
    replace q10x : w8 1 0 = l + 8 := by omega
    show e_Ok 20 elay kcode eI (d + 1) 190 (32, [(0, (1, 0)), (1, (0, a)), (2, (0, b)), (3, (0, c)), (4, (0, e)), (5, (0, g))], [], w8) _
    refine e_Ok.run (t' := (33, [(0, (1, 0)), (1, (0, a)), (2, (0, b)), (3, (0, c)), (4, (0, e)), (5, (0, g))], [(1, 0)], w8)) 1 rfl ?_
    refine e_Ok.getr (z := 1) rfl (el_o rfl) rfl rfl ((q10f 0 0 (by unfold kTp; omega)).trans ((q5f 0 0 (by unfold kTp; omega)).trans (Eq.trans (e_Has.eq hT rfl) (by omega)))) (by omega) ?_
    refine e_Ok.run (t' := (37, [(0, (1, 0)), (1, (0, a)), (2, (0, b)), (3, (0, c)), (4, (0, e)), (5, (0, g))], [(0, c), (1, 1)], w8)) 1 rfl ?_
    refine e_Ok.callV rfl (by omega) rfl rfl rfl rfl (c_118 q10T (l := l + 8) (by omega) (by have g := q10x; omega) (by omega)) (fun r12 w13 h14 => ?_)
    obtain ⟨rfl, q15f, q15T, q15x⟩ := h14
    have f16 : e_fr kTp w w13 := e_fr.trans f11 (e_fr.mono q15f (fun c k q => by exact q))
    replace q15x : w13 1 0 = l + 12 := by omega
    show e_Ok 20 elay kcode eI (d + 1) 190 (40, [(0, (1, 0)), (1, (0, a)), (2, (0, b)), (3, (0, c)), (4, (0, e)), (5, (0, g))], [], w13) _
    refine e_Ok.run (t' := (41, [(0, (1, 0)), (1, (0, a)), (2, (0, b)), (3, (0, c)), (4, (0, e)), (5, (0, g))], [(1, 0)], w13)) 1 rfl ?_
    refine e_Ok.getr (z := 1) rfl (el_o rfl) rfl rfl ((q15f 0 0 (by unfold kTp; omega)).trans ((q10f 0 0 (by unfold kTp; omega)).trans ((q5f 0 0 (by unfold kTp; omega)).trans (Eq.trans (e_Has.eq hT rfl) (by omega))))) (by omega) ?_
    refine e_Ok.run (t' := (46, [(0, (1, 0)), (1, (0, a)), (2, (0, b)), (3, (0, c)), (4, (0, e)), (5, (0, g))], [(0, e), (1, 1)], w13)) 1 rfl ?_
    refine e_Ok.callV rfl (by omega) rfl rfl rfl rfl (c_118 q15T (l := l + 12) (by omega) (by have g := q15x; omega) (by omega)) (fun r17 w18 h19 => ?_)
    obtain ⟨rfl, q20f, q20T, q20x⟩ := h19
    have f21 : e_fr kTp w w18 := e_fr.trans f16 (e_fr.mono q20f (fun c k q => by exact q))
    replace q20x : w18 1 0 = l + 16 := by omega
    show e_Ok 20 elay kcode eI (d + 1) 190 (49, [(0, (1, 0)), (1, (0, a)), (2, (0, b)), (3, (0, c)), (4, (0, e)), (5, (0, g))], [], w18) _
    refine e_Ok.run (t' := (50, [(0, (1, 0)), (1, (0, a)), (2, (0, b)), (3, (0, c)), (4, (0, e)), (5, (0, g))], [(1, 0)], w18)) 1 rfl ?_
    refine e_Ok.getr (z := 1) rfl (el_o rfl) rfl rfl ((q20f 0 0 (by unfold kTp; omega)).trans ((q15f 0 0 (by unfold kTp; omega)).trans ((q10f 0 0 (by unfold kTp; omega)).trans ((q5f 0 0 (by unfold kTp; omega)).trans (Eq.trans (e_Has.eq hT rfl) (by omega)))))) (by omega) ?_
    refine e_Ok.run (t' := (55, [(0, (1, 0)), (1, (0, a)), (2, (0, b)), (3, (0, c)), (4, (0, e)), (5, (0, g))], [(0, g), (1, 1)], w18)) 1 rfl ?_
    refine e_Ok.callV rfl (by omega) rfl rfl rfl rfl (c_118 q20T (l := l + 16) (by omega) (by have g := q20x; omega) (by omega)) (fun r22 w23 h24 => ?_)
    obtain ⟨rfl, q25f, q25T, q25x⟩ := h24
    have f26 : e_fr kTp w w23 := e_fr.trans f21 (e_fr.mono q25f (fun c k q => by exact q))
    replace q25x : w23 1 0 = l + 20 := by omega
    show e_Ok 20 elay kcode eI (d + 1) 190 (58, [(0, (1, 0)), (1, (0, a)), (2, (0, b)), (3, (0, c)), (4, (0, e)), (5, (0, g))], [], w23) _
    refine e_Ok.run (t' := (59, [(0, (1, 0)), (1, (0, a)), (2, (0, b)), (3, (0, c)), (4, (0, e)), (5, (0, g))], [(1, 0)], w23)) 1 rfl ?_
    refine e_Ok.getr (z := 1) rfl (el_o rfl) rfl rfl ((q25f 0 0 (by unfold kTp; omega)).trans ((q20f 0 0 (by unfold kTp; omega)).trans ((q15f 0 0 (by unfold kTp; omega)).trans ((q10f 0 0 (by unfold kTp; omega)).trans ((q5f 0 0 (by unfold kTp; omega)).trans (Eq.trans (e_Has.eq hT rfl) (by omega))))))) (by omega) ?_
    refine e_Ok.getf (z := l + 20) rfl (el_o rfl) rfl rfl q25x (by omega) ?_
    refine e_Ok.rets rfl rfl ?_
    exact ⟨_, rfl, f26, q25T, Or.inr ⟨by omega, by omega, (by have g := q25x; omega)⟩⟩
  · replace h1 : (l : Int) > 3980 := by have q : ¬ ((l : Int) ≤ 3980) := h1; omega
    refine e_Ok.run (t' := (15, [(0, (1, 0)), (1, (0, a)), (2, (0, b)), (3, (0, c)), (4, (0, e)), (5, (0, g))], [(0, (-3))], w)) 1 rfl ?_
    refine e_Ok.rets rfl rfl ?_
    exact ⟨_, rfl, e_fr.refl w, hT, Or.inl ⟨by omega, rfl, rfl⟩⟩
theorem c_191 {d : Nat} (hd : 21 ≤ d) {w : eW} (hT : e_Has kTy w) {a l : Int} (g_a : -2147483648 ≤ a ∧ a ≤ 2147483647) (hl : w 1 0 = l) (gl : 0 ≤ l ∧ l ≤ 4000) : e_Ok 20 elay kcode eI d 191 (0, [(0, (1, 0)), (1, (0, a))], [], w) (fun r w' => ∃ z : Int, r = [(0, z)] ∧ e_fr kTp w w' ∧ e_Has kTy w' ∧ (((a < 0 ∨ l < a) ∧ z = -1 ∧ w' = w) ∨ ((0 ≤ a ∧ a ≤ l) ∧ z = l - a ∧ w' 1 0 = l - a))) := by
  obtain ⟨d, rfl⟩ : ∃ e, d = e + 1 := ⟨d - 1, by omega⟩
  refine e_Ok.run (t' := (3, [(0, (1, 0)), (1, (0, a))], [(1, 0), (0, 0), (0, a)], w)) 3 rfl ?_
  refine e_Ok.getr (z := 1) rfl (el_o rfl) rfl rfl (Eq.trans (e_Has.eq hT rfl) (by omega)) (by omega) ?_
  refine e_Ok.getf (z := l) rfl (el_o rfl) rfl rfl hl (by omega) ?_
  refine e_Ok.callS rfl (by omega) rfl rfl (c_242 (by omega) (by omega) (by omega)) (fun r1 w2 h3 => ?_)
  obtain ⟨z4, rfl, rfl, q5⟩ := h3
  obtain ⟨rfl, q5⟩ | ⟨rfl, q5⟩ := q5
  · show e_Ok 20 elay kcode eI (d + 1) 191 (12, [(0, (1, 0)), (1, (0, a))], [(0, 1)], w) _
    refine e_Ok.if1 rfl (fun h6 => ?_) (fun h6 => ?_)
    · replace h6 : (1 : Int) ≠ 0 := h6
      refine e_Ok.run (t' := (18, [(0, (1, 0)), (1, (0, a))], [(1, 0)], w)) 1 rfl ?_
      refine e_Ok.getr (z := 1) rfl (el_o rfl) rfl rfl (Eq.trans (e_Has.eq hT rfl) (by omega)) (by omega) ?_
      refine e_Ok.run (t' := (22, [(0, (1, 0)), (1, (0, a))], [(1, 1), (1, 1)], w)) 1 rfl ?_
      refine e_Ok.getf (z := l) rfl (el_o rfl) rfl rfl hl (by omega) ?_
      refine e_Ok.run (t' := (26, [(0, (1, 0)), (1, (0, a))], [(0, a), (0, l), (1, 1)], w)) 1 rfl ?_
      refine e_Ok.sub' (z := l - a) rfl (by omega) (by omega) ?_
      refine e_Ok.putf rfl (el_o rfl) rfl rfl ?_
      generalize hw7 : e_up w 1 0 (l - a) = w7
      have f8 : e_fr kTp w w7 := e_fr.up (e_fr.refl w) hw7 (by unfold kTp; omega)
      have hT9 : e_Has kTy w7 := e_Has.ups hT hw7 rfl
      refine e_Ok.run (t' := (31, [(0, (1, 0)), (1, (0, a))], [(1, 0)], w7)) 1 rfl ?_
      refine e_Ok.getr (z := 1) rfl (el_o rfl) rfl rfl (by rw [← hw7]; exact (e_up_ne _ _ (Or.inl (by omega))).trans (Eq.trans (e_Has.eq hT rfl) (by omega))) (by omega) ?_
      refine e_Ok.getf (z := l - a) rfl (el_o rfl) rfl rfl (by rw [← hw7]; exact e_up_eq _ _ _ _) (by omega) ?_
      refine e_Ok.rets rfl rfl ?_
      exact ⟨_, rfl, f8, hT9, Or.inr ⟨by omega, by omega, (by rw [← hw7]; exact e_up_eq _ _ _ _)⟩⟩
    · replace h6 : (1 : Int) = 0 := by have q : ¬ ((1 : Int) ≠ 0) := h6; omega
      exfalso; omega
  · show e_Ok 20 elay kcode eI (d + 1) 191 (12, [(0, (1, 0)), (1, (0, a))], [(0, 0)], w) _
    refine e_Ok.if1 rfl (fun h10 => ?_) (fun h10 => ?_)
    · replace h10 : (0 : Int) ≠ 0 := h10
      exfalso; omega
    · replace h10 : (0 : Int) = 0 := by have q : ¬ ((0 : Int) ≠ 0) := h10; omega
      refine e_Ok.run (t' := (16, [(0, (1, 0)), (1, (0, a))], [(0, (-1))], w)) 1 rfl ?_
      refine e_Ok.rets rfl rfl ?_
      exact ⟨_, rfl, e_fr.refl w, hT, Or.inl ⟨by omega, rfl, rfl⟩⟩
end
