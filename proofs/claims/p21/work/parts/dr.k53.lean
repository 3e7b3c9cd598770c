noncomputable section
/-! the class: about, wires -/
def kF15 (c k : Int) : Prop := c = 15
def kF18 (c k : Int) : Prop := c = 18
def kF92 (a : Int) (c k : Int) : Prop := c = 17 * a + 92
def kF74 (c k : Int) : Prop := c = 274
theorem c_235 {d : Nat} (hd : 25 ≤ d) {w : eW} (hl : lkK w) {a : Int} (g_a : (-2147483648) ≤ a ∧ a ≤ 2147483647) {b : Int} (g_b : (-2147483648) ≤ b ∧ b ≤ 2147483647) : e_Ok 20 elay kcode eI d 235 (0, [(0, (1, 0)), (1, (0, a)), (2, (0, b))], [], w) (fun r w' => ∃ z : Int, r = [(0, z)] ∧ w = w') := by
  obtain ⟨d, rfl⟩ : ∃ e, d = e + 1 := ⟨d - 1, by omega⟩
  obtain ⟨hT, hAll, hC, hW, ka, hF⟩ := hl
  have hw0 := e_Has.get hT (c := 0) (k := 11) (lo := 0) (hi := 4) rfl (by decide)
  have hp1 := e_Has.get hT (c := 19) (k := 1) (lo := 0) (hi := 32) rfl (by decide)
  refine e_Ok.run (t' := (3, [(0, (1, 0)), (1, (0, a)), (2, (0, b))], [(1, 0), (0, 0), (0, a)], w)) 3 rfl ?_
  refine e_Ok.getr (z := 19) rfl (el_o rfl) rfl rfl (Eq.trans (e_Has.eq hT rfl) (by omega)) (by omega) ?_
  have h1 := (e_Has.get hT (c := 19) (k := 1) (lo := 0) (hi := 32) rfl (by decide))
  refine e_Ok.getf (z := w 19 1) rfl (el_o rfl) rfl rfl rfl (by omega) ?_
  refine e_Ok.run (t' := (10, [(0, (1, 0)), (1, (0, a)), (2, (0, b))], [(0, 1), (0, w 19 1), (0, 0), (0, a)], w)) 1 rfl ?_
  refine e_Ok.sub' (z := w 19 1 - 1) rfl (by omega) (by omega) ?_
  refine e_Ok.callS rfl (by omega) rfl rfl (c_242 (by omega) (by omega) (by omega)) (fun r2 w3 h4 => ?_)
  obtain ⟨z5, rfl, rfl, q6⟩ := h4
  obtain ⟨rfl, q6⟩ | ⟨rfl, q6⟩ := q6
  · show e_Ok 20 elay kcode eI (d + 1) 235 (14, [(0, (1, 0)), (1, (0, a)), (2, (0, b))], [(0, 1)], w) _
    refine e_Ok.if1 rfl (fun h7 => ?_) (fun h7 => ?_)
    · replace h7 : (1 : Int) ≠ 0 := h7
      have hfp := (hF.2 a (by omega) (by omega)).1
      refine e_Ok.run (t' := (20, [(0, (1, 0)), (1, (0, a)), (2, (0, b))], [(1, 0)], w)) 1 rfl ?_
      refine e_Ok.getr (z := 19) rfl (el_o rfl) rfl rfl (Eq.trans (e_Has.eq hT rfl) (by omega)) (by omega) ?_
      refine e_Ok.getr (z := 36) rfl (el_o rfl) rfl rfl (Eq.trans (e_Has.eq hT rfl) (by omega)) (by omega) ?_
      refine e_Ok.run (t' := (27, [(0, (1, 0)), (1, (0, a)), (2, (0, b))], [(0, a), (1, 36)], w)) 1 rfl ?_
      refine e_Ok.ald (z := w 36 a) rfl (el_o rfl) rfl (by omega) rfl (by omega) ?_
      refine e_Ok.run (t' := (33, [(3, (0, w 36 a)), (0, (1, 0)), (1, (0, a)), (2, (0, b))], [(0, 7), (0, 4), (0, w 36 a)], w)) 4 rfl ?_
      refine e_Ok.callS rfl (by omega) rfl rfl (c_242 (by omega) (by omega) (by omega)) (fun r8 w9 h10 => ?_)
      obtain ⟨z11, rfl, rfl, q12⟩ := h10
      obtain ⟨rfl, q12⟩ | ⟨rfl, q12⟩ := q12
      · show e_Ok 20 elay kcode eI (d + 1) 235 (36, [(3, (0, w 36 a)), (0, (1, 0)), (1, (0, a)), (2, (0, b))], [(0, 1)], w) _
        refine e_Ok.if1 rfl (fun h13 => ?_) (fun h13 => ?_)
        · replace h13 : (1 : Int) = 0 := h13
          exfalso; omega
        · replace h13 : (1 : Int) ≠ 0 := by have q : ¬ ((1 : Int) = 0) := h13; omega
          refine e_Ok.run (t' := (40, [(3, (0, w 36 a)), (0, (1, 0)), (1, (0, a)), (2, (0, b))], [(1, 0)], w)) 1 rfl ?_
          refine e_Ok.getr (z := 9) rfl (el_o rfl) rfl rfl (Eq.trans (e_Has.eq hT rfl) (by omega)) (by omega) ?_
          refine e_Ok.run (t' := (45, [(3, (0, w 36 a)), (0, (1, 0)), (1, (0, a)), (2, (0, b))], [(0, 4), (0, w 36 a), (1, 9)], w)) 2 rfl ?_
          refine e_Ok.sub' (z := w 36 a - 4) rfl (by omega) (by omega) ?_
          refine e_Ok.aald (z := 17 * w 36 a + 18) rfl (el_o rfl) rfl (by omega) (Eq.trans (e_Has.eq hT (k9 (by omega))) (by omega)) (by omega) ?_
          refine e_Ok.run (t' := (54, [(4, (1, 17 * w 36 a + 18)), (3, (0, w 36 a)), (0, (1, 0)), (1, (0, a)), (2, (0, b))], [(0, b)], w)) 3 rfl ?_
          obtain h14 | h14 | h14 | h14 | h14 | h14 : (b : Int) < 0 ∨ (b : Int) = 0 ∨ (b : Int) = 1 ∨ (b : Int) = 2 ∨ (b : Int) = 3 ∨ 3 < (b : Int) := by omega
          · refine e_Ok.swk (tg := 161) rfl (ke_arm_hd (by omega)) ?_
            refine e_Ok.run (t' := (162, [(4, (1, 17 * w 36 a + 18)), (3, (0, w 36 a)), (0, (1, 0)), (1, (0, a)), (2, (0, b))], [(0, (-1))], w)) 1 rfl ?_
            refine e_Ok.rets rfl rfl ?_
            exact ⟨_, rfl, rfl⟩
          · refine e_Ok.swk (tg := 84) rfl (by rw [ke_arm_tl (by omega)]; exact ke_arm_hd (by omega)) ?_
            refine e_Ok.run (t' := (85, [(4, (1, 17 * w 36 a + 18)), (3, (0, w 36 a)), (0, (1, 0)), (1, (0, a)), (2, (0, b))], [(0, w 36 a)], w)) 1 rfl ?_
            refine e_Ok.rets rfl rfl ?_
            exact ⟨_, rfl, rfl⟩
          · refine e_Ok.swk (tg := 86) rfl (by rw [ke_arm_tl (by omega), ke_arm_tl (by omega)]; exact ke_arm_hd (by omega)) ?_
            have hjn := kn_joints hT (a := w 36 a - 4) (by omega)
            refine e_Ok.run (t' := (88, [(4, (1, 17 * w 36 a + 18)), (3, (0, w 36 a)), (0, (1, 0)), (1, (0, a)), (2, (0, b))], [(1, 17 * w 36 a + 18)], w)) 1 rfl ?_
            refine e_Ok.isnull rfl ?_
            refine e_Ok.run (t' := (93, [(4, (1, 17 * w 36 a + 18)), (3, (0, w 36 a)), (0, (1, 0)), (1, (0, a)), (2, (0, b))], [(1, 17 * w 36 a + 18)], w)) 1 rfl ?_
            refine e_Ok.getr (z := 17 * w 36 a + 20) rfl (lA0 (a := (w 36 a - 4)) (by omega) (by omega)) rfl rfl (Eq.trans (e_Has.eq hT (kA_1 (a := (w 36 a - 4)) (by omega) (by omega))) (by omega)) (by omega) ?_
            refine e_Ok.run (t' := (98, [(4, (1, 17 * w 36 a + 18)), (3, (0, w 36 a)), (0, (1, 0)), (1, (0, a)), (2, (0, b))], [(1, 17 * w 36 a + 18), (1, 17 * w 36 a + 20)], w)) 1 rfl ?_
            have h15 := (e_Has.get hT (c := 17 * w 36 a + 18) (k := 8) (lo := 0) (hi := 6) (kA_8 (a := (w 36 a - 4)) (by omega) (by omega)) (by decide))
            refine e_Ok.getf (z := w (17 * w 36 a + 18) 8) rfl (lA0 (a := (w 36 a - 4)) (by omega) (by omega)) rfl rfl rfl (by omega) ?_
            have h16 := (show -2147483648 ≤ w (17 * w 36 a + 20) (w (17 * w 36 a + 18) 8) ∧ w (17 * w 36 a + 20) (w (17 * w 36 a + 18) 8) ≤ 2147483647 from hAll (17 * w 36 a + 20) (w (17 * w 36 a + 18) 8) (by omega) (by omega))
            refine e_Ok.ald (z := w (17 * w 36 a + 20) (w (17 * w 36 a + 18) 8)) rfl (lA2 (a := (w 36 a - 4)) (by omega) (by omega)) rfl (by omega) rfl (by omega) ?_
            refine e_Ok.run (t' := (113, [(4, (1, 17 * w 36 a + 18)), (3, (0, w 36 a)), (0, (1, 0)), (1, (0, a)), (2, (0, b))], [(0, w (17 * w 36 a + 20) (w (17 * w 36 a + 18) 8))], w)) 1 rfl ?_
            refine e_Ok.rets rfl rfl ?_
            exact ⟨_, rfl, rfl⟩
          · refine e_Ok.swk (tg := 114) rfl (by rw [ke_arm_tl (by omega), ke_arm_tl (by omega), ke_arm_tl (by omega)]; exact ke_arm_hd (by omega)) ?_
            have hjn := kn_joints hT (a := w 36 a - 4) (by omega)
            refine e_Ok.run (t' := (116, [(4, (1, 17 * w 36 a + 18)), (3, (0, w 36 a)), (0, (1, 0)), (1, (0, a)), (2, (0, b))], [(1, 17 * w 36 a + 18)], w)) 1 rfl ?_
            refine e_Ok.isnull rfl ?_
            refine e_Ok.run (t' := (121, [(4, (1, 17 * w 36 a + 18)), (3, (0, w 36 a)), (0, (1, 0)), (1, (0, a)), (2, (0, b))], [(1, 17 * w 36 a + 18)], w)) 1 rfl ?_
            refine e_Ok.getr (z := 17 * w 36 a + 21) rfl (lA0 (a := (w 36 a - 4)) (by omega) (by omega)) rfl rfl (Eq.trans (e_Has.eq hT (kA_2 (a := (w 36 a - 4)) (by omega) (by omega))) (by omega)) (by omega) ?_
            refine e_Ok.run (t' := (126, [(4, (1, 17 * w 36 a + 18)), (3, (0, w 36 a)), (0, (1, 0)), (1, (0, a)), (2, (0, b))], [(1, 17 * w 36 a + 18), (1, 17 * w 36 a + 21)], w)) 1 rfl ?_
            have h17 := (e_Has.get hT (c := 17 * w 36 a + 18) (k := 8) (lo := 0) (hi := 6) (kA_8 (a := (w 36 a - 4)) (by omega) (by omega)) (by decide))
            refine e_Ok.getf (z := w (17 * w 36 a + 18) 8) rfl (lA0 (a := (w 36 a - 4)) (by omega) (by omega)) rfl rfl rfl (by omega) ?_
            have h18 := (show -2147483648 ≤ w (17 * w 36 a + 21) (w (17 * w 36 a + 18) 8) ∧ w (17 * w 36 a + 21) (w (17 * w 36 a + 18) 8) ≤ 2147483647 from hAll (17 * w 36 a + 21) (w (17 * w 36 a + 18) 8) (by omega) (by omega))
            refine e_Ok.ald (z := w (17 * w 36 a + 21) (w (17 * w 36 a + 18) 8)) rfl (lA3 (a := (w 36 a - 4)) (by omega) (by omega)) rfl (by omega) rfl (by omega) ?_
            refine e_Ok.run (t' := (141, [(4, (1, 17 * w 36 a + 18)), (3, (0, w 36 a)), (0, (1, 0)), (1, (0, a)), (2, (0, b))], [(0, w (17 * w 36 a + 21) (w (17 * w 36 a + 18) 8))], w)) 1 rfl ?_
            refine e_Ok.rets rfl rfl ?_
            exact ⟨_, rfl, rfl⟩
          · refine e_Ok.swk (tg := 142) rfl (by rw [ke_arm_tl (by omega), ke_arm_tl (by omega), ke_arm_tl (by omega), ke_arm_tl (by omega)]; exact ke_arm_hd (by omega)) ?_
            refine e_Ok.run (t' := (144, [(4, (1, 17 * w 36 a + 18)), (3, (0, w 36 a)), (0, (1, 0)), (1, (0, a)), (2, (0, b))], [(0, 4), (0, w 36 a)], w)) 2 rfl ?_
            refine e_Ok.if2 rfl (fun h19 => ?_) (fun h19 => ?_)
            · replace h19 : (w 36 a : Int) ≥ 4 := h19
              refine e_Ok.run (t' := (160, [(4, (1, 17 * w 36 a + 18)), (3, (0, w 36 a)), (0, (1, 0)), (1, (0, a)), (2, (0, b))], [(0, 0)], w)) 1 rfl ?_
              refine e_Ok.rets rfl rfl ?_
              exact ⟨_, rfl, rfl⟩
            · replace h19 : (w 36 a : Int) < 4 := by have q : ¬ ((w 36 a : Int) ≥ 4) := h19; omega
              exfalso; omega
          · refine e_Ok.swk (tg := 161) rfl (by rw [ke_arm_tl (by omega), ke_arm_tl (by omega), ke_arm_tl (by omega), ke_arm_tl (by omega), ke_arm_tl (by omega)]; exact ke_arm_hd (by omega)) ?_
            refine e_Ok.run (t' := (162, [(4, (1, 17 * w 36 a + 18)), (3, (0, w 36 a)), (0, (1, 0)), (1, (0, a)), (2, (0, b))], [(0, (-1))], w)) 1 rfl ?_
            refine e_Ok.rets rfl rfl ?_
            exact ⟨_, rfl, rfl⟩
      · show e_Ok 20 elay kcode eI (d + 1) 235 (36, [(3, (0, w 36 a)), (0, (1, 0)), (1, (0, a)), (2, (0, b))], [(0, 0)], w) _
        refine e_Ok.if1 rfl (fun h20 => ?_) (fun h20 => ?_)
        · replace h20 : (0 : Int) = 0 := h20
          refine e_Ok.run (t' := (54, [(4, (2, 0)), (3, (0, w 36 a)), (0, (1, 0)), (1, (0, a)), (2, (0, b))], [(0, b)], w)) 3 rfl ?_
          obtain h21 | h21 | h21 | h21 | h21 | h21 : (b : Int) < 0 ∨ (b : Int) = 0 ∨ (b : Int) = 1 ∨ (b : Int) = 2 ∨ (b : Int) = 3 ∨ 3 < (b : Int) := by omega
          · refine e_Ok.swk (tg := 161) rfl (ke_arm_hd (by omega)) ?_
            refine e_Ok.run (t' := (162, [(4, (2, 0)), (3, (0, w 36 a)), (0, (1, 0)), (1, (0, a)), (2, (0, b))], [(0, (-1))], w)) 1 rfl ?_
            refine e_Ok.rets rfl rfl ?_
            exact ⟨_, rfl, rfl⟩
          · refine e_Ok.swk (tg := 84) rfl (by rw [ke_arm_tl (by omega)]; exact ke_arm_hd (by omega)) ?_
            refine e_Ok.run (t' := (85, [(4, (2, 0)), (3, (0, w 36 a)), (0, (1, 0)), (1, (0, a)), (2, (0, b))], [(0, w 36 a)], w)) 1 rfl ?_
            refine e_Ok.rets rfl rfl ?_
            exact ⟨_, rfl, rfl⟩
          · refine e_Ok.swk (tg := 86) rfl (by rw [ke_arm_tl (by omega), ke_arm_tl (by omega)]; exact ke_arm_hd (by omega)) ?_
            refine e_Ok.run (t' := (88, [(4, (2, 0)), (3, (0, w 36 a)), (0, (1, 0)), (1, (0, a)), (2, (0, b))], [(2, 0)], w)) 1 rfl ?_
            refine e_Ok.isnul0 rfl ?_
            refine e_Ok.run (t' := (106, [(4, (2, 0)), (3, (0, w 36 a)), (0, (1, 0)), (1, (0, a)), (2, (0, b))], [(1, 0)], w)) 1 rfl ?_
            refine e_Ok.getr (z := 19) rfl (el_o rfl) rfl rfl (Eq.trans (e_Has.eq hT rfl) (by omega)) (by omega) ?_
            refine e_Ok.run (t' := (110, [(4, (2, 0)), (3, (0, w 36 a)), (0, (1, 0)), (1, (0, a)), (2, (0, b))], [(0, a), (1, 19)], w)) 1 rfl ?_
            refine e_Ok.callV rfl (by omega) rfl rfl rfl rfl (c_81 hT (by omega) hF (by omega) (by omega)) (fun r22 w23 h24 => ?_)
            obtain ⟨z25, rfl, rfl, q26⟩ := h24
            show e_Ok 20 elay kcode eI (d + 1) 235 (113, [(4, (2, 0)), (3, (0, w 36 a)), (0, (1, 0)), (1, (0, a)), (2, (0, b))], [(0, z25)], w) _
            refine e_Ok.rets rfl rfl ?_
            exact ⟨_, rfl, rfl⟩
          · refine e_Ok.swk (tg := 114) rfl (by rw [ke_arm_tl (by omega), ke_arm_tl (by omega), ke_arm_tl (by omega)]; exact ke_arm_hd (by omega)) ?_
            refine e_Ok.run (t' := (116, [(4, (2, 0)), (3, (0, w 36 a)), (0, (1, 0)), (1, (0, a)), (2, (0, b))], [(2, 0)], w)) 1 rfl ?_
            refine e_Ok.isnul0 rfl ?_
            refine e_Ok.run (t' := (134, [(4, (2, 0)), (3, (0, w 36 a)), (0, (1, 0)), (1, (0, a)), (2, (0, b))], [(1, 0)], w)) 1 rfl ?_
            refine e_Ok.getr (z := 19) rfl (el_o rfl) rfl rfl (Eq.trans (e_Has.eq hT rfl) (by omega)) (by omega) ?_
            refine e_Ok.run (t' := (138, [(4, (2, 0)), (3, (0, w 36 a)), (0, (1, 0)), (1, (0, a)), (2, (0, b))], [(0, a), (1, 19)], w)) 1 rfl ?_
            refine e_Ok.callV rfl (by omega) rfl rfl rfl rfl (c_82 hT (by omega) hF (by omega) (by omega)) (fun r27 w28 h29 => ?_)
            obtain ⟨z30, rfl, rfl, q31⟩ := h29
            show e_Ok 20 elay kcode eI (d + 1) 235 (141, [(4, (2, 0)), (3, (0, w 36 a)), (0, (1, 0)), (1, (0, a)), (2, (0, b))], [(0, z30)], w) _
            refine e_Ok.rets rfl rfl ?_
            exact ⟨_, rfl, rfl⟩
          · refine e_Ok.swk (tg := 142) rfl (by rw [ke_arm_tl (by omega), ke_arm_tl (by omega), ke_arm_tl (by omega), ke_arm_tl (by omega)]; exact ke_arm_hd (by omega)) ?_
            refine e_Ok.run (t' := (144, [(4, (2, 0)), (3, (0, w 36 a)), (0, (1, 0)), (1, (0, a)), (2, (0, b))], [(0, 4), (0, w 36 a)], w)) 2 rfl ?_
            refine e_Ok.if2 rfl (fun h32 => ?_) (fun h32 => ?_)
            · replace h32 : (w 36 a : Int) ≥ 4 := h32
              refine e_Ok.run (t' := (160, [(4, (2, 0)), (3, (0, w 36 a)), (0, (1, 0)), (1, (0, a)), (2, (0, b))], [(0, 0)], w)) 1 rfl ?_
              refine e_Ok.rets rfl rfl ?_
              exact ⟨_, rfl, rfl⟩
            · replace h32 : (w 36 a : Int) < 4 := by have q : ¬ ((w 36 a : Int) ≥ 4) := h32; omega
              refine e_Ok.run (t' := (148, [(4, (2, 0)), (3, (0, w 36 a)), (0, (1, 0)), (1, (0, a)), (2, (0, b))], [(1, 0)], w)) 1 rfl ?_
              refine e_Ok.getr (z := 19) rfl (el_o rfl) rfl rfl (Eq.trans (e_Has.eq hT rfl) (by omega)) (by omega) ?_
              refine e_Ok.getr (z := 37) rfl (el_o rfl) rfl rfl (Eq.trans (e_Has.eq hT rfl) (by omega)) (by omega) ?_
              refine e_Ok.run (t' := (155, [(4, (2, 0)), (3, (0, w 36 a)), (0, (1, 0)), (1, (0, a)), (2, (0, b))], [(0, a), (1, 37)], w)) 1 rfl ?_
              have h33 := (show -2147483648 ≤ w 37 a ∧ w 37 a ≤ 2147483647 from hAll 37 a (by omega) (by omega))
              refine e_Ok.ald (z := w 37 a) rfl (el_o rfl) rfl (by omega) rfl (by omega) ?_
              refine e_Ok.run (t' := (160, [(4, (2, 0)), (3, (0, w 36 a)), (0, (1, 0)), (1, (0, a)), (2, (0, b))], [(0, w 37 a)], w)) 1 rfl ?_
              refine e_Ok.rets rfl rfl ?_
              exact ⟨_, rfl, rfl⟩
          · refine e_Ok.swk (tg := 161) rfl (by rw [ke_arm_tl (by omega), ke_arm_tl (by omega), ke_arm_tl (by omega), ke_arm_tl (by omega), ke_arm_tl (by omega)]; exact ke_arm_hd (by omega)) ?_
            refine e_Ok.run (t' := (162, [(4, (2, 0)), (3, (0, w 36 a)), (0, (1, 0)), (1, (0, a)), (2, (0, b))], [(0, (-1))], w)) 1 rfl ?_
            refine e_Ok.rets rfl rfl ?_
            exact ⟨_, rfl, rfl⟩
        · replace h20 : (0 : Int) ≠ 0 := by have q : ¬ ((0 : Int) = 0) := h20; omega
          exfalso; omega
    · replace h7 : (1 : Int) = 0 := by have q : ¬ ((1 : Int) ≠ 0) := h7; omega
      exfalso; omega
  · show e_Ok 20 elay kcode eI (d + 1) 235 (14, [(0, (1, 0)), (1, (0, a)), (2, (0, b))], [(0, 0)], w) _
    refine e_Ok.if1 rfl (fun h34 => ?_) (fun h34 => ?_)
    · replace h34 : (0 : Int) ≠ 0 := h34
      exfalso; omega
    · replace h34 : (0 : Int) = 0 := by have q : ¬ ((0 : Int) ≠ 0) := h34; omega
      refine e_Ok.run (t' := (18, [(0, (1, 0)), (1, (0, a)), (2, (0, b))], [(0, (-1))], w)) 1 rfl ?_
      refine e_Ok.rets rfl rfl ?_
      exact ⟨_, rfl, rfl⟩
theorem c_452_15 {d : Nat} {w : eW} (hT : e_Has kTy w) : e_Ok 20 elay kcode eI d 452 (0, [(0, (1, 15)), (1, (0, (-1)))], [], w) (fun r w' => r = [] ∧ e_fr kF15 w w' ∧ e_Has kTy w' ∧ (∀ k, 0 ≤ k → k < 64 → w' 15 k = (-1))) := by
  refine e_Ok.run (t' := (3, [(2, (0, 0)), (0, (1, 15)), (1, (0, (-1)))], [(1, 15)], w)) 3 rfl ?_
  refine e_Ok.alen rfl rfl rfl ?_
  refine e_Ok.run (t' := (5, [(3, (0, 64)), (2, (0, 0)), (0, (1, 15)), (1, (0, (-1)))], [], w)) 1 rfl ?_
  have hL1 : ∀ (nn : Nat) (y2 : Int) (v1 : eW), e_fr kF15 w v1 ∧ e_Has kTy v1 ∧ (∀ i, 0 ≤ i → i < y2 → v1 15 i = (-1)) ∧ (0 ≤ y2 ∧ y2 ≤ 64) → 64 - y2 < nn → e_Ok 20 elay kcode eI d 452 (5, [(0, (1, 15)), (1, (0, (-1))), (2, (0, y2)), (3, (0, 64))], [], v1) (fun r w' => r = [] ∧ e_fr kF15 w w' ∧ e_Has kTy w' ∧ (∀ k, 0 ≤ k → k < 64 → w' 15 k = (-1))) := by
    intro nn
    induction nn with
    | zero => intro y2 v1 hj hm; obtain ⟨j3, j4, j5, j6⟩ := hj; exfalso; omega
    | succ nn ih2 =>
      intro y2 v1 hj hm
      obtain ⟨j3, j4, j5, j6⟩ := hj
      refine e_Ok.run (t' := (7, [(0, (1, 15)), (1, (0, (-1))), (2, (0, y2)), (3, (0, 64))], [(0, 64), (0, y2)], v1)) 2 rfl ?_
      refine e_Ok.if2 rfl (fun h7 => ?_) (fun h7 => ?_)
      · replace h7 : (y2 : Int) ≥ 64 := h7
        refine e_Ok.rets rfl rfl ?_
        exact ⟨rfl, j3, j4, fun k g1 g2 => j5 k g1 (by omega)⟩
      · replace h7 : (y2 : Int) < 64 := by have q : ¬ ((y2 : Int) ≥ 64) := h7; omega
        refine e_Ok.run (t' := (13, [(0, (1, 15)), (1, (0, (-1))), (2, (0, y2)), (3, (0, 64))], [(0, (-1)), (0, y2), (1, 15)], v1)) 3 rfl ?_
        refine e_Ok.ast rfl (el_o rfl) rfl rfl (by omega) ?_
        generalize hw8 : e_up v1 15 y2 (-1) = w8
        have f9 : e_fr kF15 w w8 := e_fr.up j3 hw8 (by unfold kF15; omega)
        have hT10 : e_Has kTy w8 := e_Has.upr j4 hw8 rfl (by omega)
        refine e_Ok.inc (z := y2 + 1) rfl rfl (by omega) (by omega) ?_
        show e_Ok 20 elay kcode eI d 452 (17, [(2, (0, y2 + 1)), (0, (1, 15)), (1, (0, (-1))), (3, (0, 64))], [], w8) _
        refine e_Ok.run (t' := (5, [(2, (0, y2 + 1)), (0, (1, 15)), (1, (0, (-1))), (3, (0, 64))], [], w8)) 1 rfl ?_
        refine e_Ok.sub kAlk (e_sub_of rfl ?_) (ih2 (y2 + 1) w8 ⟨f9, hT10, (fun i g1 g2 => by rw [← hw8]; by_cases e : i = y2; (rw [e, e_up_eq]); (rw [e_up_ne _ _ (Or.inr e)]; exact j5 i g1 (by omega))), by omega⟩ (by omega))
        exact ⟨rfl, rfl, rfl, rfl, trivial⟩
  refine e_Ok.sub kAlk (e_sub_of rfl ?_) (hL1 (64 + 1 : Int).toNat 0 w ⟨(e_fr.refl w), hT, (fun i g1 g2 => by omega), by omega⟩ (by omega))
  exact ⟨rfl, rfl, rfl, rfl, trivial⟩
theorem c_452_92 {d : Nat} {w : eW} (hT : e_Has kTy w) {a : Int} (g_a : 0 ≤ a ∧ a ≤ 3) : e_Ok 20 elay kcode eI d 452 (0, [(0, (1, 17 * a + 92)), (1, (0, 0))], [], w) (fun r w' => r = [] ∧ e_fr (kF92 a) w w' ∧ e_Has kTy w' ∧ (∀ k, 0 ≤ k → k < 7 → w' (17 * a + 92) k = 0)) := by
  refine e_Ok.run (t' := (3, [(2, (0, 0)), (0, (1, 17 * a + 92)), (1, (0, 0))], [(1, 17 * a + 92)], w)) 3 rfl ?_
  refine e_Ok.alen rfl (lA6 (a := a) (by omega) (by omega)) rfl ?_
  refine e_Ok.run (t' := (5, [(3, (0, 7)), (2, (0, 0)), (0, (1, 17 * a + 92)), (1, (0, 0))], [], w)) 1 rfl ?_
  have hL1 : ∀ (nn : Nat) (y2 : Int) (v1 : eW), e_fr (kF92 a) w v1 ∧ e_Has kTy v1 ∧ (∀ i, 0 ≤ i → i < y2 → v1 (17 * a + 92) i = 0) ∧ (0 ≤ y2 ∧ y2 ≤ 7) → 7 - y2 < nn → e_Ok 20 elay kcode eI d 452 (5, [(0, (1, 17 * a + 92)), (1, (0, 0)), (2, (0, y2)), (3, (0, 7))], [], v1) (fun r w' => r = [] ∧ e_fr (kF92 a) w w' ∧ e_Has kTy w' ∧ (∀ k, 0 ≤ k → k < 7 → w' (17 * a + 92) k = 0)) := by
    intro nn
    induction nn with
    | zero => intro y2 v1 hj hm; obtain ⟨j3, j4, j5, j6⟩ := hj; exfalso; omega
    | succ nn ih2 =>
      intro y2 v1 hj hm
      obtain ⟨j3, j4, j5, j6⟩ := hj
      refine e_Ok.run (t' := (7, [(0, (1, 17 * a + 92)), (1, (0, 0)), (2, (0, y2)), (3, (0, 7))], [(0, 7), (0, y2)], v1)) 2 rfl ?_
      refine e_Ok.if2 rfl (fun h7 => ?_) (fun h7 => ?_)
      · replace h7 : (y2 : Int) ≥ 7 := h7
        refine e_Ok.rets rfl rfl ?_
        exact ⟨rfl, j3, j4, fun k g1 g2 => j5 k g1 (by omega)⟩
      · replace h7 : (y2 : Int) < 7 := by have q : ¬ ((y2 : Int) ≥ 7) := h7; omega
        refine e_Ok.run (t' := (13, [(0, (1, 17 * a + 92)), (1, (0, 0)), (2, (0, y2)), (3, (0, 7))], [(0, 0), (0, y2), (1, 17 * a + 92)], v1)) 3 rfl ?_
        refine e_Ok.ast rfl (lA6 (a := a) (by omega) (by omega)) rfl rfl (by omega) ?_
        generalize hw8 : e_up v1 (17 * a + 92) y2 0 = w8
        have f9 : e_fr (kF92 a) w w8 := e_fr.up j3 hw8 (by unfold kF92; omega)
        have hT10 : e_Has kTy w8 := e_Has.upr j4 hw8 (kA92 (a := a) _ (by omega) (by omega)) (by omega)
        refine e_Ok.inc (z := y2 + 1) rfl rfl (by omega) (by omega) ?_
        show e_Ok 20 elay kcode eI d 452 (17, [(2, (0, y2 + 1)), (0, (1, 17 * a + 92)), (1, (0, 0)), (3, (0, 7))], [], w8) _
        refine e_Ok.run (t' := (5, [(2, (0, y2 + 1)), (0, (1, 17 * a + 92)), (1, (0, 0)), (3, (0, 7))], [], w8)) 1 rfl ?_
        refine e_Ok.sub kAlk (e_sub_of rfl ?_) (ih2 (y2 + 1) w8 ⟨f9, hT10, (fun i g1 g2 => by rw [← hw8]; by_cases e : i = y2; (rw [e, e_up_eq]); (rw [e_up_ne _ _ (Or.inr e)]; exact j5 i g1 (by omega))), by omega⟩ (by omega))
        exact ⟨rfl, rfl, rfl, rfl, trivial⟩
  refine e_Ok.sub kAlk (e_sub_of rfl ?_) (hL1 (7 + 1 : Int).toNat 0 w ⟨(e_fr.refl w), hT, (fun i g1 g2 => by omega), by omega⟩ (by omega))
  exact ⟨rfl, rfl, rfl, rfl, trivial⟩
theorem c_452_74 {d : Nat} {w : eW} (hT : e_Has kTy w) : e_Ok 20 elay kcode eI d 452 (0, [(0, (1, 274)), (1, (0, 0))], [], w) (fun r w' => r = [] ∧ e_fr kF74 w w' ∧ e_Has kTy w' ∧ (∀ k, 0 ≤ k → k < 4 → w' 274 k = 0)) := by
  refine e_Ok.run (t' := (3, [(2, (0, 0)), (0, (1, 274)), (1, (0, 0))], [(1, 274)], w)) 3 rfl ?_
  refine e_Ok.alen rfl rfl rfl ?_
  refine e_Ok.run (t' := (5, [(3, (0, 4)), (2, (0, 0)), (0, (1, 274)), (1, (0, 0))], [], w)) 1 rfl ?_
  have hL1 : ∀ (nn : Nat) (y2 : Int) (v1 : eW), e_fr kF74 w v1 ∧ e_Has kTy v1 ∧ (∀ i, 0 ≤ i → i < y2 → v1 274 i = 0) ∧ (0 ≤ y2 ∧ y2 ≤ 4) → 4 - y2 < nn → e_Ok 20 elay kcode eI d 452 (5, [(0, (1, 274)), (1, (0, 0)), (2, (0, y2)), (3, (0, 4))], [], v1) (fun r w' => r = [] ∧ e_fr kF74 w w' ∧ e_Has kTy w' ∧ (∀ k, 0 ≤ k → k < 4 → w' 274 k = 0)) := by
    intro nn
    induction nn with
    | zero => intro y2 v1 hj hm; obtain ⟨j3, j4, j5, j6⟩ := hj; exfalso; omega
    | succ nn ih2 =>
      intro y2 v1 hj hm
      obtain ⟨j3, j4, j5, j6⟩ := hj
      refine e_Ok.run (t' := (7, [(0, (1, 274)), (1, (0, 0)), (2, (0, y2)), (3, (0, 4))], [(0, 4), (0, y2)], v1)) 2 rfl ?_
      refine e_Ok.if2 rfl (fun h7 => ?_) (fun h7 => ?_)
      · replace h7 : (y2 : Int) ≥ 4 := h7
        refine e_Ok.rets rfl rfl ?_
        exact ⟨rfl, j3, j4, fun k g1 g2 => j5 k g1 (by omega)⟩
      · replace h7 : (y2 : Int) < 4 := by have q : ¬ ((y2 : Int) ≥ 4) := h7; omega
        refine e_Ok.run (t' := (13, [(0, (1, 274)), (1, (0, 0)), (2, (0, y2)), (3, (0, 4))], [(0, 0), (0, y2), (1, 274)], v1)) 3 rfl ?_
        refine e_Ok.ast rfl (el_o rfl) rfl rfl (by omega) ?_
        generalize hw8 : e_up v1 274 y2 0 = w8
        have f9 : e_fr kF74 w w8 := e_fr.up j3 hw8 (by unfold kF74; omega)
        have hT10 : e_Has kTy w8 := e_Has.ups j4 hw8 rfl
        refine e_Ok.inc (z := y2 + 1) rfl rfl (by omega) (by omega) ?_
        show e_Ok 20 elay kcode eI d 452 (17, [(2, (0, y2 + 1)), (0, (1, 274)), (1, (0, 0)), (3, (0, 4))], [], w8) _
        refine e_Ok.run (t' := (5, [(2, (0, y2 + 1)), (0, (1, 274)), (1, (0, 0)), (3, (0, 4))], [], w8)) 1 rfl ?_
        refine e_Ok.sub kAlk (e_sub_of rfl ?_) (ih2 (y2 + 1) w8 ⟨f9, hT10, (fun i g1 g2 => by rw [← hw8]; by_cases e : i = y2; (rw [e, e_up_eq]); (rw [e_up_ne _ _ (Or.inr e)]; exact j5 i g1 (by omega))), by omega⟩ (by omega))
        exact ⟨rfl, rfl, rfl, rfl, trivial⟩
  refine e_Ok.sub kAlk (e_sub_of rfl ?_) (hL1 (4 + 1 : Int).toNat 0 w ⟨(e_fr.refl w), hT, (fun i g1 g2 => by omega), by omega⟩ (by omega))
  exact ⟨rfl, rfl, rfl, rfl, trivial⟩
theorem c_111 {d : Nat} {w : eW} (hT : e_Has kTy w) (hA : kAc w) {p : Int} (g_p : 0 ≤ p ∧ p ≤ 63) {q : Int} (g_q : 0 ≤ q ∧ q ≤ 63) : e_Ok 20 elay kcode eI d 111 (0, [(0, (1, 10)), (1, (0, p)), (2, (0, q))], [], w) (fun r w' => ∃ z : Int, r = [(0, z)] ∧ w = w' ∧ (0 ≤ z ∧ z ≤ 1) ∧ (z = 1 → w 15 q < 0 ∧ ¬ ∃ n, kHit w q n p)) := by
  obtain ⟨rk, hrk, hrm⟩ := hA.rk1
  refine e_Ok.run (t' := (1, [(0, (1, 10)), (1, (0, p)), (2, (0, q))], [(1, 10)], w)) 1 rfl ?_
  refine e_Ok.getr (z := 15) rfl (el_o rfl) rfl rfl (Eq.trans (e_Has.eq hT rfl) (by omega)) (by omega) ?_
  refine e_Ok.run (t' := (5, [(0, (1, 10)), (1, (0, p)), (2, (0, q))], [(0, q), (1, 15)], w)) 1 rfl ?_
  have h1 := (e_Has.get hT (c := 15) (k := q) (lo := (-1)) (hi := 63) rfl (by decide))
  refine e_Ok.ald (z := w 15 q) rfl (el_o rfl) rfl (by omega) rfl (by omega) ?_
  refine e_Ok.if1 rfl (fun h2 => ?_) (fun h2 => ?_)
  · replace h2 : (w 15 q : Int) < 0 := h2
    refine e_Ok.run (t' := (16, [(4, (0, 0)), (3, (0, p)), (0, (1, 10)), (1, (0, p)), (2, (0, q))], [], w)) 4 rfl ?_
    have hL3 : ∀ (nn : Nat) (y3 : Int) (y4 : Int), ((-1 ≤ y3 ∧ y3 ≤ 63)) ∧ ((∃ n, kHit w q n p) → ∃ n, kHit w q n y3) ∧ (rk y3 ≤ 63 - y4) ∧ ((0 ≤ y4 ∧ y4 ≤ 64)) → 65 - y4 < nn → e_Ok 20 elay kcode eI d 111 (16, [(0, (1, 10)), (1, (0, p)), (2, (0, q)), (3, (0, y3)), (4, (0, y4))], [], w) (fun r w' => ∃ z : Int, r = [(0, z)] ∧ w = w' ∧ (0 ≤ z ∧ z ≤ 1) ∧ (z = 1 → w 15 q < 0 ∧ ¬ ∃ n, kHit w q n p)) := by
      intro nn
      induction nn with
      | zero => intro y3 y4 hj hm; obtain ⟨j5, j6, j7, j8⟩ := hj; exfalso; omega
      | succ nn ih4 =>
        intro y3 y4 hj hm
        obtain ⟨j5, j6, j7, j8⟩ := hj
        refine e_Ok.run (t' := (20, [(0, (1, 10)), (1, (0, p)), (2, (0, q)), (3, (0, y3)), (4, (0, y4))], [(0, 64), (0, y4)], w)) 2 rfl ?_
        refine e_Ok.if2 rfl (fun h9 => ?_) (fun h9 => ?_)
        · replace h9 : (y4 : Int) ≥ 64 := h9
          refine e_Ok.run (t' := (48, [(0, (1, 10)), (1, (0, p)), (2, (0, q)), (3, (0, y3)), (4, (0, y4))], [(0, 1)], w)) 1 rfl ?_
          refine e_Ok.rets rfl rfl ?_
          exact ⟨_, rfl, rfl, by omega, fun _ => ⟨by omega, fun hx => by obtain ⟨n, hn⟩ := j6 hx; by_cases g : 0 ≤ y3; (have := (hrk y3 g (by omega)).1; omega); (cases n with | zero => (have : y3 = q := hn; omega) | succ n => exact g hn.1)⟩⟩
        · replace h9 : (y4 : Int) < 64 := by have q : ¬ ((y4 : Int) ≥ 64) := h9; omega
          refine e_Ok.run (t' := (24, [(0, (1, 10)), (1, (0, p)), (2, (0, q)), (3, (0, y3)), (4, (0, y4))], [(0, y3)], w)) 1 rfl ?_
          refine e_Ok.if1 rfl (fun h10 => ?_) (fun h10 => ?_)
          · replace h10 : (y3 : Int) < 0 := h10
            refine e_Ok.run (t' := (48, [(0, (1, 10)), (1, (0, p)), (2, (0, q)), (3, (0, y3)), (4, (0, y4))], [(0, 1)], w)) 1 rfl ?_
            refine e_Ok.rets rfl rfl ?_
            exact ⟨_, rfl, rfl, by omega, fun _ => ⟨by omega, fun hx => by obtain ⟨n, hn⟩ := j6 hx; by_cases g : 0 ≤ y3; (have := (hrk y3 g (by omega)).1; omega); (cases n with | zero => (have : y3 = q := hn; omega) | succ n => exact g hn.1)⟩⟩
          · replace h10 : (y3 : Int) ≥ 0 := by have q : ¬ ((y3 : Int) < 0) := h10; omega
            refine e_Ok.run (t' := (29, [(0, (1, 10)), (1, (0, p)), (2, (0, q)), (3, (0, y3)), (4, (0, y4))], [(0, q), (0, y3)], w)) 2 rfl ?_
            refine e_Ok.if2 rfl (fun h11 => ?_) (fun h11 => ?_)
            · replace h11 : (y3 : Int) ≠ q := h11
              refine e_Ok.run (t' := (35, [(0, (1, 10)), (1, (0, p)), (2, (0, q)), (3, (0, y3)), (4, (0, y4))], [(1, 10)], w)) 1 rfl ?_
              refine e_Ok.getr (z := 15) rfl (el_o rfl) rfl rfl (Eq.trans (e_Has.eq hT rfl) (by omega)) (by omega) ?_
              refine e_Ok.run (t' := (39, [(0, (1, 10)), (1, (0, p)), (2, (0, q)), (3, (0, y3)), (4, (0, y4))], [(0, y3), (1, 15)], w)) 1 rfl ?_
              have h12 := (e_Has.get hT (c := 15) (k := y3) (lo := (-1)) (hi := 63) rfl (by decide))
              refine e_Ok.ald (z := w 15 y3) rfl (el_o rfl) rfl (by omega) rfl (by omega) ?_
              refine e_Ok.run (t' := (41, [(3, (0, w 15 y3)), (0, (1, 10)), (1, (0, p)), (2, (0, q)), (4, (0, y4))], [], w)) 1 rfl ?_
              refine e_Ok.inc (z := y4 + 1) rfl rfl (by omega) (by omega) ?_
              show e_Ok 20 elay kcode eI d 111 (44, [(4, (0, y4 + 1)), (3, (0, w 15 y3)), (0, (1, 10)), (1, (0, p)), (2, (0, q))], [], w) _
              refine e_Ok.run (t' := (16, [(4, (0, y4 + 1)), (3, (0, w 15 y3)), (0, (1, 10)), (1, (0, p)), (2, (0, q))], [], w)) 1 rfl ?_
              refine e_Ok.sub kAlk (e_sub_of rfl ?_) (ih4 (w 15 y3) (y4 + 1) ⟨(by omega), (fun hx => by obtain ⟨n, hn⟩ := j6 hx; cases n with | zero => (have : y3 = q := hn; omega) | succ n => exact ⟨n, hn.2⟩), (by have k := (hrk y3 (by omega) (by omega)); have k2 := k.2; have k1 := k.1; by_cases g : 0 ≤ w 15 y3; (have := k2 g; omega); (rw [show w 15 y3 = -1 by omega, hrm]; omega)), (by omega)⟩ (by omega))
              exact ⟨rfl, rfl, rfl, rfl, rfl, trivial⟩
            · replace h11 : (y3 : Int) = q := by have q : ¬ ((y3 : Int) ≠ q) := h11; omega
              refine e_Ok.run (t' := (33, [(0, (1, 10)), (1, (0, p)), (2, (0, q)), (3, (0, y3)), (4, (0, y4))], [(0, 0)], w)) 1 rfl ?_
              refine e_Ok.rets rfl rfl ?_
              exact ⟨_, rfl, rfl, by omega, fun h => absurd h (by decide)⟩
    refine e_Ok.sub kAlk (e_sub_of rfl ?_) (hL3 (65 + 1 : Int).toNat p 0 ⟨(by omega), (fun h => h), (by have := (hrk p (by omega) (by omega)).1; omega), (by omega)⟩ (by omega))
    exact ⟨rfl, rfl, rfl, rfl, rfl, trivial⟩
  · replace h2 : (w 15 q : Int) ≥ 0 := by have q : ¬ ((w 15 q : Int) < 0) := h2; omega
    refine e_Ok.run (t' := (10, [(0, (1, 10)), (1, (0, p)), (2, (0, q))], [(0, 0)], w)) 1 rfl ?_
    refine e_Ok.rets rfl rfl ?_
    exact ⟨_, rfl, rfl, by omega, fun h => absurd h (by decide)⟩
set_option maxHeartbeats 4000000 in
theorem c_115 {d : Nat} {w : eW} (hT : e_Has kTy w) (hA : kAc w) : e_Ok 20 elay kcode eI d 115 (0, [(0, (1, 10))], [], w) (fun r w' => r = [] ∧ e_fr kF18 w w' ∧ e_Has kTy w' ∧ pTo w' ∧ ∀ p, 0 ≤ p → p ≤ 63 → ∃ k, (0 ≤ k ∧ k ≤ 63) ∧ w' 18 k = p) := by
  refine e_Ok.run (t' := (4, [(2, (0, 0)), (1, (0, 0)), (0, (1, 10))], [], w)) 4 rfl ?_
  have hL1 : ∀ (nn : Nat) (y1 : Int) (y2 : Int) (v1 : eW), e_fr kF18 w v1 ∧ e_Has kTy v1 ∧ bJ w v1 y1 y2 ∧ ((0 ≤ y1 ∧ y1 ≤ y2 ∧ y2 ≤ 64)) → 65 - y2 < nn → e_Ok 20 elay kcode eI d 115 (4, [(0, (1, 10)), (1, (0, y1)), (2, (0, y2))], [], v1) (fun r w' => r = [] ∧ e_fr kF18 w w' ∧ e_Has kTy w' ∧ pTo w' ∧ ∀ p, 0 ≤ p → p ≤ 63 → ∃ k, (0 ≤ k ∧ k ≤ 63) ∧ w' 18 k = p) := by
    intro nn
    induction nn with
    | zero => intro y1 y2 v1 hj hm; obtain ⟨j3, j4, j5, j6⟩ := hj; exfalso; omega
    | succ nn ih2 =>
      intro y1 y2 v1 hj hm
      obtain ⟨j3, j4, j5, j6⟩ := hj
      refine e_Ok.run (t' := (7, [(0, (1, 10)), (1, (0, y1)), (2, (0, y2))], [(0, 64), (0, y2)], v1)) 2 rfl ?_
      refine e_Ok.if2 rfl (fun h7 => ?_) (fun h7 => ?_)
      · replace h7 : (y2 : Int) ≥ 64 := h7
        refine e_Ok.run (t' := (37, [(2, (0, 0)), (0, (1, 10)), (1, (0, y1))], [], v1)) 2 rfl ?_
        have hL8 : ∀ (nn : Nat) (x1 : Int) (x2 : Int) (v2 : eW), e_fr kF18 w v2 ∧ e_Has kTy v2 ∧ aJ w v2 x1 x2 0 ∧ ((0 ≤ x1 ∧ x1 ≤ 64 ∧ 0 ≤ x2 ∧ x2 ≤ x1)) → 65 - x2 < nn → e_Ok 20 elay kcode eI d 115 (37, [(0, (1, 10)), (1, (0, x1)), (2, (0, x2))], [], v2) (fun r w' => r = [] ∧ e_fr kF18 w w' ∧ e_Has kTy w' ∧ pTo w' ∧ ∀ p, 0 ≤ p → p ≤ 63 → ∃ k, (0 ≤ k ∧ k ≤ 63) ∧ w' 18 k = p) := by
          intro nn
          induction nn with
          | zero => intro x1 x2 v2 hj hm; obtain ⟨j10, j11, j12, j13⟩ := hj; exfalso; omega
          | succ nn ih9 =>
            intro x1 x2 v2 hj hm
            obtain ⟨j10, j11, j12, j13⟩ := hj
            refine e_Ok.run (t' := (39, [(0, (1, 10)), (1, (0, x1)), (2, (0, x2))], [(0, x1), (0, x2)], v2)) 2 rfl ?_
            refine e_Ok.if2 rfl (fun h14 => ?_) (fun h14 => ?_)
            · replace h14 : (x2 : Int) ≥ x1 := h14
              refine e_Ok.rets rfl rfl ?_
              obtain ⟨am, ap, ac⟩ := aJ.fin hA (fun p _ _ => (e_Has.get hT (c := 15) (k := p) (lo := -1) (hi := 63) rfl (by decide)).2) j12 (by omega)
              exact ⟨rfl, j10, j11, fun i g1 g2 g3 => by rw [j10 15 _ (by unfold kF18; omega)] at g3 ⊢; exact ap i g1 g2 g3, ac⟩
            · replace h14 : (x2 : Int) < x1 := by have q : ¬ ((x2 : Int) ≥ x1) := h14; omega
              refine e_Ok.run (t' := (45, [(0, (1, 10)), (1, (0, x1)), (2, (0, x2))], [(0, 64), (0, x1)], v2)) 2 rfl ?_
              refine e_Ok.if2 rfl (fun h15 => ?_) (fun h15 => ?_)
              · replace h15 : (x1 : Int) ≥ 64 := h15
                refine e_Ok.rets rfl rfl ?_
                obtain ⟨am, ap, ac⟩ := aJ.fin hA (fun p _ _ => (e_Has.get hT (c := 15) (k := p) (lo := -1) (hi := 63) rfl (by decide)).2) j12 (by omega)
                exact ⟨rfl, j10, j11, fun i g1 g2 g3 => by rw [j10 15 _ (by unfold kF18; omega)] at g3 ⊢; exact ap i g1 g2 g3, ac⟩
              · replace h15 : (x1 : Int) < 64 := by have q : ¬ ((x1 : Int) ≥ 64) := h15; omega
                refine e_Ok.run (t' := (50, [(3, (0, 0)), (0, (1, 10)), (1, (0, x1)), (2, (0, x2))], [], v2)) 2 rfl ?_
                have hL16 : ∀ (nn : Nat) (u1 : Int) (u3 : Int) (v3 : eW), e_fr kF18 w v3 ∧ e_Has kTy v3 ∧ aJ w v3 u1 x2 u3 ∧ ((0 ≤ u1 ∧ u1 ≤ 64 ∧ x2 < u1 ∧ 0 ≤ u3 ∧ u3 ≤ 64)) → 65 - u3 < nn → e_Ok 20 elay kcode eI d 115 (50, [(0, (1, 10)), (1, (0, u1)), (2, (0, x2)), (3, (0, u3))], [], v3) (fun r w' => r = [] ∧ e_fr kF18 w w' ∧ e_Has kTy w' ∧ pTo w' ∧ ∀ p, 0 ≤ p → p ≤ 63 → ∃ k, (0 ≤ k ∧ k ≤ 63) ∧ w' 18 k = p) := by
                  intro nn
                  induction nn with
                  | zero => intro u1 u3 v3 hj hm; obtain ⟨j18, j19, j20, j21⟩ := hj; exfalso; omega
                  | succ nn ih17 =>
                    intro u1 u3 v3 hj hm
                    obtain ⟨j18, j19, j20, j21⟩ := hj
                    refine e_Ok.run (t' := (53, [(0, (1, 10)), (1, (0, u1)), (2, (0, x2)), (3, (0, u3))], [(0, 64), (0, u3)], v3)) 2 rfl ?_
                    refine e_Ok.if2 rfl (fun h22 => ?_) (fun h22 => ?_)
                    · replace h22 : (u3 : Int) ≥ 64 := h22
                      refine e_Ok.inc (z := x2 + 1) rfl rfl (by omega) (by omega) ?_
                      show e_Ok 20 elay kcode eI d 115 (96, [(2, (0, x2 + 1)), (0, (1, 10)), (1, (0, u1)), (3, (0, u3))], [], v3) _
                      refine e_Ok.run (t' := (37, [(2, (0, x2 + 1)), (0, (1, 10)), (1, (0, u1)), (3, (0, u3))], [], v3)) 1 rfl ?_
                      refine e_Ok.sub kAlk (e_sub_of rfl ?_) (ih9 u1 (x2 + 1) v3 ⟨j18, j19, (aJ.next (by have g := j20; rw [show u3 = 64 by omega] at g; exact g) (by omega)), (by omega)⟩ (by omega))
                      exact ⟨rfl, rfl, rfl, trivial⟩
                    · replace h22 : (u3 : Int) < 64 := by have q : ¬ ((u3 : Int) ≥ 64) := h22; omega
                      refine e_Ok.run (t' := (57, [(0, (1, 10)), (1, (0, u1)), (2, (0, x2)), (3, (0, u3))], [(1, 10)], v3)) 1 rfl ?_
                      refine e_Ok.getr (z := 15) rfl (el_o rfl) rfl rfl ((j18 10 4 (by unfold kF18; omega)).trans (Eq.trans (e_Has.eq hT rfl) (by omega))) (by omega) ?_
                      refine e_Ok.run (t' := (61, [(0, (1, 10)), (1, (0, u1)), (2, (0, x2)), (3, (0, u3))], [(0, u3), (1, 15)], v3)) 1 rfl ?_
                      have h23 := (e_Has.get hT (c := 15) (k := u3) (lo := (-1)) (hi := 63) rfl (by decide))
                      refine e_Ok.ald (z := w 15 u3) rfl (el_o rfl) rfl (by omega) ((j18 15 u3 (by unfold kF18; omega)).trans rfl) (by omega) ?_
                      refine e_Ok.run (t' := (63, [(0, (1, 10)), (1, (0, u1)), (2, (0, x2)), (3, (0, u3))], [(1, 10), (0, w 15 u3)], v3)) 1 rfl ?_
                      refine e_Ok.getr (z := 18) rfl (el_o rfl) rfl rfl ((j18 10 7 (by unfold kF18; omega)).trans (Eq.trans (e_Has.eq hT rfl) (by omega))) (by omega) ?_
                      refine e_Ok.run (t' := (67, [(0, (1, 10)), (1, (0, u1)), (2, (0, x2)), (3, (0, u3))], [(0, x2), (1, 18), (0, w 15 u3)], v3)) 1 rfl ?_
                      have h24 := (e_Has.get j19 (c := 18) (k := x2) (lo := 0) (hi := 63) rfl (by decide))
                      refine e_Ok.ald (z := v3 18 x2) rfl (el_o rfl) rfl (by omega) rfl (by omega) ?_
                      refine e_Ok.if2 rfl (fun h25 => ?_) (fun h25 => ?_)
                      · replace h25 : (w 15 u3 : Int) ≠ v3 18 x2 := h25
                        refine e_Ok.inc (z := u3 + 1) rfl rfl (by omega) (by omega) ?_
                        show e_Ok 20 elay kcode eI d 115 (90, [(3, (0, u3 + 1)), (0, (1, 10)), (1, (0, u1)), (2, (0, x2))], [], v3) _
                        refine e_Ok.run (t' := (50, [(3, (0, u3 + 1)), (0, (1, 10)), (1, (0, u1)), (2, (0, x2))], [], v3)) 1 rfl ?_
                        refine e_Ok.sub kAlk (e_sub_of rfl ?_) (ih17 u1 (u3 + 1) v3 ⟨j18, j19, (j20.skip (by omega)), (by omega)⟩ (by omega))
                        exact ⟨rfl, rfl, rfl, rfl, trivial⟩
                      · replace h25 : (w 15 u3 : Int) = v3 18 x2 := by have q : ¬ ((w 15 u3 : Int) ≠ v3 18 x2) := h25; omega
                        refine e_Ok.run (t' := (74, [(0, (1, 10)), (1, (0, u1)), (2, (0, x2)), (3, (0, u3))], [(0, 64), (0, u1)], v3)) 2 rfl ?_
                        refine e_Ok.if2 rfl (fun h26 => ?_) (fun h26 => ?_)
                        · replace h26 : (u1 : Int) ≥ 64 := h26
                          refine e_Ok.inc (z := u3 + 1) rfl rfl (by omega) (by omega) ?_
                          show e_Ok 20 elay kcode eI d 115 (90, [(3, (0, u3 + 1)), (0, (1, 10)), (1, (0, u1)), (2, (0, x2))], [], v3) _
                          refine e_Ok.run (t' := (50, [(3, (0, u3 + 1)), (0, (1, 10)), (1, (0, u1)), (2, (0, x2))], [], v3)) 1 rfl ?_
                          refine e_Ok.sub kAlk (e_sub_of rfl ?_) (ih17 u1 (u3 + 1) v3 ⟨j18, j19, (j20.skip (by omega)), (by omega)⟩ (by omega))
                          exact ⟨rfl, rfl, rfl, rfl, trivial⟩
                        · replace h26 : (u1 : Int) < 64 := by have q : ¬ ((u1 : Int) ≥ 64) := h26; omega
                          refine e_Ok.run (t' := (78, [(0, (1, 10)), (1, (0, u1)), (2, (0, x2)), (3, (0, u3))], [(1, 10)], v3)) 1 rfl ?_
                          refine e_Ok.getr (z := 18) rfl (el_o rfl) rfl rfl ((j18 10 7 (by unfold kF18; omega)).trans (Eq.trans (e_Has.eq hT rfl) (by omega))) (by omega) ?_
                          refine e_Ok.run (t' := (83, [(0, (1, 10)), (1, (0, u1)), (2, (0, x2)), (3, (0, u3))], [(0, u3), (0, u1), (1, 18)], v3)) 2 rfl ?_
                          refine e_Ok.ast rfl (el_o rfl) rfl rfl (by omega) ?_
                          generalize hw27 : e_up v3 18 u1 u3 = w27
                          have f28 : e_fr kF18 w w27 := e_fr.up j18 hw27 (by unfold kF18; omega)
                          have hT29 : e_Has kTy w27 := e_Has.upr j19 hw27 rfl (by omega)
                          refine e_Ok.inc (z := u1 + 1) rfl rfl (by omega) (by omega) ?_
                          show e_Ok 20 elay kcode eI d 115 (87, [(1, (0, u1 + 1)), (0, (1, 10)), (2, (0, x2)), (3, (0, u3))], [], w27) _
                          refine e_Ok.inc (z := u3 + 1) rfl rfl (by omega) (by omega) ?_
                          show e_Ok 20 elay kcode eI d 115 (90, [(3, (0, u3 + 1)), (1, (0, u1 + 1)), (0, (1, 10)), (2, (0, x2))], [], w27) _
                          refine e_Ok.run (t' := (50, [(3, (0, u3 + 1)), (1, (0, u1 + 1)), (0, (1, 10)), (2, (0, x2))], [], w27)) 1 rfl ?_
                          refine e_Ok.sub kAlk (e_sub_of rfl ?_) (ih17 (u1 + 1) (u3 + 1) w27 ⟨f28, hT29, (j20.add (by omega) (by omega) (by omega) (by omega) (fun k g => by rw [← hw27]; exact e_up_ne _ _ (by omega)) (by rw [← hw27]; exact e_up_eq _ _ _ _)), (by omega)⟩ (by omega))
                          exact ⟨rfl, rfl, rfl, rfl, trivial⟩
                refine e_Ok.sub kAlk (e_sub_of rfl ?_) (hL16 (65 + 1 : Int).toNat x1 0 v2 ⟨j10, j11, j12, (by omega)⟩ (by omega))
                exact ⟨rfl, rfl, rfl, rfl, trivial⟩
        refine e_Ok.sub kAlk (e_sub_of rfl ?_) (hL8 (65 + 1 : Int).toNat y1 0 v1 ⟨j3, j4, (bJ.out (by have g := j5; rw [show y2 = 64 by omega] at g; exact g)), (by omega)⟩ (by omega))
        exact ⟨rfl, rfl, rfl, trivial⟩
      · replace h7 : (y2 : Int) < 64 := by have q : ¬ ((y2 : Int) ≥ 64) := h7; omega
        refine e_Ok.run (t' := (11, [(0, (1, 10)), (1, (0, y1)), (2, (0, y2))], [(1, 10)], v1)) 1 rfl ?_
        refine e_Ok.getr (z := 15) rfl (el_o rfl) rfl rfl ((j3 10 4 (by unfold kF18; omega)).trans (Eq.trans (e_Has.eq hT rfl) (by omega))) (by omega) ?_
        refine e_Ok.run (t' := (15, [(0, (1, 10)), (1, (0, y1)), (2, (0, y2))], [(0, y2), (1, 15)], v1)) 1 rfl ?_
        have h30 := (e_Has.get hT (c := 15) (k := y2) (lo := (-1)) (hi := 63) rfl (by decide))
        refine e_Ok.ald (z := w 15 y2) rfl (el_o rfl) rfl (by omega) ((j3 15 y2 (by unfold kF18; omega)).trans rfl) (by omega) ?_
        refine e_Ok.if1 rfl (fun h31 => ?_) (fun h31 => ?_)
        · replace h31 : (w 15 y2 : Int) ≥ 0 := h31
          refine e_Ok.inc (z := y2 + 1) rfl rfl (by omega) (by omega) ?_
          show e_Ok 20 elay kcode eI d 115 (32, [(2, (0, y2 + 1)), (0, (1, 10)), (1, (0, y1))], [], v1) _
          refine e_Ok.run (t' := (4, [(2, (0, y2 + 1)), (0, (1, 10)), (1, (0, y1))], [], v1)) 1 rfl ?_
          refine e_Ok.sub kAlk (e_sub_of rfl ?_) (ih2 y1 (y2 + 1) v1 ⟨j3, j4, (j5.skip (by omega)), (by omega)⟩ (by omega))
          exact ⟨rfl, rfl, rfl, trivial⟩
        · replace h31 : (w 15 y2 : Int) < 0 := by have q : ¬ ((w 15 y2 : Int) ≥ 0) := h31; omega
          refine e_Ok.run (t' := (20, [(0, (1, 10)), (1, (0, y1)), (2, (0, y2))], [(1, 10)], v1)) 1 rfl ?_
          refine e_Ok.getr (z := 18) rfl (el_o rfl) rfl rfl ((j3 10 7 (by unfold kF18; omega)).trans (Eq.trans (e_Has.eq hT rfl) (by omega))) (by omega) ?_
          refine e_Ok.run (t' := (25, [(0, (1, 10)), (1, (0, y1)), (2, (0, y2))], [(0, y2), (0, y1), (1, 18)], v1)) 2 rfl ?_
          refine e_Ok.ast rfl (el_o rfl) rfl rfl (by omega) ?_
          generalize hw32 : e_up v1 18 y1 y2 = w32
          have f33 : e_fr kF18 w w32 := e_fr.up j3 hw32 (by unfold kF18; omega)
          have hT34 : e_Has kTy w32 := e_Has.upr j4 hw32 rfl (by omega)
          refine e_Ok.inc (z := y1 + 1) rfl rfl (by omega) (by omega) ?_
          show e_Ok 20 elay kcode eI d 115 (29, [(1, (0, y1 + 1)), (0, (1, 10)), (2, (0, y2))], [], w32) _
          refine e_Ok.inc (z := y2 + 1) rfl rfl (by omega) (by omega) ?_
          show e_Ok 20 elay kcode eI d 115 (32, [(2, (0, y2 + 1)), (1, (0, y1 + 1)), (0, (1, 10))], [], w32) _
          refine e_Ok.run (t' := (4, [(2, (0, y2 + 1)), (1, (0, y1 + 1)), (0, (1, 10))], [], w32)) 1 rfl ?_
          refine e_Ok.sub kAlk (e_sub_of rfl ?_) (ih2 (y1 + 1) (y2 + 1) w32 ⟨f33, hT34, (j5.add (by omega) (fun k g => by rw [← hw32]; exact e_up_ne _ _ (by omega)) (by rw [← hw32]; exact e_up_eq _ _ _ _)), (by omega)⟩ (by omega))
          exact ⟨rfl, rfl, rfl, trivial⟩
  refine e_Ok.sub kAlk (e_sub_of rfl ?_) (hL1 (65 + 1 : Int).toNat 0 0 w ⟨(e_fr.refl w), hT, bJ.zero, (by omega)⟩ (by omega))
  exact ⟨rfl, rfl, rfl, trivial⟩
end
