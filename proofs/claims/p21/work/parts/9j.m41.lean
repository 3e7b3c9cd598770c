noncomputable section
theorem e_arm_hd {x a b : Int} {t : Nat} {r : List (Int × Int × Nat)} (h : a ≤ x ∧ x ≤ b) : e_arm x ((a, b, t) :: r) = some t := by
  unfold e_arm
  rw [decide_eq_true h.1, decide_eq_true h.2]
  rfl
theorem e_arm_tl {x a b : Int} {t : Nat} {r : List (Int × Int × Nat)} (h : x < a ∨ b < x) : e_arm x ((a, b, t) :: r) = e_arm x r := by
  rw [e_arm]
  have : (decide (a ≤ x) && decide (x ≤ b)) = false := by
    rcases h with h | h
    · rw [decide_eq_false (by omega : ¬ a ≤ x)]; rfl
    · rw [decide_eq_false (by omega : ¬ x ≤ b), Bool.and_false]
  simp only [this, cond_false]
theorem c_442 {d : Nat} (hd : 23 ≤ d) {w : eW} (hT : e_Has mTy w) (hH : e_Has hTy w) {p1 p2 : Int} (g1 : (-2147483648) ≤ p1 ∧ p1 ≤ 2147483647) (g2 : (-2147483648) ≤ p2 ∧ p2 ≤ 2147483647) : e_Ok 20 elay ecode eI d 442 (0, [(0, (1, 275)), (1, (0, p1)), (2, (0, p2))], [], w) (fun r w' => ∃ z : Int, r = [(0, z)] ∧ w = w') := by
  obtain ⟨d, rfl⟩ : ∃ e, d = e + 1 := ⟨d - 1, by omega⟩
  have hk276 : ∀ i, 0 ≤ i → i ≤ 33059 → -2147483648 ≤ w 276 i ∧ w 276 i ≤ 2147483647 := fun i _ _ => e_Has.now hT i
  refine e_Ok.run (t' := (6, [(0, (1, 275)), (1, (0, p1)), (2, (0, p2))], [(4, 15), (4, 0), (4, p1)], w)) 4 rfl ?_
  refine e_Ok.callS rfl (by omega) rfl rfl (c_266) (fun r1 w2 h3 => ?_)
  obtain ⟨z4, rfl, rfl, q5⟩ := h3
  obtain ⟨rfl, q5⟩ | ⟨rfl, q5⟩ := q5
  · show e_Ok 20 elay ecode eI (d + 1) 442 (9, [(0, (1, 275)), (1, (0, p1)), (2, (0, p2))], [(0, 1)], w) _
    refine e_Ok.if1 rfl (fun h6 => ?_) (fun h6 => ?_)
    · replace h6 : (1 : Int) = 0 := h6
      exfalso; omega
    · replace h6 : (1 : Int) ≠ 0 := by have q : ¬ ((1 : Int) = 0) := h6; omega
      refine e_Ok.run (t' := (18, [(0, (1, 275)), (1, (0, p1)), (2, (0, p2))], [(4, 3), (4, 0), (4, p2)], w)) 4 rfl ?_
      refine e_Ok.callS rfl (by omega) rfl rfl (c_266) (fun r7 w8 h9 => ?_)
      obtain ⟨z10, rfl, rfl, q11⟩ := h9
      obtain ⟨rfl, q11⟩ | ⟨rfl, q11⟩ := q11
      · show e_Ok 20 elay ecode eI (d + 1) 442 (21, [(0, (1, 275)), (1, (0, p1)), (2, (0, p2))], [(0, 1)], w) _
        refine e_Ok.if1 rfl (fun h12 => ?_) (fun h12 => ?_)
        · replace h12 : (1 : Int) ≠ 0 := h12
          refine e_Ok.run (t' := (27, [(0, (1, 275)), (1, (0, p1)), (2, (0, p2))], [(1, 275)], w)) 1 rfl ?_
          refine e_Ok.getr (z := 276) rfl (el_o rfl) rfl rfl (e_Has.eq hT rfl) (by omega) ?_
          refine e_Ok.run (t' := (31, [(0, (1, 275)), (1, (0, p1)), (2, (0, p2))], [(0, p1), (1, 276)], w)) 1 rfl ?_
          refine e_Ok.callS rfl (by omega) rfl rfl (c_269 (by omega)) (fun r13 w14 h15 => ?_)
          obtain ⟨rfl, rfl⟩ := h15
          show e_Ok 20 elay ecode eI (d + 1) 442 (34, [(0, (1, 275)), (1, (0, p1)), (2, (0, p2))], [(0, 1260 * p1 + 416), (1, 276)], w) _
          refine e_Ok.run (t' := (36, [(0, (1, 275)), (1, (0, p1)), (2, (0, p2))], [(0, 3), (0, p2), (0, 1260 * p1 + 416), (1, 276)], w)) 2 rfl ?_
          refine e_Ok.if2 rfl (fun h16 => ?_) (fun h16 => ?_)
          · replace h16 : (p2 : Int) ≥ 3 := h16
            refine e_Ok.run (t' := (45, [(0, (1, 275)), (1, (0, p1)), (2, (0, p2))], [(0, 12), (0, 1260 * p1 + 416), (1, 276)], w)) 1 rfl ?_
            refine e_Ok.add (z := 1260 * p1 + 428) rfl (by omega) (by omega) ?_
            have h17 := (e_Has.get hT (c := 276) (k := 1260 * p1 + 428) (lo := 0) (hi := 20) (nR_FRAMES (t := p1) (by omega)) (by decide))
            refine e_Ok.ald (z := w 276 (1260 * p1 + 428)) rfl (el_o rfl) rfl (by omega) rfl (by omega) ?_
            refine e_Ok.rets rfl rfl ?_
            exact ⟨_, rfl, rfl⟩
          · replace h16 : (p2 : Int) < 3 := by have q : ¬ ((p2 : Int) ≥ 3) := h16; omega
            refine e_Ok.run (t' := (45, [(0, (1, 275)), (1, (0, p1)), (2, (0, p2))], [(0, p2), (0, 1260 * p1 + 416), (1, 276)], w)) 2 rfl ?_
            refine e_Ok.add (z := 1260 * p1 + p2 + 416) rfl (by omega) (by omega) ?_
            have h18 := (hk276 (1260 * p1 + p2 + 416) (by omega) (by omega))
            refine e_Ok.ald (z := w 276 (1260 * p1 + p2 + 416)) rfl (el_o rfl) rfl (by omega) rfl (by omega) ?_
            refine e_Ok.rets rfl rfl ?_
            exact ⟨_, rfl, rfl⟩
        · replace h12 : (1 : Int) = 0 := by have q : ¬ ((1 : Int) ≠ 0) := h12; omega
          exfalso; omega
      · show e_Ok 20 elay ecode eI (d + 1) 442 (21, [(0, (1, 275)), (1, (0, p1)), (2, (0, p2))], [(0, 0)], w) _
        refine e_Ok.if1 rfl (fun h19 => ?_) (fun h19 => ?_)
        · replace h19 : (0 : Int) ≠ 0 := h19
          exfalso; omega
        · replace h19 : (0 : Int) = 0 := by have q : ¬ ((0 : Int) ≠ 0) := h19; omega
          refine e_Ok.run (t' := (25, [(0, (1, 275)), (1, (0, p1)), (2, (0, p2))], [(0, (-1))], w)) 1 rfl ?_
          refine e_Ok.rets rfl rfl ?_
          exact ⟨_, rfl, rfl⟩
  · show e_Ok 20 elay ecode eI (d + 1) 442 (9, [(0, (1, 275)), (1, (0, p1)), (2, (0, p2))], [(0, 0)], w) _
    refine e_Ok.if1 rfl (fun h20 => ?_) (fun h20 => ?_)
    · replace h20 : (0 : Int) = 0 := h20
      refine e_Ok.run (t' := (25, [(0, (1, 275)), (1, (0, p1)), (2, (0, p2))], [(0, (-1))], w)) 1 rfl ?_
      refine e_Ok.rets rfl rfl ?_
      exact ⟨_, rfl, rfl⟩
    · replace h20 : (0 : Int) ≠ 0 := by have q : ¬ ((0 : Int) = 0) := h20; omega
      exfalso; omega
theorem c_447 {d : Nat} (hd : 23 ≤ d) {w : eW} (hT : e_Has mTy w) (hH : e_Has hTy w) {p1 : Int} (g1 : (-2147483648) ≤ p1 ∧ p1 ≤ 2147483647) : e_Ok 20 elay ecode eI d 447 (0, [(0, (1, 275)), (1, (0, p1))], [], w) (fun r w' => ∃ z : Int, r = [(0, z)] ∧ w = w') := by
  obtain ⟨d, rfl⟩ : ∃ e, d = e + 1 := ⟨d - 1, by omega⟩
  have hk276 : ∀ i, 0 ≤ i → i ≤ 33059 → -2147483648 ≤ w 276 i ∧ w 276 i ≤ 2147483647 := fun i _ _ => e_Has.now hT i
  refine e_Ok.run (t' := (5, [(0, (1, 275)), (1, (0, p1))], [(1, 275), (0, 3), (4, 0), (4, p1)], w)) 5 rfl ?_
  have h1 := (e_Has.get hT (c := 275) (k := 49) (lo := 0) (hi := 8) rfl (by decide))
  refine e_Ok.getf (z := w 275 49) rfl (el_o rfl) rfl rfl rfl (by omega) ?_
  refine e_Ok.add (z := w 275 49 + 3) rfl (by omega) (by omega) ?_
  refine e_Ok.run (t' := (10, [(0, (1, 275)), (1, (0, p1))], [(4, w 275 49 + 3), (4, 0), (4, p1)], w)) 1 rfl ?_
  refine e_Ok.callS rfl (by omega) rfl rfl (c_266) (fun r2 w3 h4 => ?_)
  obtain ⟨z5, rfl, rfl, q6⟩ := h4
  obtain ⟨rfl, q6⟩ | ⟨rfl, q6⟩ := q6
  · show e_Ok 20 elay ecode eI (d + 1) 447 (13, [(0, (1, 275)), (1, (0, p1))], [(0, 1)], w) _
    refine e_Ok.if1 rfl (fun h7 => ?_) (fun h7 => ?_)
    · replace h7 : (1 : Int) ≠ 0 := h7
      refine e_Ok.run (t' := (20, [(0, (1, 275)), (1, (0, p1))], [(0, 3), (0, p1)], w)) 2 rfl ?_
      refine e_Ok.if2 rfl (fun h8 => ?_) (fun h8 => ?_)
      · replace h8 : (p1 : Int) ≤ 3 := h8
        refine e_Ok.run (t' := (64, [(0, (1, 275)), (1, (0, p1))], [(1, 275)], w)) 1 rfl ?_
        refine e_Ok.getr (z := 276) rfl (el_o rfl) rfl rfl (e_Has.eq hT rfl) (by omega) ?_
        refine e_Ok.run (t' := (68, [(0, (1, 275)), (1, (0, p1))], [(0, p1), (1, 276)], w)) 1 rfl ?_
        refine e_Ok.if1 rfl (fun h9 => ?_) (fun h9 => ?_)
        · replace h9 : (p1 : Int) ≠ 0 := h9
          refine e_Ok.run (t' := (77, [(0, (1, 275)), (1, (0, p1))], [(0, 1), (0, p1), (1, 276)], w)) 2 rfl ?_
          refine e_Ok.if2 rfl (fun h10 => ?_) (fun h10 => ?_)
          · replace h10 : (p1 : Int) ≠ 1 := h10
            refine e_Ok.run (t' := (86, [(0, (1, 275)), (1, (0, p1))], [(0, 2), (0, p1), (1, 276)], w)) 2 rfl ?_
            refine e_Ok.if2 rfl (fun h11 => ?_) (fun h11 => ?_)
            · replace h11 : (p1 : Int) ≠ 2 := h11
              refine e_Ok.run (t' := (94, [(0, (1, 275)), (1, (0, p1))], [(0, 4), (1, 276)], w)) 1 rfl ?_
              have h12 := (e_Has.get hT (c := 276) (k := 4) (lo := 0) (hi := 6000) rfl (by decide))
              refine e_Ok.ald (z := w 276 4) rfl (el_o rfl) rfl (by omega) rfl (by omega) ?_
              refine e_Ok.rets rfl rfl ?_
              exact ⟨_, rfl, rfl⟩
            · replace h11 : (p1 : Int) = 2 := by have q : ¬ ((p1 : Int) ≠ 2) := h11; omega
              refine e_Ok.run (t' := (94, [(0, (1, 275)), (1, (0, p1))], [(0, 3), (1, 276)], w)) 2 rfl ?_
              have h13 := (e_Has.get hT (c := 276) (k := 3) (lo := (-2147483648)) (hi := 2147483647) rfl (by decide))
              refine e_Ok.ald (z := w 276 3) rfl (el_o rfl) rfl (by omega) rfl (by omega) ?_
              refine e_Ok.rets rfl rfl ?_
              exact ⟨_, rfl, rfl⟩
          · replace h10 : (p1 : Int) = 1 := by have q : ¬ ((p1 : Int) ≠ 1) := h10; omega
            refine e_Ok.run (t' := (94, [(0, (1, 275)), (1, (0, p1))], [(0, 2), (1, 276)], w)) 2 rfl ?_
            have h14 := (e_Has.get hT (c := 276) (k := 2) (lo := 0) (hi := 4) rfl (by decide))
            refine e_Ok.ald (z := w 276 2) rfl (el_o rfl) rfl (by omega) rfl (by omega) ?_
            refine e_Ok.rets rfl rfl ?_
            exact ⟨_, rfl, rfl⟩
        · replace h9 : (p1 : Int) = 0 := by have q : ¬ ((p1 : Int) ≠ 0) := h9; omega
          refine e_Ok.run (t' := (94, [(0, (1, 275)), (1, (0, p1))], [(0, 1), (1, 276)], w)) 2 rfl ?_
          have h15 := (e_Has.get hT (c := 276) (k := 1) (lo := 0) (hi := 1) rfl (by decide))
          refine e_Ok.ald (z := w 276 1) rfl (el_o rfl) rfl (by omega) rfl (by omega) ?_
          refine e_Ok.rets rfl rfl ?_
          exact ⟨_, rfl, rfl⟩
      · replace h8 : (p1 : Int) > 3 := by have q : ¬ ((p1 : Int) ≤ 3) := h8; omega
        refine e_Ok.run (t' := (24, [(0, (1, 275)), (1, (0, p1))], [(1, 275)], w)) 1 rfl ?_
        refine e_Ok.getr (z := 276) rfl (el_o rfl) rfl rfl (e_Has.eq hT rfl) (by omega) ?_
        refine e_Ok.run (t' := (33, [(0, (1, 275)), (1, (0, p1))], [(0, 4), (0, p1), (0, 4), (0, 20836), (1, 276)], w)) 4 rfl ?_
        refine e_Ok.sub' (z := p1 - 4) rfl (by omega) (by omega) ?_
        refine e_Ok.mul (z := 4 * p1 - 16) rfl (by omega) (by omega) ?_
        refine e_Ok.add (z := 4 * p1 + 20820) rfl (by omega) (by omega) ?_
        refine e_Ok.run (t' := (37, [(0, (1, 275)), (1, (0, p1))], [(0, 3), (0, 4 * p1 + 20820), (1, 276)], w)) 1 rfl ?_
        refine e_Ok.add (z := 4 * p1 + 20823) rfl (by omega) (by omega) ?_
        have h16 := (hk276 (4 * p1 + 20823) (by omega) (by omega))
        refine e_Ok.ald (z := w 276 (4 * p1 + 20823)) rfl (el_o rfl) rfl (by omega) rfl (by omega) ?_
        refine e_Ok.run (t' := (40, [(0, (1, 275)), (1, (0, p1))], [(0, 1), (0, w 276 (4 * p1 + 20823))], w)) 1 rfl ?_
        refine e_Ok.if2 rfl (fun h17 => ?_) (fun h17 => ?_)
        · replace h17 : (w 276 (4 * p1 + 20823) : Int) ≠ 1 := h17
          refine e_Ok.run (t' := (50, [(0, (1, 275)), (1, (0, p1))], [(0, 4), (0, p1), (1, 275)], w)) 3 rfl ?_
          refine e_Ok.sub' (z := p1 - 4) rfl (by omega) (by omega) ?_
          refine e_Ok.callV rfl (by omega) rfl rfl rfl rfl (c_399 hT (by omega)) (fun r18 w19 h20 => ?_)
          obtain ⟨z21, rfl, rfl, q22a, q22b⟩ := h20
          show e_Ok 20 elay ecode eI (d + 1) 447 (54, [(0, (1, 275)), (1, (0, p1))], [(0, z21)], w) _
          refine e_Ok.if1 rfl (fun h23 => ?_) (fun h23 => ?_)
          · replace h23 : (z21 : Int) = 0 := h23
            refine e_Ok.run (t' := (62, [(0, (1, 275)), (1, (0, p1))], [(0, 0)], w)) 1 rfl ?_
            refine e_Ok.rets rfl rfl ?_
            exact ⟨_, rfl, rfl⟩
          · replace h23 : (z21 : Int) ≠ 0 := by have q : ¬ ((z21 : Int) = 0) := h23; omega
            refine e_Ok.run (t' := (62, [(0, (1, 275)), (1, (0, p1))], [(0, 1)], w)) 2 rfl ?_
            refine e_Ok.rets rfl rfl ?_
            exact ⟨_, rfl, rfl⟩
        · replace h17 : (w 276 (4 * p1 + 20823) : Int) = 1 := by have q : ¬ ((w 276 (4 * p1 + 20823) : Int) ≠ 1) := h17; omega
          refine e_Ok.run (t' := (62, [(0, (1, 275)), (1, (0, p1))], [(0, 2)], w)) 2 rfl ?_
          refine e_Ok.rets rfl rfl ?_
          exact ⟨_, rfl, rfl⟩
    · replace h7 : (1 : Int) = 0 := by have q : ¬ ((1 : Int) ≠ 0) := h7; omega
      exfalso; omega
  · show e_Ok 20 elay ecode eI (d + 1) 447 (13, [(0, (1, 275)), (1, (0, p1))], [(0, 0)], w) _
    refine e_Ok.if1 rfl (fun h24 => ?_) (fun h24 => ?_)
    · replace h24 : (0 : Int) ≠ 0 := h24
      exfalso; omega
    · replace h24 : (0 : Int) = 0 := by have q : ¬ ((0 : Int) ≠ 0) := h24; omega
      refine e_Ok.run (t' := (17, [(0, (1, 275)), (1, (0, p1))], [(0, (-1))], w)) 1 rfl ?_
      refine e_Ok.rets rfl rfl ?_
      exact ⟨_, rfl, rfl⟩
theorem c_358 {d : Nat} (hd : 23 ≤ d) {w : eW} (hT : e_Has mTy w) (hH : e_Has hTy w) {p1 : Int} (g1 : (-2147483648) ≤ p1 ∧ p1 ≤ 2147483647) : e_Ok 20 elay ecode eI d 358 (0, [(0, (1, 275)), (1, (0, p1))], [], w) (fun r w' => ∃ z : Int, r = [(0, z)] ∧ w = w') := by
  obtain ⟨d, rfl⟩ : ∃ e, d = e + 1 := ⟨d - 1, by omega⟩
  have hk276 : ∀ i, 0 ≤ i → i ≤ 33059 → -2147483648 ≤ w 276 i ∧ w 276 i ≤ 2147483647 := fun i _ _ => e_Has.now hT i
  refine e_Ok.run (t' := (1, [(0, (1, 275)), (1, (0, p1))], [(1, 275)], w)) 1 rfl ?_
  have h1 := (e_Has.get hH (c := 275) (k := 95) (lo := 0) (hi := 1) rfl (by decide))
  refine e_Ok.getf (z := w 275 95) rfl (el_o rfl) rfl rfl rfl (by omega) ?_
  refine e_Ok.if1 rfl (fun h2 => ?_) (fun h2 => ?_)
  · replace h2 : (w 275 95 : Int) = 0 := h2
    refine e_Ok.run (t' := (36, [(0, (1, 275)), (1, (0, p1))], [(0, (-1))], w)) 2 rfl ?_
    refine e_Ok.rets rfl rfl ?_
    exact ⟨_, rfl, rfl⟩
  · replace h2 : (w 275 95 : Int) ≠ 0 := by have q : ¬ ((w 275 95 : Int) = 0) := h2; omega
    refine e_Ok.run (t' := (11, [(0, (1, 275)), (1, (0, p1))], [(4, 1), (4, 0), (4, p1)], w)) 4 rfl ?_
    refine e_Ok.callS rfl (by omega) rfl rfl (c_266) (fun r3 w4 h5 => ?_)
    obtain ⟨z6, rfl, rfl, q7⟩ := h5
    obtain ⟨rfl, q7⟩ | ⟨rfl, q7⟩ := q7
    · show e_Ok 20 elay ecode eI (d + 1) 358 (14, [(0, (1, 275)), (1, (0, p1))], [(0, 1)], w) _
      refine e_Ok.if1 rfl (fun h8 => ?_) (fun h8 => ?_)
      · replace h8 : (1 : Int) ≠ 0 := h8
        refine e_Ok.run (t' := (22, [(0, (1, 275)), (1, (0, p1))], [(0, p1)], w)) 1 rfl ?_
        refine e_Ok.if1 rfl (fun h9 => ?_) (fun h9 => ?_)
        · replace h9 : (p1 : Int) ≠ 0 := h9
          refine e_Ok.run (t' := (33, [(0, (1, 275)), (1, (0, p1))], [(1, 275)], w)) 1 rfl ?_
          have h10 := (e_Has.get hH (c := 275) (k := 89) (lo := (-2147483648)) (hi := 2147483647) rfl (by decide))
          refine e_Ok.getf (z := w 275 89) rfl (el_o rfl) rfl rfl rfl (by omega) ?_
          refine e_Ok.rets rfl rfl ?_
          exact ⟨_, rfl, rfl⟩
        · replace h9 : (p1 : Int) = 0 := by have q : ¬ ((p1 : Int) ≠ 0) := h9; omega
          refine e_Ok.run (t' := (26, [(0, (1, 275)), (1, (0, p1))], [(1, 275)], w)) 1 rfl ?_
          have h11 := (e_Has.get hH (c := 275) (k := 88) (lo := 0) (hi := 7) rfl (by decide))
          refine e_Ok.getf (z := w 275 88) rfl (el_o rfl) rfl rfl rfl (by omega) ?_
          refine e_Ok.run (t' := (36, [(0, (1, 275)), (1, (0, p1))], [(0, w 275 88)], w)) 1 rfl ?_
          refine e_Ok.rets rfl rfl ?_
          exact ⟨_, rfl, rfl⟩
      · replace h8 : (1 : Int) = 0 := by have q : ¬ ((1 : Int) ≠ 0) := h8; omega
        exfalso; omega
    · show e_Ok 20 elay ecode eI (d + 1) 358 (14, [(0, (1, 275)), (1, (0, p1))], [(0, 0)], w) _
      refine e_Ok.if1 rfl (fun h12 => ?_) (fun h12 => ?_)
      · replace h12 : (0 : Int) ≠ 0 := h12
        exfalso; omega
      · replace h12 : (0 : Int) = 0 := by have q : ¬ ((0 : Int) ≠ 0) := h12; omega
        refine e_Ok.run (t' := (36, [(0, (1, 275)), (1, (0, p1))], [(0, (-1))], w)) 2 rfl ?_
        refine e_Ok.rets rfl rfl ?_
        exact ⟨_, rfl, rfl⟩
theorem c_450 {d : Nat} (hd : 23 ≤ d) {w : eW} (hT : e_Has mTy w) (hH : e_Has hTy w) {p1 : Int} (g1 : (-2147483648) ≤ p1 ∧ p1 ≤ 2147483647) : e_Ok 20 elay ecode eI d 450 (0, [(0, (1, 275)), (1, (0, p1))], [], w) (fun r w' => ∃ z : Int, r = [(0, z)] ∧ w = w') := by
  have hk276 : ∀ i, 0 ≤ i → i ≤ 33059 → -2147483648 ≤ w 276 i ∧ w 276 i ≤ 2147483647 := fun i _ _ => e_Has.now hT i
  refine e_Ok.run (t' := (1, [(0, (1, 275)), (1, (0, p1))], [(0, p1)], w)) 1 rfl ?_
  obtain h1 | h1 | h1 | h1 | h1 | h1 | h1 | h1 | h1 | h1 | h1 : (p1 : Int) < 0 ∨ (p1 : Int) = 0 ∨ (p1 : Int) = 1 ∨ (p1 : Int) = 2 ∨ (p1 : Int) = 3 ∨ (p1 : Int) = 4 ∨ (p1 : Int) = 5 ∨ (p1 : Int) = 6 ∨ (p1 : Int) = 7 ∨ (p1 : Int) = 8 ∨ 8 < (p1 : Int) := by omega
  · refine e_Ok.sw (tg := 105) rfl (e_arm_hd (by omega)) ?_
    refine e_Ok.run (t' := (106, [(0, (1, 275)), (1, (0, p1))], [(0, (-1))], w)) 1 rfl ?_
    refine e_Ok.rets rfl rfl ?_
    exact ⟨_, rfl, rfl⟩
  · refine e_Ok.sw (tg := 52) rfl (by rw [e_arm_tl (by omega)]; exact e_arm_hd (by omega)) ?_
    refine e_Ok.run (t' := (53, [(0, (1, 275)), (1, (0, p1))], [(1, 275)], w)) 1 rfl ?_
    have h2 := (e_Has.get hT (c := 275) (k := 10) (lo := 0) (hi := 4) rfl (by decide))
    refine e_Ok.getf (z := w 275 10) rfl (el_o rfl) rfl rfl rfl (by omega) ?_
    refine e_Ok.rets rfl rfl ?_
    exact ⟨_, rfl, rfl⟩
  · refine e_Ok.sw (tg := 57) rfl (by rw [e_arm_tl (by omega), e_arm_tl (by omega)]; exact e_arm_hd (by omega)) ?_
    refine e_Ok.run (t' := (58, [(0, (1, 275)), (1, (0, p1))], [(1, 275)], w)) 1 rfl ?_
    have h3 := (e_Has.get hT (c := 275) (k := 23) (lo := 0) (hi := 16) rfl (by decide))
    refine e_Ok.getf (z := w 275 23) rfl (el_o rfl) rfl rfl rfl (by omega) ?_
    refine e_Ok.rets rfl rfl ?_
    exact ⟨_, rfl, rfl⟩
  · refine e_Ok.sw (tg := 62) rfl (by rw [e_arm_tl (by omega), e_arm_tl (by omega), e_arm_tl (by omega)]; exact e_arm_hd (by omega)) ?_
    refine e_Ok.run (t' := (63, [(0, (1, 275)), (1, (0, p1))], [(1, 275)], w)) 1 rfl ?_
    have h4 := (e_Has.get hT (c := 275) (k := 30) (lo := 0) (hi := 4) rfl (by decide))
    refine e_Ok.getf (z := w 275 30) rfl (el_o rfl) rfl rfl rfl (by omega) ?_
    refine e_Ok.rets rfl rfl ?_
    exact ⟨_, rfl, rfl⟩
  · refine e_Ok.sw (tg := 67) rfl (by rw [e_arm_tl (by omega), e_arm_tl (by omega), e_arm_tl (by omega), e_arm_tl (by omega)]; exact e_arm_hd (by omega)) ?_
    refine e_Ok.run (t' := (68, [(0, (1, 275)), (1, (0, p1))], [(1, 275)], w)) 1 rfl ?_
    have h5 := (e_Has.get hT (c := 275) (k := 40) (lo := 0) (hi := 32) rfl (by decide))
    refine e_Ok.getf (z := w 275 40) rfl (el_o rfl) rfl rfl rfl (by omega) ?_
    refine e_Ok.rets rfl rfl ?_
    exact ⟨_, rfl, rfl⟩
  · refine e_Ok.sw (tg := 72) rfl (by rw [e_arm_tl (by omega), e_arm_tl (by omega), e_arm_tl (by omega), e_arm_tl (by omega), e_arm_tl (by omega)]; exact e_arm_hd (by omega)) ?_
    refine e_Ok.run (t' := (73, [(0, (1, 275)), (1, (0, p1))], [(1, 275)], w)) 1 rfl ?_
    have h6 := (e_Has.get hT (c := 275) (k := 42) (lo := 0) (hi := 8) rfl (by decide))
    refine e_Ok.getf (z := w 275 42) rfl (el_o rfl) rfl rfl rfl (by omega) ?_
    refine e_Ok.rets rfl rfl ?_
    exact ⟨_, rfl, rfl⟩
  · refine e_Ok.sw (tg := 77) rfl (by rw [e_arm_tl (by omega), e_arm_tl (by omega), e_arm_tl (by omega), e_arm_tl (by omega), e_arm_tl (by omega), e_arm_tl (by omega)]; exact e_arm_hd (by omega)) ?_
    refine e_Ok.run (t' := (78, [(0, (1, 275)), (1, (0, p1))], [(1, 275)], w)) 1 rfl ?_
    have h7 := (e_Has.get hT (c := 275) (k := 49) (lo := 0) (hi := 8) rfl (by decide))
    refine e_Ok.getf (z := w 275 49) rfl (el_o rfl) rfl rfl rfl (by omega) ?_
    refine e_Ok.rets rfl rfl ?_
    exact ⟨_, rfl, rfl⟩
  · refine e_Ok.sw (tg := 82) rfl (by rw [e_arm_tl (by omega), e_arm_tl (by omega), e_arm_tl (by omega), e_arm_tl (by omega), e_arm_tl (by omega), e_arm_tl (by omega), e_arm_tl (by omega)]; exact e_arm_hd (by omega)) ?_
    refine e_Ok.run (t' := (83, [(0, (1, 275)), (1, (0, p1))], [(1, 275)], w)) 1 rfl ?_
    have h8 := (e_Has.get hH (c := 275) (k := 5) (lo := 0) (hi := 2000) rfl (by decide))
    refine e_Ok.getf (z := w 275 5) rfl (el_o rfl) rfl rfl rfl (by omega) ?_
    refine e_Ok.rets rfl rfl ?_
    exact ⟨_, rfl, rfl⟩
  · refine e_Ok.sw (tg := 87) rfl (by rw [e_arm_tl (by omega), e_arm_tl (by omega), e_arm_tl (by omega), e_arm_tl (by omega), e_arm_tl (by omega), e_arm_tl (by omega), e_arm_tl (by omega), e_arm_tl (by omega)]; exact e_arm_hd (by omega)) ?_
    refine e_Ok.run (t' := (88, [(0, (1, 275)), (1, (0, p1))], [(1, 275)], w)) 1 rfl ?_
    have h9 := (e_Has.get hH (c := 275) (k := 9) (lo := 0) (hi := 4000) rfl (by decide))
    refine e_Ok.getf (z := w 275 9) rfl (el_o rfl) rfl rfl rfl (by omega) ?_
    refine e_Ok.rets rfl rfl ?_
    exact ⟨_, rfl, rfl⟩
  · refine e_Ok.sw (tg := 92) rfl (by rw [e_arm_tl (by omega), e_arm_tl (by omega), e_arm_tl (by omega), e_arm_tl (by omega), e_arm_tl (by omega), e_arm_tl (by omega), e_arm_tl (by omega), e_arm_tl (by omega), e_arm_tl (by omega)]; exact e_arm_hd (by omega)) ?_
    refine e_Ok.run (t' := (93, [(0, (1, 275)), (1, (0, p1))], [(1, 275)], w)) 1 rfl ?_
    have h10 := (e_Has.get hT (c := 275) (k := 3) (lo := 0) (hi := 1) rfl (by decide))
    refine e_Ok.getf (z := w 275 3) rfl (el_o rfl) rfl rfl rfl (by omega) ?_
    refine e_Ok.if1 rfl (fun h11 => ?_) (fun h11 => ?_)
    · replace h11 : (w 275 3 : Int) = 0 := h11
      refine e_Ok.run (t' := (104, [(0, (1, 275)), (1, (0, p1))], [(0, 0)], w)) 1 rfl ?_
      refine e_Ok.rets rfl rfl ?_
      exact ⟨_, rfl, rfl⟩
    · replace h11 : (w 275 3 : Int) ≠ 0 := by have q : ¬ ((w 275 3 : Int) = 0) := h11; omega
      refine e_Ok.run (t' := (104, [(0, (1, 275)), (1, (0, p1))], [(0, 1)], w)) 2 rfl ?_
      refine e_Ok.rets rfl rfl ?_
      exact ⟨_, rfl, rfl⟩
  · refine e_Ok.sw (tg := 105) rfl (by rw [e_arm_tl (by omega), e_arm_tl (by omega), e_arm_tl (by omega), e_arm_tl (by omega), e_arm_tl (by omega), e_arm_tl (by omega), e_arm_tl (by omega), e_arm_tl (by omega), e_arm_tl (by omega), e_arm_tl (by omega)]; exact e_arm_hd (by omega)) ?_
    refine e_Ok.run (t' := (106, [(0, (1, 275)), (1, (0, p1))], [(0, (-1))], w)) 1 rfl ?_
    refine e_Ok.rets rfl rfl ?_
    exact ⟨_, rfl, rfl⟩
theorem c_446 {d : Nat} (hd : 27 ≤ d) {w : eW} (hT : e_Has mTy w) (hH : e_Has hTy w) {p1 p2 : Int} (g1 : (-2147483648) ≤ p1 ∧ p1 ≤ 2147483647) (g2 : (-2147483648) ≤ p2 ∧ p2 ≤ 2147483647) : e_Ok 20 elay ecode eI d 446 (0, [(0, (1, 275)), (1, (0, p1)), (2, (0, p2))], [], w) (fun r w' => ∃ z : Int, r = [(0, z)] ∧ e_fr mP w w') := by
  obtain ⟨d, rfl⟩ : ∃ e, d = e + 1 := ⟨d - 1, by omega⟩
  have hk276 : ∀ i, 0 ≤ i → i ≤ 33059 → -2147483648 ≤ w 276 i ∧ w 276 i ≤ 2147483647 := fun i _ _ => e_Has.now hT i
  refine e_Ok.run (t' := (4, [(0, (1, 275)), (1, (0, p1)), (2, (0, p2))], [(1, 275), (4, 0), (4, p1)], w)) 4 rfl ?_
  have h1 := (e_Has.get hT (c := 275) (k := 40) (lo := 0) (hi := 32) rfl (by decide))
  refine e_Ok.getf (z := w 275 40) rfl (el_o rfl) rfl rfl rfl (by omega) ?_
  refine e_Ok.run (t' := (8, [(0, (1, 275)), (1, (0, p1)), (2, (0, p2))], [(0, 1), (0, w 275 40), (4, 0), (4, p1)], w)) 1 rfl ?_
  refine e_Ok.sub' (z := w 275 40 - 1) rfl (by omega) (by omega) ?_
  refine e_Ok.run (t' := (10, [(0, (1, 275)), (1, (0, p1)), (2, (0, p2))], [(4, w 275 40 - 1), (4, 0), (4, p1)], w)) 1 rfl ?_
  refine e_Ok.callS rfl (by omega) rfl rfl (c_266) (fun r2 w3 h4 => ?_)
  obtain ⟨z5, rfl, rfl, q6⟩ := h4
  obtain ⟨rfl, q6⟩ | ⟨rfl, q6⟩ := q6
  · show e_Ok 20 elay ecode eI (d + 1) 446 (13, [(0, (1, 275)), (1, (0, p1)), (2, (0, p2))], [(0, 1)], w) _
    refine e_Ok.if1 rfl (fun h7 => ?_) (fun h7 => ?_)
    · replace h7 : (1 : Int) = 0 := h7
      exfalso; omega
    · replace h7 : (1 : Int) ≠ 0 := by have q : ¬ ((1 : Int) = 0) := h7; omega
      refine e_Ok.run (t' := (22, [(0, (1, 275)), (1, (0, p1)), (2, (0, p2))], [(4, 3), (4, 0), (4, p2)], w)) 4 rfl ?_
      refine e_Ok.callS rfl (by omega) rfl rfl (c_266) (fun r8 w9 h10 => ?_)
      obtain ⟨z11, rfl, rfl, q12⟩ := h10
      obtain ⟨rfl, q12⟩ | ⟨rfl, q12⟩ := q12
      · show e_Ok 20 elay ecode eI (d + 1) 446 (25, [(0, (1, 275)), (1, (0, p1)), (2, (0, p2))], [(0, 1)], w) _
        refine e_Ok.if1 rfl (fun h13 => ?_) (fun h13 => ?_)
        · replace h13 : (1 : Int) ≠ 0 := h13
          refine e_Ok.run (t' := (31, [(0, (1, 275)), (1, (0, p1)), (2, (0, p2))], [(0, p2)], w)) 1 rfl ?_
          refine e_Ok.if1 rfl (fun h14 => ?_) (fun h14 => ?_)
          · replace h14 : (p2 : Int) = 0 := h14
            refine e_Ok.run (t' := (40, [(0, (1, 275)), (1, (0, p1)), (2, (0, p2))], [(1, 275)], w)) 1 rfl ?_
            refine e_Ok.getr (z := 276) rfl (el_o rfl) rfl rfl (e_Has.eq hT rfl) (by omega) ?_
            refine e_Ok.run (t' := (44, [(0, (1, 275)), (1, (0, p1)), (2, (0, p2))], [(0, p1), (1, 276)], w)) 1 rfl ?_
            refine e_Ok.callS rfl (by omega) rfl rfl (c_392 (by omega)) (fun r15 w16 h17 => ?_)
            obtain ⟨rfl, rfl⟩ := h17
            show e_Ok 20 elay ecode eI (d + 1) 446 (47, [(0, (1, 275)), (1, (0, p1)), (2, (0, p2))], [(0, 4 * p1 + 20576), (1, 276)], w) _
            refine e_Ok.run (t' := (48, [(0, (1, 275)), (1, (0, p1)), (2, (0, p2))], [(0, p2), (0, 4 * p1 + 20576), (1, 276)], w)) 1 rfl ?_
            refine e_Ok.add (z := 4 * p1 + p2 + 20576) rfl (by omega) (by omega) ?_
            have h18 := (hk276 (4 * p1 + p2 + 20576) (by omega) (by omega))
            refine e_Ok.ald (z := w 276 (4 * p1 + p2 + 20576)) rfl (el_o rfl) rfl (by omega) rfl (by omega) ?_
            refine e_Ok.run (t' := (61, [(0, (1, 275)), (1, (0, p1)), (2, (0, p2))], [(0, w 276 (4 * p1 + p2 + 20576))], w)) 1 rfl ?_
            refine e_Ok.rets rfl rfl ?_
            exact ⟨_, rfl, (e_fr.refl w)⟩
          · replace h14 : (p2 : Int) ≠ 0 := by have q : ¬ ((p2 : Int) = 0) := h14; omega
            refine e_Ok.run (t' := (36, [(0, (1, 275)), (1, (0, p1)), (2, (0, p2))], [(0, 3), (0, p2)], w)) 2 rfl ?_
            refine e_Ok.if2 rfl (fun h19 => ?_) (fun h19 => ?_)
            · replace h19 : (p2 : Int) ≠ 3 := h19
              refine e_Ok.run (t' := (57, [(0, (1, 275)), (1, (0, p1)), (2, (0, p2))], [(0, 1), (0, p2), (0, p1), (1, 275)], w)) 4 rfl ?_
              refine e_Ok.sub' (z := p2 - 1) rfl (by omega) (by omega) ?_
              refine e_Ok.callV rfl (by omega) rfl rfl rfl rfl (c_395 (by omega) hT (by omega) (by omega)) (fun r20 w21 h22 => ?_)
              obtain ⟨z24, rfl, q23, q23a, q23b⟩ := h22
              have f25 : e_fr mP w w21 := e_fr.trans (e_fr.refl w) (e_fr.mono q23 (fun c k q => by exact q))
              have q23T : e_Has mTy w21 := mT_P q23 hT
              show e_Ok 20 elay ecode eI (d + 1) 446 (61, [(0, (1, 275)), (1, (0, p1)), (2, (0, p2))], [(0, z24)], w21) _
              refine e_Ok.rets rfl rfl ?_
              exact ⟨_, rfl, f25⟩
            · replace h19 : (p2 : Int) = 3 := by have q : ¬ ((p2 : Int) ≠ 3) := h19; omega
              refine e_Ok.run (t' := (40, [(0, (1, 275)), (1, (0, p1)), (2, (0, p2))], [(1, 275)], w)) 1 rfl ?_
              refine e_Ok.getr (z := 276) rfl (el_o rfl) rfl rfl (e_Has.eq hT rfl) (by omega) ?_
              refine e_Ok.run (t' := (44, [(0, (1, 275)), (1, (0, p1)), (2, (0, p2))], [(0, p1), (1, 276)], w)) 1 rfl ?_
              refine e_Ok.callS rfl (by omega) rfl rfl (c_392 (by omega)) (fun r26 w27 h28 => ?_)
              obtain ⟨rfl, rfl⟩ := h28
              show e_Ok 20 elay ecode eI (d + 1) 446 (47, [(0, (1, 275)), (1, (0, p1)), (2, (0, p2))], [(0, 4 * p1 + 20576), (1, 276)], w) _
              refine e_Ok.run (t' := (48, [(0, (1, 275)), (1, (0, p1)), (2, (0, p2))], [(0, p2), (0, 4 * p1 + 20576), (1, 276)], w)) 1 rfl ?_
              refine e_Ok.add (z := 4 * p1 + p2 + 20576) rfl (by omega) (by omega) ?_
              have h29 := (hk276 (4 * p1 + p2 + 20576) (by omega) (by omega))
              refine e_Ok.ald (z := w 276 (4 * p1 + p2 + 20576)) rfl (el_o rfl) rfl (by omega) rfl (by omega) ?_
              refine e_Ok.run (t' := (61, [(0, (1, 275)), (1, (0, p1)), (2, (0, p2))], [(0, w 276 (4 * p1 + p2 + 20576))], w)) 1 rfl ?_
              refine e_Ok.rets rfl rfl ?_
              exact ⟨_, rfl, (e_fr.refl w)⟩
        · replace h13 : (1 : Int) = 0 := by have q : ¬ ((1 : Int) ≠ 0) := h13; omega
          exfalso; omega
      · show e_Ok 20 elay ecode eI (d + 1) 446 (25, [(0, (1, 275)), (1, (0, p1)), (2, (0, p2))], [(0, 0)], w) _
        refine e_Ok.if1 rfl (fun h30 => ?_) (fun h30 => ?_)
        · replace h30 : (0 : Int) ≠ 0 := h30
          exfalso; omega
        · replace h30 : (0 : Int) = 0 := by have q : ¬ ((0 : Int) ≠ 0) := h30; omega
          refine e_Ok.run (t' := (29, [(0, (1, 275)), (1, (0, p1)), (2, (0, p2))], [(0, (-1))], w)) 1 rfl ?_
          refine e_Ok.rets rfl rfl ?_
          exact ⟨_, rfl, (e_fr.refl w)⟩
  · show e_Ok 20 elay ecode eI (d + 1) 446 (13, [(0, (1, 275)), (1, (0, p1)), (2, (0, p2))], [(0, 0)], w) _
    refine e_Ok.if1 rfl (fun h31 => ?_) (fun h31 => ?_)
    · replace h31 : (0 : Int) = 0 := h31
      refine e_Ok.run (t' := (29, [(0, (1, 275)), (1, (0, p1)), (2, (0, p2))], [(0, (-1))], w)) 1 rfl ?_
      refine e_Ok.rets rfl rfl ?_
      exact ⟨_, rfl, (e_fr.refl w)⟩
    · replace h31 : (0 : Int) ≠ 0 := by have q : ¬ ((0 : Int) = 0) := h31; omega
      exfalso; omega
end
