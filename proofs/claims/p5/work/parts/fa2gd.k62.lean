noncomputable section
/-! the class: what arm and open answer -/
set_option maxHeartbeats 4000000 in
theorem c_193_z {d : Nat} (hd : 28 ≤ d) {w : eW} (hT : e_Has kTy w) (hO : 0 ≤ w 0 13 ∧ w 0 13 ≤ 1) {n cd : Int} (hn : w 0 11 = n) (hn3 : n ≤ 3) (hc : w (17 * n + 86) 7 = cd) (hcd : isCd cd) {x : Int} (g_x : (-2147483648) ≤ x ∧ x ≤ 2147483647) {y : Int} (g_y : (-2147483648) ≤ y ∧ y ≤ 2147483647) {u : Int} (g_u : (-2147483648) ≤ u ∧ u ≤ 2147483647) {v : Int} (g_v : (-2147483648) ≤ v ∧ v ≤ 2147483647) : e_Ok 20 elay kcode eI d 193 (0, [(0, (1, 0)), (1, (0, x)), (2, (0, y)), (3, (0, u)), (4, (0, v))], [], w) (fun r w' => ∃ z : Int, r = [(0, z)] ∧ ((¬ ((-8000 ≤ x ∧ x ≤ 8000) ∧ (-8000 ≤ y ∧ y ≤ 8000) ∧ (0 ≤ u ∧ u ≤ 4095) ∧ (0 ≤ v ∧ v ≤ 800)) ∧ z = -1) ∨ (((-8000 ≤ x ∧ x ≤ 8000) ∧ (-8000 ≤ y ∧ y ≤ 8000) ∧ (0 ≤ u ∧ u ≤ 4095) ∧ (0 ≤ v ∧ v ≤ 800)) ∧ ((w 0 13 ≠ 0 ∧ z = -2) ∨ (w 0 13 = 0 ∧ z = w 0 11))))) := by
  obtain ⟨d, rfl⟩ : ∃ e, d = e + 1 := ⟨d - 1, by omega⟩
  have hw0 := e_Has.get hT (c := 0) (k := 11) (lo := 0) (hi := 4) rfl (by decide)
  have hcd2 := hcd; unfold isCd at hcd2
  have hcd3 : 2 ≤ cd ∧ cd ≤ 145 := by omega
  refine e_Ok.run (t' := (7, [(0, (1, 0)), (1, (0, x)), (2, (0, y)), (3, (0, u)), (4, (0, v))], [(0, 8000), (0, (-8000)), (0, x)], w)) 3 rfl ?_
  refine e_Ok.callS rfl (by omega) rfl rfl (c_242 (by omega) (by omega) (by omega)) (fun r1 w2 h3 => ?_)
  obtain ⟨z4, rfl, rfl, q5⟩ := h3
  obtain ⟨rfl, q5⟩ | ⟨rfl, q5⟩ := q5
  · show e_Ok 20 elay kcode eI (d + 1) 193 (10, [(0, (1, 0)), (1, (0, x)), (2, (0, y)), (3, (0, u)), (4, (0, v))], [(0, 1)], w) _
    refine e_Ok.if1 rfl (fun h6 => ?_) (fun h6 => ?_)
    · replace h6 : (1 : Int) = 0 := h6
      exfalso; omega
    · replace h6 : (1 : Int) ≠ 0 := by have q : ¬ ((1 : Int) = 0) := h6; omega
      refine e_Ok.run (t' := (20, [(0, (1, 0)), (1, (0, x)), (2, (0, y)), (3, (0, u)), (4, (0, v))], [(0, 8000), (0, (-8000)), (0, y)], w)) 3 rfl ?_
      refine e_Ok.callS rfl (by omega) rfl rfl (c_242 (by omega) (by omega) (by omega)) (fun r7 w8 h9 => ?_)
      obtain ⟨z10, rfl, rfl, q11⟩ := h9
      obtain ⟨rfl, q11⟩ | ⟨rfl, q11⟩ := q11
      · show e_Ok 20 elay kcode eI (d + 1) 193 (23, [(0, (1, 0)), (1, (0, x)), (2, (0, y)), (3, (0, u)), (4, (0, v))], [(0, 1)], w) _
        refine e_Ok.if1 rfl (fun h12 => ?_) (fun h12 => ?_)
        · replace h12 : (1 : Int) ≠ 0 := h12
          refine e_Ok.run (t' := (33, [(0, (1, 0)), (1, (0, x)), (2, (0, y)), (3, (0, u)), (4, (0, v))], [(0, 4095), (0, 0), (0, u)], w)) 3 rfl ?_
          refine e_Ok.callS rfl (by omega) rfl rfl (c_242 (by omega) (by omega) (by omega)) (fun r13 w14 h15 => ?_)
          obtain ⟨z16, rfl, rfl, q17⟩ := h15
          obtain ⟨rfl, q17⟩ | ⟨rfl, q17⟩ := q17
          · show e_Ok 20 elay kcode eI (d + 1) 193 (36, [(0, (1, 0)), (1, (0, x)), (2, (0, y)), (3, (0, u)), (4, (0, v))], [(0, 1)], w) _
            refine e_Ok.if1 rfl (fun h18 => ?_) (fun h18 => ?_)
            · replace h18 : (1 : Int) = 0 := h18
              exfalso; omega
            · replace h18 : (1 : Int) ≠ 0 := by have q : ¬ ((1 : Int) = 0) := h18; omega
              refine e_Ok.run (t' := (45, [(0, (1, 0)), (1, (0, x)), (2, (0, y)), (3, (0, u)), (4, (0, v))], [(0, 800), (0, 0), (0, v)], w)) 3 rfl ?_
              refine e_Ok.callS rfl (by omega) rfl rfl (c_242 (by omega) (by omega) (by omega)) (fun r19 w20 h21 => ?_)
              obtain ⟨z22, rfl, rfl, q23⟩ := h21
              obtain ⟨rfl, q23⟩ | ⟨rfl, q23⟩ := q23
              · show e_Ok 20 elay kcode eI (d + 1) 193 (48, [(0, (1, 0)), (1, (0, x)), (2, (0, y)), (3, (0, u)), (4, (0, v))], [(0, 1)], w) _
                refine e_Ok.if1 rfl (fun h24 => ?_) (fun h24 => ?_)
                · replace h24 : (1 : Int) ≠ 0 := h24
                  refine e_Ok.run (t' := (54, [(0, (1, 0)), (1, (0, x)), (2, (0, y)), (3, (0, u)), (4, (0, v))], [(1, 0)], w)) 1 rfl ?_
                  refine e_Ok.getf (z := w 0 13) rfl rfl rfl rfl rfl (by omega) ?_
                  refine e_Ok.if1 rfl (fun h25 => ?_) (fun h25 => ?_)
                  · replace h25 : (w 0 13 : Int) = 0 := h25
                    refine e_Ok.run (t' := (64, [(0, (1, 0)), (1, (0, x)), (2, (0, y)), (3, (0, u)), (4, (0, v))], [(1, 0)], w)) 1 rfl ?_
                    refine e_Ok.getf (z := n) rfl rfl rfl rfl hn (by omega) ?_
                    refine e_Ok.run (t' := (68, [(0, (1, 0)), (1, (0, x)), (2, (0, y)), (3, (0, u)), (4, (0, v))], [(0, 4), (0, n)], w)) 1 rfl ?_
                    refine e_Ok.if2 rfl (fun h26 => ?_) (fun h26 => ?_)
                    · replace h26 : (n : Int) < 4 := h26
                      refine e_Ok.run (t' := (75, [(0, (1, 0)), (1, (0, x)), (2, (0, y)), (3, (0, u)), (4, (0, v))], [(1, 0)], w)) 1 rfl ?_
                      refine e_Ok.getr (z := 9) rfl rfl rfl rfl (Eq.trans (e_Has.eq hT rfl) (by omega)) (by omega) ?_
                      refine e_Ok.run (t' := (79, [(0, (1, 0)), (1, (0, x)), (2, (0, y)), (3, (0, u)), (4, (0, v))], [(1, 0), (1, 9)], w)) 1 rfl ?_
                      refine e_Ok.getf (z := n) rfl rfl rfl rfl hn (by omega) ?_
                      refine e_Ok.aald (z := 17 * n + 86) rfl rfl rfl (by omega) (Eq.trans (e_Has.eq hT (k9 (by omega))) (by omega)) (by omega) ?_
                      refine e_Ok.run (t' := (88, [(0, (1, 0)), (1, (0, x)), (2, (0, y)), (3, (0, u)), (4, (0, v))], [(0, v), (0, u), (0, y), (0, x), (1, 17 * n + 86)], w)) 4 rfl ?_
                      refine e_Ok.callV rfl (by omega) rfl (lA0 (a := n) (by omega) (by omega)) rfl rfl (c_1 (by omega) (a := n) (cd := cd) hT (by omega) hc hcd (by omega) (by omega) (by omega) (by omega)) (fun r27 w28 h29 => ?_)
                      obtain ⟨rfl, mf, mT, m8, mx, mr, mc⟩ := h29
                      have f30 : e_fr (kAa n cd) w w28 := e_fr.trans (e_fr.refl w) (e_fr.mono mf (fun c k q => by exact Or.inl q))
                      show e_Ok 20 elay kcode eI (d + 1) 193 (91, [(0, (1, 0)), (1, (0, x)), (2, (0, y)), (3, (0, u)), (4, (0, v))], [], w28) _
                      refine e_Ok.run (t' := (93, [(0, (1, 0)), (1, (0, x)), (2, (0, y)), (3, (0, u)), (4, (0, v))], [(1, 0), (1, 0)], w28)) 2 rfl ?_
                      refine e_Ok.getf (z := n) rfl rfl rfl rfl ((mf 0 11 (by unfold kMk; omega)).trans hn) (by omega) ?_
                      refine e_Ok.run (t' := (97, [(0, (1, 0)), (1, (0, x)), (2, (0, y)), (3, (0, u)), (4, (0, v))], [(0, 1), (0, n), (1, 0)], w28)) 1 rfl ?_
                      refine e_Ok.add (z := n + 1) rfl (by omega) (by omega) ?_
                      refine e_Ok.putf rfl rfl rfl rfl ?_
                      generalize hw31 : e_up w28 0 11 (n + 1) = w31
                      have f32 : e_fr (kAa n cd) w w31 := e_fr.up f30 hw31 (by unfold kAa kMk; omega)
                      have hT33 : e_Has kTy w31 := e_Has.upr mT hw31 rfl (by omega)
                      refine e_Ok.run (t' := (102, [(0, (1, 0)), (1, (0, x)), (2, (0, y)), (3, (0, u)), (4, (0, v))], [(1, 0)], w31)) 1 rfl ?_
                      refine e_Ok.getf (z := n + 1) rfl rfl rfl rfl (by rw [← hw31]; exact e_up_eq _ _ _ _) (by omega) ?_
                      refine e_Ok.run (t' := (106, [(0, (1, 0)), (1, (0, x)), (2, (0, y)), (3, (0, u)), (4, (0, v))], [(0, 1), (0, n + 1)], w31)) 1 rfl ?_
                      refine e_Ok.sub' (z := n) rfl (by omega) (by omega) ?_
                      refine e_Ok.rets rfl rfl ?_
                      exact ⟨_, rfl, by omega⟩
                    · replace h26 : (n : Int) ≥ 4 := by have q : ¬ ((n : Int) < 4) := h26; omega
                      exfalso; omega
                  · replace h25 : (w 0 13 : Int) ≠ 0 := by have q : ¬ ((w 0 13 : Int) = 0) := h25; omega
                    refine e_Ok.run (t' := (62, [(0, (1, 0)), (1, (0, x)), (2, (0, y)), (3, (0, u)), (4, (0, v))], [(0, (-2))], w)) 1 rfl ?_
                    refine e_Ok.rets rfl rfl ?_
                    exact ⟨_, rfl, by omega⟩
                · replace h24 : (1 : Int) = 0 := by have q : ¬ ((1 : Int) ≠ 0) := h24; omega
                  exfalso; omega
              · show e_Ok 20 elay kcode eI (d + 1) 193 (48, [(0, (1, 0)), (1, (0, x)), (2, (0, y)), (3, (0, u)), (4, (0, v))], [(0, 0)], w) _
                refine e_Ok.if1 rfl (fun h34 => ?_) (fun h34 => ?_)
                · replace h34 : (0 : Int) ≠ 0 := h34
                  exfalso; omega
                · replace h34 : (0 : Int) = 0 := by have q : ¬ ((0 : Int) ≠ 0) := h34; omega
                  refine e_Ok.run (t' := (52, [(0, (1, 0)), (1, (0, x)), (2, (0, y)), (3, (0, u)), (4, (0, v))], [(0, (-1))], w)) 1 rfl ?_
                  refine e_Ok.rets rfl rfl ?_
                  exact ⟨_, rfl, by omega⟩
          · show e_Ok 20 elay kcode eI (d + 1) 193 (36, [(0, (1, 0)), (1, (0, x)), (2, (0, y)), (3, (0, u)), (4, (0, v))], [(0, 0)], w) _
            refine e_Ok.if1 rfl (fun h35 => ?_) (fun h35 => ?_)
            · replace h35 : (0 : Int) = 0 := h35
              refine e_Ok.run (t' := (52, [(0, (1, 0)), (1, (0, x)), (2, (0, y)), (3, (0, u)), (4, (0, v))], [(0, (-1))], w)) 1 rfl ?_
              refine e_Ok.rets rfl rfl ?_
              exact ⟨_, rfl, by omega⟩
            · replace h35 : (0 : Int) ≠ 0 := by have q : ¬ ((0 : Int) = 0) := h35; omega
              exfalso; omega
        · replace h12 : (1 : Int) = 0 := by have q : ¬ ((1 : Int) ≠ 0) := h12; omega
          exfalso; omega
      · show e_Ok 20 elay kcode eI (d + 1) 193 (23, [(0, (1, 0)), (1, (0, x)), (2, (0, y)), (3, (0, u)), (4, (0, v))], [(0, 0)], w) _
        refine e_Ok.if1 rfl (fun h36 => ?_) (fun h36 => ?_)
        · replace h36 : (0 : Int) ≠ 0 := h36
          exfalso; omega
        · replace h36 : (0 : Int) = 0 := by have q : ¬ ((0 : Int) ≠ 0) := h36; omega
          refine e_Ok.run (t' := (27, [(0, (1, 0)), (1, (0, x)), (2, (0, y)), (3, (0, u)), (4, (0, v))], [(0, (-1))], w)) 1 rfl ?_
          refine e_Ok.rets rfl rfl ?_
          exact ⟨_, rfl, by omega⟩
  · show e_Ok 20 elay kcode eI (d + 1) 193 (10, [(0, (1, 0)), (1, (0, x)), (2, (0, y)), (3, (0, u)), (4, (0, v))], [(0, 0)], w) _
    refine e_Ok.if1 rfl (fun h37 => ?_) (fun h37 => ?_)
    · replace h37 : (0 : Int) = 0 := h37
      refine e_Ok.run (t' := (27, [(0, (1, 0)), (1, (0, x)), (2, (0, y)), (3, (0, u)), (4, (0, v))], [(0, (-1))], w)) 1 rfl ?_
      refine e_Ok.rets rfl rfl ?_
      exact ⟨_, rfl, by omega⟩
    · replace h37 : (0 : Int) ≠ 0 := by have q : ¬ ((0 : Int) = 0) := h37; omega
      exfalso; omega
set_option maxHeartbeats 4000000 in
theorem c_193_y {d : Nat} (hd : 28 ≤ d) {w : eW} (hT : e_Has kTy w) (hO : 0 ≤ w 0 13 ∧ w 0 13 ≤ 1) (hn : w 0 11 = 4) {x : Int} (g_x : (-2147483648) ≤ x ∧ x ≤ 2147483647) {y : Int} (g_y : (-2147483648) ≤ y ∧ y ≤ 2147483647) {u : Int} (g_u : (-2147483648) ≤ u ∧ u ≤ 2147483647) {v : Int} (g_v : (-2147483648) ≤ v ∧ v ≤ 2147483647) : e_Ok 20 elay kcode eI d 193 (0, [(0, (1, 0)), (1, (0, x)), (2, (0, y)), (3, (0, u)), (4, (0, v))], [], w) (fun r w' => ∃ z : Int, r = [(0, z)] ∧ ((¬ ((-8000 ≤ x ∧ x ≤ 8000) ∧ (-8000 ≤ y ∧ y ≤ 8000) ∧ (0 ≤ u ∧ u ≤ 4095) ∧ (0 ≤ v ∧ v ≤ 800)) ∧ z = -1) ∨ (((-8000 ≤ x ∧ x ≤ 8000) ∧ (-8000 ≤ y ∧ y ≤ 8000) ∧ (0 ≤ u ∧ u ≤ 4095) ∧ (0 ≤ v ∧ v ≤ 800)) ∧ ((w 0 13 ≠ 0 ∧ z = -2) ∨ (w 0 13 = 0 ∧ z = -3))))) := by
  obtain ⟨d, rfl⟩ : ∃ e, d = e + 1 := ⟨d - 1, by omega⟩
  refine e_Ok.run (t' := (7, [(0, (1, 0)), (1, (0, x)), (2, (0, y)), (3, (0, u)), (4, (0, v))], [(0, 8000), (0, (-8000)), (0, x)], w)) 3 rfl ?_
  refine e_Ok.callS rfl (by omega) rfl rfl (c_242 (by omega) (by omega) (by omega)) (fun r1 w2 h3 => ?_)
  obtain ⟨z4, rfl, rfl, q5⟩ := h3
  obtain ⟨rfl, q5⟩ | ⟨rfl, q5⟩ := q5
  · show e_Ok 20 elay kcode eI (d + 1) 193 (10, [(0, (1, 0)), (1, (0, x)), (2, (0, y)), (3, (0, u)), (4, (0, v))], [(0, 1)], w) _
    refine e_Ok.if1 rfl (fun h6 => ?_) (fun h6 => ?_)
    · replace h6 : (1 : Int) = 0 := h6
      exfalso; omega
    · replace h6 : (1 : Int) ≠ 0 := by have q : ¬ ((1 : Int) = 0) := h6; omega
      refine e_Ok.run (t' := (20, [(0, (1, 0)), (1, (0, x)), (2, (0, y)), (3, (0, u)), (4, (0, v))], [(0, 8000), (0, (-8000)), (0, y)], w)) 3 rfl ?_
      refine e_Ok.callS rfl (by omega) rfl rfl (c_242 (by omega) (by omega) (by omega)) (fun r7 w8 h9 => ?_)
      obtain ⟨z10, rfl, rfl, q11⟩ := h9
      obtain ⟨rfl, q11⟩ | ⟨rfl, q11⟩ := q11
      · show e_Ok 20 elay kcode eI (d + 1) 193 (23, [(0, (1, 0)), (1, (0, x)), (2, (0, y)), (3, (0, u)), (4, (0, v))], [(0, 1)], w) _
        refine e_Ok.if1 rfl (fun h12 => ?_) (fun h12 => ?_)
        · replace h12 : (1 : Int) ≠ 0 := h12
          refine e_Ok.run (t' := (33, [(0, (1, 0)), (1, (0, x)), (2, (0, y)), (3, (0, u)), (4, (0, v))], [(0, 4095), (0, 0), (0, u)], w)) 3 rfl ?_
          refine e_Ok.callS rfl (by omega) rfl rfl (c_242 (by omega) (by omega) (by omega)) (fun r13 w14 h15 => ?_)
          obtain ⟨z16, rfl, rfl, q17⟩ := h15
          obtain ⟨rfl, q17⟩ | ⟨rfl, q17⟩ := q17
          · show e_Ok 20 elay kcode eI (d + 1) 193 (36, [(0, (1, 0)), (1, (0, x)), (2, (0, y)), (3, (0, u)), (4, (0, v))], [(0, 1)], w) _
            refine e_Ok.if1 rfl (fun h18 => ?_) (fun h18 => ?_)
            · replace h18 : (1 : Int) = 0 := h18
              exfalso; omega
            · replace h18 : (1 : Int) ≠ 0 := by have q : ¬ ((1 : Int) = 0) := h18; omega
              refine e_Ok.run (t' := (45, [(0, (1, 0)), (1, (0, x)), (2, (0, y)), (3, (0, u)), (4, (0, v))], [(0, 800), (0, 0), (0, v)], w)) 3 rfl ?_
              refine e_Ok.callS rfl (by omega) rfl rfl (c_242 (by omega) (by omega) (by omega)) (fun r19 w20 h21 => ?_)
              obtain ⟨z22, rfl, rfl, q23⟩ := h21
              obtain ⟨rfl, q23⟩ | ⟨rfl, q23⟩ := q23
              · show e_Ok 20 elay kcode eI (d + 1) 193 (48, [(0, (1, 0)), (1, (0, x)), (2, (0, y)), (3, (0, u)), (4, (0, v))], [(0, 1)], w) _
                refine e_Ok.if1 rfl (fun h24 => ?_) (fun h24 => ?_)
                · replace h24 : (1 : Int) ≠ 0 := h24
                  refine e_Ok.run (t' := (54, [(0, (1, 0)), (1, (0, x)), (2, (0, y)), (3, (0, u)), (4, (0, v))], [(1, 0)], w)) 1 rfl ?_
                  refine e_Ok.getf (z := w 0 13) rfl rfl rfl rfl rfl (by omega) ?_
                  refine e_Ok.if1 rfl (fun h25 => ?_) (fun h25 => ?_)
                  · replace h25 : (w 0 13 : Int) = 0 := h25
                    refine e_Ok.run (t' := (64, [(0, (1, 0)), (1, (0, x)), (2, (0, y)), (3, (0, u)), (4, (0, v))], [(1, 0)], w)) 1 rfl ?_
                    refine e_Ok.getf (z := 4) rfl rfl rfl rfl hn (by omega) ?_
                    refine e_Ok.run (t' := (68, [(0, (1, 0)), (1, (0, x)), (2, (0, y)), (3, (0, u)), (4, (0, v))], [(0, 4), (0, 4)], w)) 1 rfl ?_
                    refine e_Ok.if2 rfl (fun h26 => ?_) (fun h26 => ?_)
                    · replace h26 : (4 : Int) < 4 := h26
                      exfalso; omega
                    · replace h26 : (4 : Int) ≥ 4 := by have q : ¬ ((4 : Int) < 4) := h26; omega
                      refine e_Ok.run (t' := (73, [(0, (1, 0)), (1, (0, x)), (2, (0, y)), (3, (0, u)), (4, (0, v))], [(0, (-3))], w)) 1 rfl ?_
                      refine e_Ok.rets rfl rfl ?_
                      exact ⟨_, rfl, by omega⟩
                  · replace h25 : (w 0 13 : Int) ≠ 0 := by have q : ¬ ((w 0 13 : Int) = 0) := h25; omega
                    refine e_Ok.run (t' := (62, [(0, (1, 0)), (1, (0, x)), (2, (0, y)), (3, (0, u)), (4, (0, v))], [(0, (-2))], w)) 1 rfl ?_
                    refine e_Ok.rets rfl rfl ?_
                    exact ⟨_, rfl, by omega⟩
                · replace h24 : (1 : Int) = 0 := by have q : ¬ ((1 : Int) ≠ 0) := h24; omega
                  exfalso; omega
              · show e_Ok 20 elay kcode eI (d + 1) 193 (48, [(0, (1, 0)), (1, (0, x)), (2, (0, y)), (3, (0, u)), (4, (0, v))], [(0, 0)], w) _
                refine e_Ok.if1 rfl (fun h27 => ?_) (fun h27 => ?_)
                · replace h27 : (0 : Int) ≠ 0 := h27
                  exfalso; omega
                · replace h27 : (0 : Int) = 0 := by have q : ¬ ((0 : Int) ≠ 0) := h27; omega
                  refine e_Ok.run (t' := (52, [(0, (1, 0)), (1, (0, x)), (2, (0, y)), (3, (0, u)), (4, (0, v))], [(0, (-1))], w)) 1 rfl ?_
                  refine e_Ok.rets rfl rfl ?_
                  exact ⟨_, rfl, by omega⟩
          · show e_Ok 20 elay kcode eI (d + 1) 193 (36, [(0, (1, 0)), (1, (0, x)), (2, (0, y)), (3, (0, u)), (4, (0, v))], [(0, 0)], w) _
            refine e_Ok.if1 rfl (fun h28 => ?_) (fun h28 => ?_)
            · replace h28 : (0 : Int) = 0 := h28
              refine e_Ok.run (t' := (52, [(0, (1, 0)), (1, (0, x)), (2, (0, y)), (3, (0, u)), (4, (0, v))], [(0, (-1))], w)) 1 rfl ?_
              refine e_Ok.rets rfl rfl ?_
              exact ⟨_, rfl, by omega⟩
            · replace h28 : (0 : Int) ≠ 0 := by have q : ¬ ((0 : Int) = 0) := h28; omega
              exfalso; omega
        · replace h12 : (1 : Int) = 0 := by have q : ¬ ((1 : Int) ≠ 0) := h12; omega
          exfalso; omega
      · show e_Ok 20 elay kcode eI (d + 1) 193 (23, [(0, (1, 0)), (1, (0, x)), (2, (0, y)), (3, (0, u)), (4, (0, v))], [(0, 0)], w) _
        refine e_Ok.if1 rfl (fun h29 => ?_) (fun h29 => ?_)
        · replace h29 : (0 : Int) ≠ 0 := h29
          exfalso; omega
        · replace h29 : (0 : Int) = 0 := by have q : ¬ ((0 : Int) ≠ 0) := h29; omega
          refine e_Ok.run (t' := (27, [(0, (1, 0)), (1, (0, x)), (2, (0, y)), (3, (0, u)), (4, (0, v))], [(0, (-1))], w)) 1 rfl ?_
          refine e_Ok.rets rfl rfl ?_
          exact ⟨_, rfl, by omega⟩
  · show e_Ok 20 elay kcode eI (d + 1) 193 (10, [(0, (1, 0)), (1, (0, x)), (2, (0, y)), (3, (0, u)), (4, (0, v))], [(0, 0)], w) _
    refine e_Ok.if1 rfl (fun h30 => ?_) (fun h30 => ?_)
    · replace h30 : (0 : Int) = 0 := h30
      refine e_Ok.run (t' := (27, [(0, (1, 0)), (1, (0, x)), (2, (0, y)), (3, (0, u)), (4, (0, v))], [(0, (-1))], w)) 1 rfl ?_
      refine e_Ok.rets rfl rfl ?_
      exact ⟨_, rfl, by omega⟩
    · replace h30 : (0 : Int) ≠ 0 := by have q : ¬ ((0 : Int) = 0) := h30; omega
      exfalso; omega
set_option maxHeartbeats 4000000 in
theorem c_212_o {d : Nat} (hd : 28 ≤ d) {w : eW} (hT : e_Has kTy w) (h13 : w 0 13 = 1) : e_Ok 20 elay kcode eI d 212 (0, [(0, (1, 0))], [], w) (fun r w' => r = [(0, -2)]) := by
  obtain ⟨d, rfl⟩ : ∃ e, d = e + 1 := ⟨d - 1, by omega⟩
  have hw0 := e_Has.get hT (c := 0) (k := 11) (lo := 0) (hi := 4) rfl (by decide)
  refine e_Ok.run (t' := (1, [(0, (1, 0))], [(1, 0)], w)) 1 rfl ?_
  refine e_Ok.getf (z := 1) rfl rfl rfl rfl h13 (by omega) ?_
  refine e_Ok.if1 rfl (fun h1 => ?_) (fun h1 => ?_)
  · replace h1 : (1 : Int) = 0 := h1
    exfalso; omega
  · replace h1 : (1 : Int) ≠ 0 := by have q : ¬ ((1 : Int) = 0) := h1; omega
    refine e_Ok.run (t' := (9, [(0, (1, 0))], [(0, (-2))], w)) 1 rfl ?_
    refine e_Ok.rets rfl rfl ?_
    exact rfl
end
