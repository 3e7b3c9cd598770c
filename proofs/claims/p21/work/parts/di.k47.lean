noncomputable section
/-! the class: solids, zones, belts -/
def kAs (c k : Int) : Prop := (c = 250 ∧ (k = 0 ∨ k = 1)) ∨ (251 ≤ c ∧ c ≤ 261)
def kAb (c k : Int) : Prop := (c = 19 ∧ k = 0) ∨ (20 ≤ c ∧ c ≤ 29) ∨ c = 35
def kSd (a : Int) (c k : Int) : Prop := c = 17 * a + 92
theorem c_243 {d : Nat} (hd : 21 ≤ d) {w : eW} {x : Int} (g_x : -2147483648 ≤ x ∧ x ≤ 2147483647) {y : Int} (g_y : -2147483648 ≤ y ∧ y ≤ 2147483647) : e_Ok 20 elay kcode eI d 243 (0, [(0, (0, x)), (1, (0, y))], [], w) (fun r w' => ∃ z : Int, r = [(0, z)] ∧ w = w' ∧ ((z = 1 ∧ (-16000 ≤ x ∧ x ≤ 16000) ∧ -16000 ≤ y ∧ y ≤ 16000) ∨ (z = 0 ∧ True))) := by
  obtain ⟨d, rfl⟩ : ∃ e, d = e + 1 := ⟨d - 1, by omega⟩
  refine e_Ok.run (t' := (7, [(0, (0, x)), (1, (0, y))], [(0, 16000), (0, (-16000)), (0, x)], w)) 3 rfl ?_
  refine e_Ok.callS rfl (by omega) rfl rfl (c_242 (by omega) (by omega) (by omega)) (fun r1 w2 h3 => ?_)
  obtain ⟨z4, rfl, rfl, q5⟩ := h3
  obtain ⟨rfl, q5⟩ | ⟨rfl, q5⟩ := q5
  · show e_Ok 20 elay kcode eI (d + 1) 243 (10, [(0, (0, x)), (1, (0, y))], [(0, 1)], w) _
    refine e_Ok.if1 rfl (fun h6 => ?_) (fun h6 => ?_)
    · replace h6 : (1 : Int) = 0 := h6
      exfalso; omega
    · replace h6 : (1 : Int) ≠ 0 := by have q : ¬ ((1 : Int) = 0) := h6; omega
      refine e_Ok.run (t' := (20, [(0, (0, x)), (1, (0, y))], [(0, 16000), (0, (-16000)), (0, y)], w)) 3 rfl ?_
      refine e_Ok.callS rfl (by omega) rfl rfl (c_242 (by omega) (by omega) (by omega)) (fun r7 w8 h9 => ?_)
      obtain ⟨z10, rfl, rfl, q11⟩ := h9
      obtain ⟨rfl, q11⟩ | ⟨rfl, q11⟩ := q11
      · show e_Ok 20 elay kcode eI (d + 1) 243 (23, [(0, (0, x)), (1, (0, y))], [(0, 1)], w) _
        refine e_Ok.if1 rfl (fun h12 => ?_) (fun h12 => ?_)
        · replace h12 : (1 : Int) = 0 := h12
          exfalso; omega
        · replace h12 : (1 : Int) ≠ 0 := by have q : ¬ ((1 : Int) = 0) := h12; omega
          refine e_Ok.run (t' := (31, [(0, (0, x)), (1, (0, y))], [(0, 1)], w)) 2 rfl ?_
          refine e_Ok.rets rfl rfl ?_
          exact ⟨_, rfl, rfl, Or.inl ⟨rfl, by omega⟩⟩
      · show e_Ok 20 elay kcode eI (d + 1) 243 (23, [(0, (0, x)), (1, (0, y))], [(0, 0)], w) _
        refine e_Ok.if1 rfl (fun h13 => ?_) (fun h13 => ?_)
        · replace h13 : (0 : Int) = 0 := h13
          refine e_Ok.run (t' := (31, [(0, (0, x)), (1, (0, y))], [(0, 0)], w)) 1 rfl ?_
          refine e_Ok.rets rfl rfl ?_
          exact ⟨_, rfl, rfl, Or.inr ⟨rfl, trivial⟩⟩
        · replace h13 : (0 : Int) ≠ 0 := by have q : ¬ ((0 : Int) = 0) := h13; omega
          exfalso; omega
  · show e_Ok 20 elay kcode eI (d + 1) 243 (10, [(0, (0, x)), (1, (0, y))], [(0, 0)], w) _
    refine e_Ok.if1 rfl (fun h14 => ?_) (fun h14 => ?_)
    · replace h14 : (0 : Int) = 0 := h14
      refine e_Ok.run (t' := (31, [(0, (0, x)), (1, (0, y))], [(0, 0)], w)) 1 rfl ?_
      refine e_Ok.rets rfl rfl ?_
      exact ⟨_, rfl, rfl, Or.inr ⟨rfl, trivial⟩⟩
    · replace h14 : (0 : Int) ≠ 0 := by have q : ¬ ((0 : Int) = 0) := h14; omega
      exfalso; omega
theorem c_244 {d : Nat} (hd : 22 ≤ d) {w : eW} {x : Int} (g_x : -2147483648 ≤ x ∧ x ≤ 2147483647) {y : Int} (g_y : -2147483648 ≤ y ∧ y ≤ 2147483647) {u : Int} (g_u : -2147483648 ≤ u ∧ u ≤ 2147483647) {v : Int} (g_v : -2147483648 ≤ v ∧ v ≤ 2147483647) : e_Ok 20 elay kcode eI d 244 (0, [(0, (0, x)), (1, (0, y)), (2, (0, u)), (3, (0, v))], [], w) (fun r w' => ∃ z : Int, r = [(0, z)] ∧ w = w' ∧ ((z = 1 ∧ ((-16000 ≤ x ∧ x ≤ 16000) ∧ -16000 ≤ y ∧ y ≤ 16000) ∧ (0 ≤ u ∧ u ≤ 16000 - x) ∧ 0 ≤ v ∧ v ≤ 16000 - y) ∨ (z = 0 ∧ True))) := by
  obtain ⟨d, rfl⟩ : ∃ e, d = e + 1 := ⟨d - 1, by omega⟩
  refine e_Ok.run (t' := (2, [(0, (0, x)), (1, (0, y)), (2, (0, u)), (3, (0, v))], [(0, y), (0, x)], w)) 2 rfl ?_
  refine e_Ok.callS rfl (by omega) rfl rfl (c_243 (by omega) (by omega) (by omega)) (fun r1 w2 h3 => ?_)
  obtain ⟨z4, rfl, rfl, q5⟩ := h3
  obtain ⟨rfl, q5⟩ | ⟨rfl, q5⟩ := q5
  · show e_Ok 20 elay kcode eI (d + 1) 244 (5, [(0, (0, x)), (1, (0, y)), (2, (0, u)), (3, (0, v))], [(0, 1)], w) _
    refine e_Ok.if1 rfl (fun h6 => ?_) (fun h6 => ?_)
    · replace h6 : (1 : Int) = 0 := h6
      exfalso; omega
    · replace h6 : (1 : Int) ≠ 0 := by have q : ¬ ((1 : Int) = 0) := h6; omega
      refine e_Ok.run (t' := (14, [(0, (0, x)), (1, (0, y)), (2, (0, u)), (3, (0, v))], [(0, x), (0, 16000), (0, 0), (0, u)], w)) 4 rfl ?_
      refine e_Ok.sub' (z := -x + 16000) rfl (by omega) (by omega) ?_
      refine e_Ok.callS rfl (by omega) rfl rfl (c_242 (by omega) (by omega) (by omega)) (fun r7 w8 h9 => ?_)
      obtain ⟨z10, rfl, rfl, q11⟩ := h9
      obtain ⟨rfl, q11⟩ | ⟨rfl, q11⟩ := q11
      · show e_Ok 20 elay kcode eI (d + 1) 244 (18, [(0, (0, x)), (1, (0, y)), (2, (0, u)), (3, (0, v))], [(0, 1)], w) _
        refine e_Ok.if1 rfl (fun h12 => ?_) (fun h12 => ?_)
        · replace h12 : (1 : Int) = 0 := h12
          exfalso; omega
        · replace h12 : (1 : Int) ≠ 0 := by have q : ¬ ((1 : Int) = 0) := h12; omega
          refine e_Ok.run (t' := (27, [(0, (0, x)), (1, (0, y)), (2, (0, u)), (3, (0, v))], [(0, y), (0, 16000), (0, 0), (0, v)], w)) 4 rfl ?_
          refine e_Ok.sub' (z := -y + 16000) rfl (by omega) (by omega) ?_
          refine e_Ok.callS rfl (by omega) rfl rfl (c_242 (by omega) (by omega) (by omega)) (fun r13 w14 h15 => ?_)
          obtain ⟨z16, rfl, rfl, q17⟩ := h15
          obtain ⟨rfl, q17⟩ | ⟨rfl, q17⟩ := q17
          · show e_Ok 20 elay kcode eI (d + 1) 244 (31, [(0, (0, x)), (1, (0, y)), (2, (0, u)), (3, (0, v))], [(0, 1)], w) _
            refine e_Ok.if1 rfl (fun h18 => ?_) (fun h18 => ?_)
            · replace h18 : (1 : Int) = 0 := h18
              exfalso; omega
            · replace h18 : (1 : Int) ≠ 0 := by have q : ¬ ((1 : Int) = 0) := h18; omega
              refine e_Ok.run (t' := (39, [(0, (0, x)), (1, (0, y)), (2, (0, u)), (3, (0, v))], [(0, 1)], w)) 2 rfl ?_
              refine e_Ok.rets rfl rfl ?_
              exact ⟨_, rfl, rfl, Or.inl ⟨rfl, by omega⟩⟩
          · show e_Ok 20 elay kcode eI (d + 1) 244 (31, [(0, (0, x)), (1, (0, y)), (2, (0, u)), (3, (0, v))], [(0, 0)], w) _
            refine e_Ok.if1 rfl (fun h19 => ?_) (fun h19 => ?_)
            · replace h19 : (0 : Int) = 0 := h19
              refine e_Ok.run (t' := (39, [(0, (0, x)), (1, (0, y)), (2, (0, u)), (3, (0, v))], [(0, 0)], w)) 1 rfl ?_
              refine e_Ok.rets rfl rfl ?_
              exact ⟨_, rfl, rfl, Or.inr ⟨rfl, trivial⟩⟩
            · replace h19 : (0 : Int) ≠ 0 := by have q : ¬ ((0 : Int) = 0) := h19; omega
              exfalso; omega
      · show e_Ok 20 elay kcode eI (d + 1) 244 (18, [(0, (0, x)), (1, (0, y)), (2, (0, u)), (3, (0, v))], [(0, 0)], w) _
        refine e_Ok.if1 rfl (fun h20 => ?_) (fun h20 => ?_)
        · replace h20 : (0 : Int) = 0 := h20
          refine e_Ok.run (t' := (39, [(0, (0, x)), (1, (0, y)), (2, (0, u)), (3, (0, v))], [(0, 0)], w)) 1 rfl ?_
          refine e_Ok.rets rfl rfl ?_
          exact ⟨_, rfl, rfl, Or.inr ⟨rfl, trivial⟩⟩
        · replace h20 : (0 : Int) ≠ 0 := by have q : ¬ ((0 : Int) = 0) := h20; omega
          exfalso; omega
  · show e_Ok 20 elay kcode eI (d + 1) 244 (5, [(0, (0, x)), (1, (0, y)), (2, (0, u)), (3, (0, v))], [(0, 0)], w) _
    refine e_Ok.if1 rfl (fun h21 => ?_) (fun h21 => ?_)
    · replace h21 : (0 : Int) = 0 := h21
      refine e_Ok.run (t' := (39, [(0, (0, x)), (1, (0, y)), (2, (0, u)), (3, (0, v))], [(0, 0)], w)) 1 rfl ?_
      refine e_Ok.rets rfl rfl ?_
      exact ⟨_, rfl, rfl, Or.inr ⟨rfl, trivial⟩⟩
    · replace h21 : (0 : Int) ≠ 0 := by have q : ¬ ((0 : Int) = 0) := h21; omega
      exfalso; omega
theorem c_167 {d : Nat} {w : eW} (hT : e_Has kTy w) {x y u v s : Int} (g_x : (-2147483648) ≤ x ∧ x ≤ 2147483647) (g_y : (-2147483648) ≤ y ∧ y ≤ 2147483647) (g_u : (-2147483648) ≤ u ∧ u ≤ 2147483647) (g_v : (-2147483648) ≤ v ∧ v ≤ 2147483647) (g_s : (-2147483648) ≤ s ∧ s ≤ 2147483647) : e_Ok 20 elay kcode eI d 167 (0, [(0, (1, 250)), (1, (0, x)), (2, (0, y)), (3, (0, u)), (4, (0, v)), (5, (0, s))], [], w) (fun r w' => ∃ z : Int, r = [(0, z)] ∧ e_fr kAs w w' ∧ e_Has kTy w' ∧ ((-2147483648) ≤ z ∧ z ≤ 2147483647)) := by
  refine e_Ok.run (t' := (1, [(0, (1, 250)), (1, (0, x)), (2, (0, y)), (3, (0, u)), (4, (0, v)), (5, (0, s))], [(1, 250)], w)) 1 rfl ?_
  have h1 := (e_Has.get hT (c := 250) (k := 0) (lo := 0) (hi := 16) rfl (by decide))
  refine e_Ok.getf (z := w 250 0) rfl (el_o rfl) rfl rfl rfl (by omega) ?_
  refine e_Ok.run (t' := (6, [(0, (1, 250)), (1, (0, x)), (2, (0, y)), (3, (0, u)), (4, (0, v)), (5, (0, s))], [(0, 16), (0, w 250 0)], w)) 1 rfl ?_
  refine e_Ok.if2 rfl (fun h2 => ?_) (fun h2 => ?_)
  · replace h2 : (w 250 0 : Int) < 16 := h2
    refine e_Ok.run (t' := (13, [(0, (1, 250)), (1, (0, x)), (2, (0, y)), (3, (0, u)), (4, (0, v)), (5, (0, s))], [(1, 250)], w)) 1 rfl ?_
    refine e_Ok.getr (z := 251) rfl (el_o rfl) rfl rfl (Eq.trans (e_Has.eq hT rfl) (by omega)) (by omega) ?_
    refine e_Ok.run (t' := (17, [(0, (1, 250)), (1, (0, x)), (2, (0, y)), (3, (0, u)), (4, (0, v)), (5, (0, s))], [(1, 250), (1, 251)], w)) 1 rfl ?_
    refine e_Ok.getf (z := w 250 0) rfl (el_o rfl) rfl rfl rfl (by omega) ?_
    refine e_Ok.run (t' := (21, [(0, (1, 250)), (1, (0, x)), (2, (0, y)), (3, (0, u)), (4, (0, v)), (5, (0, s))], [(0, x), (0, w 250 0), (1, 251)], w)) 1 rfl ?_
    refine e_Ok.ast rfl (el_o rfl) rfl rfl (by omega) ?_
    generalize hw3 : e_up w 251 (w 250 0) x = w3
    have f4 : e_fr kAs w w3 := e_fr.up (e_fr.refl w) hw3 (by unfold kAs; omega)
    have hT5 : e_Has kTy w3 := e_Has.upr hT hw3 rfl (by omega)
    refine e_Ok.run (t' := (23, [(0, (1, 250)), (1, (0, x)), (2, (0, y)), (3, (0, u)), (4, (0, v)), (5, (0, s))], [(1, 250)], w3)) 1 rfl ?_
    refine e_Ok.getr (z := 252) rfl (el_o rfl) rfl rfl (by rw [← hw3]; exact (e_up_ne _ _ (Or.inl (by omega))).trans (Eq.trans (e_Has.eq hT rfl) (by omega))) (by omega) ?_
    refine e_Ok.run (t' := (27, [(0, (1, 250)), (1, (0, x)), (2, (0, y)), (3, (0, u)), (4, (0, v)), (5, (0, s))], [(1, 250), (1, 252)], w3)) 1 rfl ?_
    refine e_Ok.getf (z := w 250 0) rfl (el_o rfl) rfl rfl (by rw [← hw3]; exact (e_up_ne _ _ (Or.inl (by omega))).trans rfl) (by omega) ?_
    refine e_Ok.run (t' := (31, [(0, (1, 250)), (1, (0, x)), (2, (0, y)), (3, (0, u)), (4, (0, v)), (5, (0, s))], [(0, y), (0, w 250 0), (1, 252)], w3)) 1 rfl ?_
    refine e_Ok.ast rfl (el_o rfl) rfl rfl (by omega) ?_
    generalize hw6 : e_up w3 252 (w 250 0) y = w6
    have f7 : e_fr kAs w w6 := e_fr.up f4 hw6 (by unfold kAs; omega)
    have hT8 : e_Has kTy w6 := e_Has.upr hT5 hw6 rfl (by omega)
    refine e_Ok.run (t' := (33, [(0, (1, 250)), (1, (0, x)), (2, (0, y)), (3, (0, u)), (4, (0, v)), (5, (0, s))], [(1, 250)], w6)) 1 rfl ?_
    refine e_Ok.getr (z := 253) rfl (el_o rfl) rfl rfl (by rw [← hw6]; exact (e_up_ne _ _ (Or.inl (by omega))).trans (by rw [← hw3]; exact (e_up_ne _ _ (Or.inl (by omega))).trans (Eq.trans (e_Has.eq hT rfl) (by omega)))) (by omega) ?_
    refine e_Ok.run (t' := (37, [(0, (1, 250)), (1, (0, x)), (2, (0, y)), (3, (0, u)), (4, (0, v)), (5, (0, s))], [(1, 250), (1, 253)], w6)) 1 rfl ?_
    refine e_Ok.getf (z := w 250 0) rfl (el_o rfl) rfl rfl (by rw [← hw6]; exact (e_up_ne _ _ (Or.inl (by omega))).trans (by rw [← hw3]; exact (e_up_ne _ _ (Or.inl (by omega))).trans rfl)) (by omega) ?_
    refine e_Ok.run (t' := (41, [(0, (1, 250)), (1, (0, x)), (2, (0, y)), (3, (0, u)), (4, (0, v)), (5, (0, s))], [(0, u), (0, w 250 0), (1, 253)], w6)) 1 rfl ?_
    refine e_Ok.ast rfl (el_o rfl) rfl rfl (by omega) ?_
    generalize hw9 : e_up w6 253 (w 250 0) u = w9
    have f10 : e_fr kAs w w9 := e_fr.up f7 hw9 (by unfold kAs; omega)
    have hT11 : e_Has kTy w9 := e_Has.upr hT8 hw9 rfl (by omega)
    refine e_Ok.run (t' := (43, [(0, (1, 250)), (1, (0, x)), (2, (0, y)), (3, (0, u)), (4, (0, v)), (5, (0, s))], [(1, 250)], w9)) 1 rfl ?_
    refine e_Ok.getr (z := 254) rfl (el_o rfl) rfl rfl (by rw [← hw9]; exact (e_up_ne _ _ (Or.inl (by omega))).trans (by rw [← hw6]; exact (e_up_ne _ _ (Or.inl (by omega))).trans (by rw [← hw3]; exact (e_up_ne _ _ (Or.inl (by omega))).trans (Eq.trans (e_Has.eq hT rfl) (by omega))))) (by omega) ?_
    refine e_Ok.run (t' := (47, [(0, (1, 250)), (1, (0, x)), (2, (0, y)), (3, (0, u)), (4, (0, v)), (5, (0, s))], [(1, 250), (1, 254)], w9)) 1 rfl ?_
    refine e_Ok.getf (z := w 250 0) rfl (el_o rfl) rfl rfl (by rw [← hw9]; exact (e_up_ne _ _ (Or.inl (by omega))).trans (by rw [← hw6]; exact (e_up_ne _ _ (Or.inl (by omega))).trans (by rw [← hw3]; exact (e_up_ne _ _ (Or.inl (by omega))).trans rfl))) (by omega) ?_
    refine e_Ok.run (t' := (52, [(0, (1, 250)), (1, (0, x)), (2, (0, y)), (3, (0, u)), (4, (0, v)), (5, (0, s))], [(0, v), (0, w 250 0), (1, 254)], w9)) 1 rfl ?_
    refine e_Ok.ast rfl (el_o rfl) rfl rfl (by omega) ?_
    generalize hw12 : e_up w9 254 (w 250 0) v = w12
    have f13 : e_fr kAs w w12 := e_fr.up f10 hw12 (by unfold kAs; omega)
    have hT14 : e_Has kTy w12 := e_Has.upr hT11 hw12 rfl (by omega)
    refine e_Ok.run (t' := (54, [(0, (1, 250)), (1, (0, x)), (2, (0, y)), (3, (0, u)), (4, (0, v)), (5, (0, s))], [(1, 250)], w12)) 1 rfl ?_
    refine e_Ok.getr (z := 255) rfl (el_o rfl) rfl rfl (by rw [← hw12]; exact (e_up_ne _ _ (Or.inl (by omega))).trans (by rw [← hw9]; exact (e_up_ne _ _ (Or.inl (by omega))).trans (by rw [← hw6]; exact (e_up_ne _ _ (Or.inl (by omega))).trans (by rw [← hw3]; exact (e_up_ne _ _ (Or.inl (by omega))).trans (Eq.trans (e_Has.eq hT rfl) (by omega)))))) (by omega) ?_
    refine e_Ok.run (t' := (58, [(0, (1, 250)), (1, (0, x)), (2, (0, y)), (3, (0, u)), (4, (0, v)), (5, (0, s))], [(1, 250), (1, 255)], w12)) 1 rfl ?_
    refine e_Ok.getf (z := w 250 0) rfl (el_o rfl) rfl rfl (by rw [← hw12]; exact (e_up_ne _ _ (Or.inl (by omega))).trans (by rw [← hw9]; exact (e_up_ne _ _ (Or.inl (by omega))).trans (by rw [← hw6]; exact (e_up_ne _ _ (Or.inl (by omega))).trans (by rw [← hw3]; exact (e_up_ne _ _ (Or.inl (by omega))).trans rfl)))) (by omega) ?_
    refine e_Ok.run (t' := (63, [(0, (1, 250)), (1, (0, x)), (2, (0, y)), (3, (0, u)), (4, (0, v)), (5, (0, s))], [(0, s), (0, w 250 0), (1, 255)], w12)) 1 rfl ?_
    refine e_Ok.ast rfl (el_o rfl) rfl rfl (by omega) ?_
    generalize hw15 : e_up w12 255 (w 250 0) s = w15
    have f16 : e_fr kAs w w15 := e_fr.up f13 hw15 (by unfold kAs; omega)
    have hT17 : e_Has kTy w15 := e_Has.upr hT14 hw15 rfl (by omega)
    refine e_Ok.run (t' := (66, [(0, (1, 250)), (1, (0, x)), (2, (0, y)), (3, (0, u)), (4, (0, v)), (5, (0, s))], [(1, 250), (1, 250)], w15)) 2 rfl ?_
    refine e_Ok.getf (z := w 250 0) rfl (el_o rfl) rfl rfl (by rw [← hw15]; exact (e_up_ne _ _ (Or.inl (by omega))).trans (by rw [← hw12]; exact (e_up_ne _ _ (Or.inl (by omega))).trans (by rw [← hw9]; exact (e_up_ne _ _ (Or.inl (by omega))).trans (by rw [← hw6]; exact (e_up_ne _ _ (Or.inl (by omega))).trans (by rw [← hw3]; exact (e_up_ne _ _ (Or.inl (by omega))).trans rfl))))) (by omega) ?_
    refine e_Ok.run (t' := (70, [(0, (1, 250)), (1, (0, x)), (2, (0, y)), (3, (0, u)), (4, (0, v)), (5, (0, s))], [(0, 1), (0, w 250 0), (1, 250)], w15)) 1 rfl ?_
    refine e_Ok.add (z := w 250 0 + 1) rfl (by omega) (by omega) ?_
    refine e_Ok.putf rfl (el_o rfl) rfl rfl ?_
    generalize hw18 : e_up w15 250 0 (w 250 0 + 1) = w18
    have f19 : e_fr kAs w w18 := e_fr.up f16 hw18 (by unfold kAs; omega)
    have hT20 : e_Has kTy w18 := e_Has.upr hT17 hw18 rfl (by omega)
    refine e_Ok.run (t' := (75, [(0, (1, 250)), (1, (0, x)), (2, (0, y)), (3, (0, u)), (4, (0, v)), (5, (0, s))], [(1, 250)], w18)) 1 rfl ?_
    refine e_Ok.getf (z := w 250 0 + 1) rfl (el_o rfl) rfl rfl (by rw [← hw18]; exact e_up_eq _ _ _ _) (by omega) ?_
    refine e_Ok.run (t' := (79, [(0, (1, 250)), (1, (0, x)), (2, (0, y)), (3, (0, u)), (4, (0, v)), (5, (0, s))], [(0, 1), (0, w 250 0 + 1)], w18)) 1 rfl ?_
    refine e_Ok.sub' (z := w 250 0) rfl (by omega) (by omega) ?_
    refine e_Ok.rets rfl rfl ?_
    exact ⟨_, rfl, f19, hT20, ⟨by omega, by omega⟩⟩
  · replace h2 : (w 250 0 : Int) ≥ 16 := by have q : ¬ ((w 250 0 : Int) < 16) := h2; omega
    refine e_Ok.run (t' := (11, [(0, (1, 250)), (1, (0, x)), (2, (0, y)), (3, (0, u)), (4, (0, v)), (5, (0, s))], [(0, (-3))], w)) 1 rfl ?_
    refine e_Ok.rets rfl rfl ?_
    exact ⟨_, rfl, (e_fr.refl w), hT, ⟨by omega, by omega⟩⟩
theorem c_168 {d : Nat} {w : eW} (hT : e_Has kTy w) {x y u v s : Int} (g_x : 0 ≤ x ∧ x ≤ 3) (g_y : (-2147483648) ≤ y ∧ y ≤ 2147483647) (g_u : (-2147483648) ≤ u ∧ u ≤ 2147483647) (g_v : (-2147483648) ≤ v ∧ v ≤ 2147483647) (g_s : (-2147483648) ≤ s ∧ s ≤ 2147483647) : e_Ok 20 elay kcode eI d 168 (0, [(0, (1, 250)), (1, (0, x)), (2, (0, y)), (3, (0, u)), (4, (0, v)), (5, (0, s))], [], w) (fun r w' => ∃ z : Int, r = [(0, z)] ∧ e_fr kAs w w' ∧ e_Has kTy w' ∧ ((-2147483648) ≤ z ∧ z ≤ 2147483647)) := by
  refine e_Ok.run (t' := (1, [(0, (1, 250)), (1, (0, x)), (2, (0, y)), (3, (0, u)), (4, (0, v)), (5, (0, s))], [(1, 250)], w)) 1 rfl ?_
  have h1 := (e_Has.get hT (c := 250) (k := 1) (lo := 0) (hi := 8) rfl (by decide))
  refine e_Ok.getf (z := w 250 1) rfl (el_o rfl) rfl rfl rfl (by omega) ?_
  refine e_Ok.run (t' := (6, [(0, (1, 250)), (1, (0, x)), (2, (0, y)), (3, (0, u)), (4, (0, v)), (5, (0, s))], [(0, 8), (0, w 250 1)], w)) 1 rfl ?_
  refine e_Ok.if2 rfl (fun h2 => ?_) (fun h2 => ?_)
  · replace h2 : (w 250 1 : Int) < 8 := h2
    refine e_Ok.run (t' := (13, [(0, (1, 250)), (1, (0, x)), (2, (0, y)), (3, (0, u)), (4, (0, v)), (5, (0, s))], [(1, 250)], w)) 1 rfl ?_
    refine e_Ok.getr (z := 256) rfl (el_o rfl) rfl rfl (Eq.trans (e_Has.eq hT rfl) (by omega)) (by omega) ?_
    refine e_Ok.run (t' := (17, [(0, (1, 250)), (1, (0, x)), (2, (0, y)), (3, (0, u)), (4, (0, v)), (5, (0, s))], [(1, 250), (1, 256)], w)) 1 rfl ?_
    refine e_Ok.getf (z := w 250 1) rfl (el_o rfl) rfl rfl rfl (by omega) ?_
    refine e_Ok.run (t' := (21, [(0, (1, 250)), (1, (0, x)), (2, (0, y)), (3, (0, u)), (4, (0, v)), (5, (0, s))], [(0, x), (0, w 250 1), (1, 256)], w)) 1 rfl ?_
    refine e_Ok.ast rfl (el_o rfl) rfl rfl (by omega) ?_
    generalize hw3 : e_up w 256 (w 250 1) x = w3
    have f4 : e_fr kAs w w3 := e_fr.up (e_fr.refl w) hw3 (by unfold kAs; omega)
    have hT5 : e_Has kTy w3 := e_Has.upr hT hw3 rfl (by omega)
    refine e_Ok.run (t' := (23, [(0, (1, 250)), (1, (0, x)), (2, (0, y)), (3, (0, u)), (4, (0, v)), (5, (0, s))], [(1, 250)], w3)) 1 rfl ?_
    refine e_Ok.getr (z := 258) rfl (el_o rfl) rfl rfl (by rw [← hw3]; exact (e_up_ne _ _ (Or.inl (by omega))).trans (Eq.trans (e_Has.eq hT rfl) (by omega))) (by omega) ?_
    refine e_Ok.run (t' := (27, [(0, (1, 250)), (1, (0, x)), (2, (0, y)), (3, (0, u)), (4, (0, v)), (5, (0, s))], [(1, 250), (1, 258)], w3)) 1 rfl ?_
    refine e_Ok.getf (z := w 250 1) rfl (el_o rfl) rfl rfl (by rw [← hw3]; exact (e_up_ne _ _ (Or.inl (by omega))).trans rfl) (by omega) ?_
    refine e_Ok.run (t' := (31, [(0, (1, 250)), (1, (0, x)), (2, (0, y)), (3, (0, u)), (4, (0, v)), (5, (0, s))], [(0, y), (0, w 250 1), (1, 258)], w3)) 1 rfl ?_
    refine e_Ok.ast rfl (el_o rfl) rfl rfl (by omega) ?_
    generalize hw6 : e_up w3 258 (w 250 1) y = w6
    have f7 : e_fr kAs w w6 := e_fr.up f4 hw6 (by unfold kAs; omega)
    have hT8 : e_Has kTy w6 := e_Has.upr hT5 hw6 rfl (by omega)
    refine e_Ok.run (t' := (33, [(0, (1, 250)), (1, (0, x)), (2, (0, y)), (3, (0, u)), (4, (0, v)), (5, (0, s))], [(1, 250)], w6)) 1 rfl ?_
    refine e_Ok.getr (z := 259) rfl (el_o rfl) rfl rfl (by rw [← hw6]; exact (e_up_ne _ _ (Or.inl (by omega))).trans (by rw [← hw3]; exact (e_up_ne _ _ (Or.inl (by omega))).trans (Eq.trans (e_Has.eq hT rfl) (by omega)))) (by omega) ?_
    refine e_Ok.run (t' := (37, [(0, (1, 250)), (1, (0, x)), (2, (0, y)), (3, (0, u)), (4, (0, v)), (5, (0, s))], [(1, 250), (1, 259)], w6)) 1 rfl ?_
    refine e_Ok.getf (z := w 250 1) rfl (el_o rfl) rfl rfl (by rw [← hw6]; exact (e_up_ne _ _ (Or.inl (by omega))).trans (by rw [← hw3]; exact (e_up_ne _ _ (Or.inl (by omega))).trans rfl)) (by omega) ?_
    refine e_Ok.run (t' := (41, [(0, (1, 250)), (1, (0, x)), (2, (0, y)), (3, (0, u)), (4, (0, v)), (5, (0, s))], [(0, u), (0, w 250 1), (1, 259)], w6)) 1 rfl ?_
    refine e_Ok.ast rfl (el_o rfl) rfl rfl (by omega) ?_
    generalize hw9 : e_up w6 259 (w 250 1) u = w9
    have f10 : e_fr kAs w w9 := e_fr.up f7 hw9 (by unfold kAs; omega)
    have hT11 : e_Has kTy w9 := e_Has.upr hT8 hw9 rfl (by omega)
    refine e_Ok.run (t' := (43, [(0, (1, 250)), (1, (0, x)), (2, (0, y)), (3, (0, u)), (4, (0, v)), (5, (0, s))], [(1, 250)], w9)) 1 rfl ?_
    refine e_Ok.getr (z := 260) rfl (el_o rfl) rfl rfl (by rw [← hw9]; exact (e_up_ne _ _ (Or.inl (by omega))).trans (by rw [← hw6]; exact (e_up_ne _ _ (Or.inl (by omega))).trans (by rw [← hw3]; exact (e_up_ne _ _ (Or.inl (by omega))).trans (Eq.trans (e_Has.eq hT rfl) (by omega))))) (by omega) ?_
    refine e_Ok.run (t' := (47, [(0, (1, 250)), (1, (0, x)), (2, (0, y)), (3, (0, u)), (4, (0, v)), (5, (0, s))], [(1, 250), (1, 260)], w9)) 1 rfl ?_
    refine e_Ok.getf (z := w 250 1) rfl (el_o rfl) rfl rfl (by rw [← hw9]; exact (e_up_ne _ _ (Or.inl (by omega))).trans (by rw [← hw6]; exact (e_up_ne _ _ (Or.inl (by omega))).trans (by rw [← hw3]; exact (e_up_ne _ _ (Or.inl (by omega))).trans rfl))) (by omega) ?_
    refine e_Ok.run (t' := (53, [(0, (1, 250)), (1, (0, x)), (2, (0, y)), (3, (0, u)), (4, (0, v)), (5, (0, s))], [(0, v), (0, y), (0, w 250 1), (1, 260)], w9)) 2 rfl ?_
    refine e_Ok.any rfl (eF_add_any _ _) (fun z12 z12a z12b => ?_)
    refine e_Ok.ast rfl (el_o rfl) rfl rfl (by omega) ?_
    generalize hw13 : e_up w9 260 (w 250 1) z12 = w13
    have f14 : e_fr kAs w w13 := e_fr.up f10 hw13 (by unfold kAs; omega)
    have hT15 : e_Has kTy w13 := e_Has.upr hT11 hw13 rfl (by omega)
    refine e_Ok.run (t' := (56, [(0, (1, 250)), (1, (0, x)), (2, (0, y)), (3, (0, u)), (4, (0, v)), (5, (0, s))], [(1, 250)], w13)) 1 rfl ?_
    refine e_Ok.getr (z := 261) rfl (el_o rfl) rfl rfl (by rw [← hw13]; exact (e_up_ne _ _ (Or.inl (by omega))).trans (by rw [← hw9]; exact (e_up_ne _ _ (Or.inl (by omega))).trans (by rw [← hw6]; exact (e_up_ne _ _ (Or.inl (by omega))).trans (by rw [← hw3]; exact (e_up_ne _ _ (Or.inl (by omega))).trans (Eq.trans (e_Has.eq hT rfl) (by omega)))))) (by omega) ?_
    refine e_Ok.run (t' := (60, [(0, (1, 250)), (1, (0, x)), (2, (0, y)), (3, (0, u)), (4, (0, v)), (5, (0, s))], [(1, 250), (1, 261)], w13)) 1 rfl ?_
    refine e_Ok.getf (z := w 250 1) rfl (el_o rfl) rfl rfl (by rw [← hw13]; exact (e_up_ne _ _ (Or.inl (by omega))).trans (by rw [← hw9]; exact (e_up_ne _ _ (Or.inl (by omega))).trans (by rw [← hw6]; exact (e_up_ne _ _ (Or.inl (by omega))).trans (by rw [← hw3]; exact (e_up_ne _ _ (Or.inl (by omega))).trans rfl)))) (by omega) ?_
    refine e_Ok.run (t' := (66, [(0, (1, 250)), (1, (0, x)), (2, (0, y)), (3, (0, u)), (4, (0, v)), (5, (0, s))], [(0, s), (0, u), (0, w 250 1), (1, 261)], w13)) 2 rfl ?_
    refine e_Ok.any rfl (eF_add_any _ _) (fun z16 z16a z16b => ?_)
    refine e_Ok.ast rfl (el_o rfl) rfl rfl (by omega) ?_
    generalize hw17 : e_up w13 261 (w 250 1) z16 = w17
    have f18 : e_fr kAs w w17 := e_fr.up f14 hw17 (by unfold kAs; omega)
    have hT19 : e_Has kTy w17 := e_Has.upr hT15 hw17 rfl (by omega)
    refine e_Ok.run (t' := (69, [(0, (1, 250)), (1, (0, x)), (2, (0, y)), (3, (0, u)), (4, (0, v)), (5, (0, s))], [(1, 250)], w17)) 1 rfl ?_
    refine e_Ok.getr (z := 257) rfl (el_o rfl) rfl rfl (by rw [← hw17]; exact (e_up_ne _ _ (Or.inl (by omega))).trans (by rw [← hw13]; exact (e_up_ne _ _ (Or.inl (by omega))).trans (by rw [← hw9]; exact (e_up_ne _ _ (Or.inl (by omega))).trans (by rw [← hw6]; exact (e_up_ne _ _ (Or.inl (by omega))).trans (by rw [← hw3]; exact (e_up_ne _ _ (Or.inl (by omega))).trans (Eq.trans (e_Has.eq hT rfl) (by omega))))))) (by omega) ?_
    refine e_Ok.run (t' := (73, [(0, (1, 250)), (1, (0, x)), (2, (0, y)), (3, (0, u)), (4, (0, v)), (5, (0, s))], [(1, 250), (1, 257)], w17)) 1 rfl ?_
    refine e_Ok.getf (z := w 250 1) rfl (el_o rfl) rfl rfl (by rw [← hw17]; exact (e_up_ne _ _ (Or.inl (by omega))).trans (by rw [← hw13]; exact (e_up_ne _ _ (Or.inl (by omega))).trans (by rw [← hw9]; exact (e_up_ne _ _ (Or.inl (by omega))).trans (by rw [← hw6]; exact (e_up_ne _ _ (Or.inl (by omega))).trans (by rw [← hw3]; exact (e_up_ne _ _ (Or.inl (by omega))).trans rfl))))) (by omega) ?_
    refine e_Ok.run (t' := (77, [(0, (1, 250)), (1, (0, x)), (2, (0, y)), (3, (0, u)), (4, (0, v)), (5, (0, s))], [(0, (-1)), (0, w 250 1), (1, 257)], w17)) 1 rfl ?_
    refine e_Ok.ast rfl (el_o rfl) rfl rfl (by omega) ?_
    generalize hw20 : e_up w17 257 (w 250 1) (-1) = w20
    have f21 : e_fr kAs w w20 := e_fr.up f18 hw20 (by unfold kAs; omega)
    have hT22 : e_Has kTy w20 := e_Has.upr hT19 hw20 rfl (by omega)
    refine e_Ok.run (t' := (80, [(0, (1, 250)), (1, (0, x)), (2, (0, y)), (3, (0, u)), (4, (0, v)), (5, (0, s))], [(1, 250), (1, 250)], w20)) 2 rfl ?_
    refine e_Ok.getf (z := w 250 1) rfl (el_o rfl) rfl rfl (by rw [← hw20]; exact (e_up_ne _ _ (Or.inl (by omega))).trans (by rw [← hw17]; exact (e_up_ne _ _ (Or.inl (by omega))).trans (by rw [← hw13]; exact (e_up_ne _ _ (Or.inl (by omega))).trans (by rw [← hw9]; exact (e_up_ne _ _ (Or.inl (by omega))).trans (by rw [← hw6]; exact (e_up_ne _ _ (Or.inl (by omega))).trans (by rw [← hw3]; exact (e_up_ne _ _ (Or.inl (by omega))).trans rfl)))))) (by omega) ?_
    refine e_Ok.run (t' := (84, [(0, (1, 250)), (1, (0, x)), (2, (0, y)), (3, (0, u)), (4, (0, v)), (5, (0, s))], [(0, 1), (0, w 250 1), (1, 250)], w20)) 1 rfl ?_
    refine e_Ok.add (z := w 250 1 + 1) rfl (by omega) (by omega) ?_
    refine e_Ok.putf rfl (el_o rfl) rfl rfl ?_
    generalize hw23 : e_up w20 250 1 (w 250 1 + 1) = w23
    have f24 : e_fr kAs w w23 := e_fr.up f21 hw23 (by unfold kAs; omega)
    have hT25 : e_Has kTy w23 := e_Has.upr hT22 hw23 rfl (by omega)
    refine e_Ok.run (t' := (89, [(0, (1, 250)), (1, (0, x)), (2, (0, y)), (3, (0, u)), (4, (0, v)), (5, (0, s))], [(1, 250)], w23)) 1 rfl ?_
    refine e_Ok.getf (z := w 250 1 + 1) rfl (el_o rfl) rfl rfl (by rw [← hw23]; exact e_up_eq _ _ _ _) (by omega) ?_
    refine e_Ok.run (t' := (93, [(0, (1, 250)), (1, (0, x)), (2, (0, y)), (3, (0, u)), (4, (0, v)), (5, (0, s))], [(0, 1), (0, w 250 1 + 1)], w23)) 1 rfl ?_
    refine e_Ok.sub' (z := w 250 1) rfl (by omega) (by omega) ?_
    refine e_Ok.rets rfl rfl ?_
    exact ⟨_, rfl, f24, hT25, ⟨by omega, by omega⟩⟩
  · replace h2 : (w 250 1 : Int) ≥ 8 := by have q : ¬ ((w 250 1 : Int) < 8) := h2; omega
    refine e_Ok.run (t' := (11, [(0, (1, 250)), (1, (0, x)), (2, (0, y)), (3, (0, u)), (4, (0, v)), (5, (0, s))], [(0, (-3))], w)) 1 rfl ?_
    refine e_Ok.rets rfl rfl ?_
    exact ⟨_, rfl, (e_fr.refl w), hT, ⟨by omega, by omega⟩⟩
theorem c_73 {d : Nat} {w : eW} {x : Int} (g_x : (-2147483648) ≤ x ∧ x ≤ 2147483647) : e_Ok 20 elay kcode eI d 73 (0, [(0, (0, x))], [], w) (fun r w' => ∃ z : Int, r = [(0, z)] ∧ w = w' ∧ ((-1) ≤ z ∧ z ≤ 1)) := by
  refine e_Ok.run (t' := (1, [(0, (0, x))], [(0, x)], w)) 1 rfl ?_
  refine e_Ok.if1 rfl (fun h1 => ?_) (fun h1 => ?_)
  · replace h1 : (x : Int) ≠ 0 := h1
    refine e_Ok.run (t' := (10, [(0, (0, x))], [(0, 2), (0, x)], w)) 2 rfl ?_
    refine e_Ok.if2 rfl (fun h2 => ?_) (fun h2 => ?_)
    · replace h2 : (x : Int) ≠ 2 := h2
      refine e_Ok.run (t' := (18, [(0, (0, x))], [(0, 0)], w)) 1 rfl ?_
      refine e_Ok.rets rfl rfl ?_
      exact ⟨_, rfl, rfl, ⟨by omega, by omega⟩⟩
    · replace h2 : (x : Int) = 2 := by have q : ¬ ((x : Int) ≠ 2) := h2; omega
      refine e_Ok.run (t' := (18, [(0, (0, x))], [(0, (-1))], w)) 2 rfl ?_
      refine e_Ok.rets rfl rfl ?_
      exact ⟨_, rfl, rfl, ⟨by omega, by omega⟩⟩
  · replace h1 : (x : Int) = 0 := by have q : ¬ ((x : Int) ≠ 0) := h1; omega
    refine e_Ok.run (t' := (18, [(0, (0, x))], [(0, 1)], w)) 2 rfl ?_
    refine e_Ok.rets rfl rfl ?_
    exact ⟨_, rfl, rfl, ⟨by omega, by omega⟩⟩
theorem c_74 {d : Nat} {w : eW} {x : Int} (g_x : (-2147483648) ≤ x ∧ x ≤ 2147483647) : e_Ok 20 elay kcode eI d 74 (0, [(0, (0, x))], [], w) (fun r w' => ∃ z : Int, r = [(0, z)] ∧ w = w' ∧ ((-1) ≤ z ∧ z ≤ 1)) := by
  refine e_Ok.run (t' := (2, [(0, (0, x))], [(0, 1), (0, x)], w)) 2 rfl ?_
  refine e_Ok.if2 rfl (fun h1 => ?_) (fun h1 => ?_)
  · replace h1 : (x : Int) ≠ 1 := h1
    refine e_Ok.run (t' := (11, [(0, (0, x))], [(0, 3), (0, x)], w)) 2 rfl ?_
    refine e_Ok.if2 rfl (fun h2 => ?_) (fun h2 => ?_)
    · replace h2 : (x : Int) ≠ 3 := h2
      refine e_Ok.run (t' := (19, [(0, (0, x))], [(0, 0)], w)) 1 rfl ?_
      refine e_Ok.rets rfl rfl ?_
      exact ⟨_, rfl, rfl, ⟨by omega, by omega⟩⟩
    · replace h2 : (x : Int) = 3 := by have q : ¬ ((x : Int) ≠ 3) := h2; omega
      refine e_Ok.run (t' := (19, [(0, (0, x))], [(0, (-1))], w)) 2 rfl ?_
      refine e_Ok.rets rfl rfl ?_
      exact ⟨_, rfl, rfl, ⟨by omega, by omega⟩⟩
  · replace h1 : (x : Int) = 1 := by have q : ¬ ((x : Int) ≠ 1) := h1; omega
    refine e_Ok.run (t' := (19, [(0, (0, x))], [(0, 1)], w)) 2 rfl ?_
    refine e_Ok.rets rfl rfl ?_
    exact ⟨_, rfl, rfl, ⟨by omega, by omega⟩⟩
theorem c_75 {d : Nat} (hd : 21 ≤ d) {w : eW} (hT : e_Has kTy w) {x y u v s : Int} (g_x : (-2147483648) ≤ x ∧ x ≤ 2147483647) (g_y : (-2147483648) ≤ y ∧ y ≤ 2147483647) (g_u : (-2147483648) ≤ u ∧ u ≤ 2147483647) (g_v : (-2147483648) ≤ v ∧ v ≤ 2147483647) (g_s : (-2147483648) ≤ s ∧ s ≤ 2147483647) (hb3 : w 19 0 ≤ 3) : e_Ok 20 elay kcode eI d 75 (0, [(0, (1, 19)), (1, (0, x)), (2, (0, y)), (3, (0, u)), (4, (0, v)), (5, (0, s))], [], w) (fun r w' => ∃ z : Int, r = [(0, z)] ∧ e_fr kAb w w' ∧ e_Has kTy w' ∧ (0 ≤ z ∧ z ≤ 4) ∧ (w' 19 0 = w 19 0 + 1 ∧ w' 35 (w 19 0) = 0 ∧ ∀ k, k ≠ w 19 0 → w' 35 k = w 35 k)) := by
  obtain ⟨d, rfl⟩ : ∃ e, d = e + 1 := ⟨d - 1, by omega⟩
  have hb0 := e_Has.get hT (c := 19) (k := 0) (lo := 0) (hi := 4) rfl (by decide)
  refine e_Ok.run (t' := (1, [(0, (1, 19)), (1, (0, x)), (2, (0, y)), (3, (0, u)), (4, (0, v)), (5, (0, s))], [(1, 19)], w)) 1 rfl ?_
  refine e_Ok.getf (z := w 19 0) rfl (el_o rfl) rfl rfl rfl (by omega) ?_
  refine e_Ok.run (t' := (7, [(6, (0, w 19 0)), (0, (1, 19)), (1, (0, x)), (2, (0, y)), (3, (0, u)), (4, (0, v)), (5, (0, s))], [(1, 19)], w)) 2 rfl ?_
  refine e_Ok.getr (z := 25) rfl (el_o rfl) rfl rfl (Eq.trans (e_Has.eq hT rfl) (by omega)) (by omega) ?_
  refine e_Ok.run (t' := (13, [(6, (0, w 19 0)), (0, (1, 19)), (1, (0, x)), (2, (0, y)), (3, (0, u)), (4, (0, v)), (5, (0, s))], [(0, x), (0, w 19 0), (1, 25)], w)) 2 rfl ?_
  refine e_Ok.ast rfl (el_o rfl) rfl rfl (by omega) ?_
  generalize hw1 : e_up w 25 (w 19 0) x = w1
  have f2 : e_fr kAb w w1 := e_fr.up (e_fr.refl w) hw1 (by unfold kAb; omega)
  have hT3 : e_Has kTy w1 := e_Has.upr hT hw1 rfl (by omega)
  refine e_Ok.run (t' := (15, [(6, (0, w 19 0)), (0, (1, 19)), (1, (0, x)), (2, (0, y)), (3, (0, u)), (4, (0, v)), (5, (0, s))], [(1, 19)], w1)) 1 rfl ?_
  refine e_Ok.getr (z := 26) rfl (el_o rfl) rfl rfl (by rw [← hw1]; exact (e_up_ne _ _ (Or.inl (by omega))).trans (Eq.trans (e_Has.eq hT rfl) (by omega))) (by omega) ?_
  refine e_Ok.run (t' := (21, [(6, (0, w 19 0)), (0, (1, 19)), (1, (0, x)), (2, (0, y)), (3, (0, u)), (4, (0, v)), (5, (0, s))], [(0, y), (0, w 19 0), (1, 26)], w1)) 2 rfl ?_
  refine e_Ok.ast rfl (el_o rfl) rfl rfl (by omega) ?_
  generalize hw4 : e_up w1 26 (w 19 0) y = w4
  have f5 : e_fr kAb w w4 := e_fr.up f2 hw4 (by unfold kAb; omega)
  have hT6 : e_Has kTy w4 := e_Has.upr hT3 hw4 rfl (by omega)
  refine e_Ok.run (t' := (23, [(6, (0, w 19 0)), (0, (1, 19)), (1, (0, x)), (2, (0, y)), (3, (0, u)), (4, (0, v)), (5, (0, s))], [(1, 19)], w4)) 1 rfl ?_
  refine e_Ok.getr (z := 27) rfl (el_o rfl) rfl rfl (by rw [← hw4]; exact (e_up_ne _ _ (Or.inl (by omega))).trans (by rw [← hw1]; exact (e_up_ne _ _ (Or.inl (by omega))).trans (Eq.trans (e_Has.eq hT rfl) (by omega)))) (by omega) ?_
  refine e_Ok.run (t' := (29, [(6, (0, w 19 0)), (0, (1, 19)), (1, (0, x)), (2, (0, y)), (3, (0, u)), (4, (0, v)), (5, (0, s))], [(0, u), (0, w 19 0), (1, 27)], w4)) 2 rfl ?_
  refine e_Ok.callS rfl (by omega) rfl rfl (c_73 (by omega)) (fun r7 w8 h9 => ?_)
  obtain ⟨z11, rfl, rfl, q10r⟩ := h9
  show e_Ok 20 elay kcode eI (d + 1) 75 (32, [(6, (0, w 19 0)), (0, (1, 19)), (1, (0, x)), (2, (0, y)), (3, (0, u)), (4, (0, v)), (5, (0, s))], [(0, z11), (0, w 19 0), (1, 27)], w4) _
  refine e_Ok.ast rfl (el_o rfl) rfl rfl (by omega) ?_
  generalize hw12 : e_up w4 27 (w 19 0) z11 = w12
  have f13 : e_fr kAb w w12 := e_fr.up f5 hw12 (by unfold kAb; omega)
  have hT14 : e_Has kTy w12 := e_Has.upr hT6 hw12 rfl (by omega)
  refine e_Ok.run (t' := (34, [(6, (0, w 19 0)), (0, (1, 19)), (1, (0, x)), (2, (0, y)), (3, (0, u)), (4, (0, v)), (5, (0, s))], [(1, 19)], w12)) 1 rfl ?_
  refine e_Ok.getr (z := 28) rfl (el_o rfl) rfl rfl (by rw [← hw12]; exact (e_up_ne _ _ (Or.inl (by omega))).trans (by rw [← hw4]; exact (e_up_ne _ _ (Or.inl (by omega))).trans (by rw [← hw1]; exact (e_up_ne _ _ (Or.inl (by omega))).trans (Eq.trans (e_Has.eq hT rfl) (by omega))))) (by omega) ?_
  refine e_Ok.run (t' := (40, [(6, (0, w 19 0)), (0, (1, 19)), (1, (0, x)), (2, (0, y)), (3, (0, u)), (4, (0, v)), (5, (0, s))], [(0, u), (0, w 19 0), (1, 28)], w12)) 2 rfl ?_
  refine e_Ok.callS rfl (by omega) rfl rfl (c_74 (by omega)) (fun r15 w16 h17 => ?_)
  obtain ⟨z19, rfl, rfl, q18r⟩ := h17
  show e_Ok 20 elay kcode eI (d + 1) 75 (43, [(6, (0, w 19 0)), (0, (1, 19)), (1, (0, x)), (2, (0, y)), (3, (0, u)), (4, (0, v)), (5, (0, s))], [(0, z19), (0, w 19 0), (1, 28)], w12) _
  refine e_Ok.ast rfl (el_o rfl) rfl rfl (by omega) ?_
  generalize hw20 : e_up w12 28 (w 19 0) z19 = w20
  have f21 : e_fr kAb w w20 := e_fr.up f13 hw20 (by unfold kAb; omega)
  have hT22 : e_Has kTy w20 := e_Has.upr hT14 hw20 rfl (by omega)
  refine e_Ok.run (t' := (45, [(6, (0, w 19 0)), (0, (1, 19)), (1, (0, x)), (2, (0, y)), (3, (0, u)), (4, (0, v)), (5, (0, s))], [(1, 19)], w20)) 1 rfl ?_
  refine e_Ok.getr (z := 20) rfl (el_o rfl) rfl rfl (by rw [← hw20]; exact (e_up_ne _ _ (Or.inl (by omega))).trans (by rw [← hw12]; exact (e_up_ne _ _ (Or.inl (by omega))).trans (by rw [← hw4]; exact (e_up_ne _ _ (Or.inl (by omega))).trans (by rw [← hw1]; exact (e_up_ne _ _ (Or.inl (by omega))).trans (Eq.trans (e_Has.eq hT rfl) (by omega)))))) (by omega) ?_
  refine e_Ok.run (t' := (52, [(6, (0, w 19 0)), (0, (1, 19)), (1, (0, x)), (2, (0, y)), (3, (0, u)), (4, (0, v)), (5, (0, s))], [(0, v), (0, w 19 0), (1, 20)], w20)) 2 rfl ?_
  refine e_Ok.ast rfl (el_o rfl) rfl rfl (by omega) ?_
  generalize hw23 : e_up w20 20 (w 19 0) v = w23
  have f24 : e_fr kAb w w23 := e_fr.up f21 hw23 (by unfold kAb; omega)
  have hT25 : e_Has kTy w23 := e_Has.upr hT22 hw23 rfl (by omega)
  refine e_Ok.run (t' := (54, [(6, (0, w 19 0)), (0, (1, 19)), (1, (0, x)), (2, (0, y)), (3, (0, u)), (4, (0, v)), (5, (0, s))], [(1, 19)], w23)) 1 rfl ?_
  refine e_Ok.getr (z := 29) rfl (el_o rfl) rfl rfl (by rw [← hw23]; exact (e_up_ne _ _ (Or.inl (by omega))).trans (by rw [← hw20]; exact (e_up_ne _ _ (Or.inl (by omega))).trans (by rw [← hw12]; exact (e_up_ne _ _ (Or.inl (by omega))).trans (by rw [← hw4]; exact (e_up_ne _ _ (Or.inl (by omega))).trans (by rw [← hw1]; exact (e_up_ne _ _ (Or.inl (by omega))).trans (Eq.trans (e_Has.eq hT rfl) (by omega))))))) (by omega) ?_
  refine e_Ok.run (t' := (61, [(6, (0, w 19 0)), (0, (1, 19)), (1, (0, x)), (2, (0, y)), (3, (0, u)), (4, (0, v)), (5, (0, s))], [(0, s), (0, w 19 0), (1, 29)], w23)) 2 rfl ?_
  refine e_Ok.ast rfl (el_o rfl) rfl rfl (by omega) ?_
  generalize hw26 : e_up w23 29 (w 19 0) s = w26
  have f27 : e_fr kAb w w26 := e_fr.up f24 hw26 (by unfold kAb; omega)
  have hT28 : e_Has kTy w26 := e_Has.upr hT25 hw26 rfl (by omega)
  refine e_Ok.run (t' := (63, [(6, (0, w 19 0)), (0, (1, 19)), (1, (0, x)), (2, (0, y)), (3, (0, u)), (4, (0, v)), (5, (0, s))], [(1, 19)], w26)) 1 rfl ?_
  refine e_Ok.getr (z := 21) rfl (el_o rfl) rfl rfl (by rw [← hw26]; exact (e_up_ne _ _ (Or.inl (by omega))).trans (by rw [← hw23]; exact (e_up_ne _ _ (Or.inl (by omega))).trans (by rw [← hw20]; exact (e_up_ne _ _ (Or.inl (by omega))).trans (by rw [← hw12]; exact (e_up_ne _ _ (Or.inl (by omega))).trans (by rw [← hw4]; exact (e_up_ne _ _ (Or.inl (by omega))).trans (by rw [← hw1]; exact (e_up_ne _ _ (Or.inl (by omega))).trans (Eq.trans (e_Has.eq hT rfl) (by omega)))))))) (by omega) ?_
  refine e_Ok.run (t' := (69, [(6, (0, w 19 0)), (0, (1, 19)), (1, (0, x)), (2, (0, y)), (3, (0, u)), (4, (0, v)), (5, (0, s))], [(0, 0), (0, w 19 0), (1, 21)], w26)) 2 rfl ?_
  refine e_Ok.ast rfl (el_o rfl) rfl rfl (by omega) ?_
  generalize hw29 : e_up w26 21 (w 19 0) 0 = w29
  have f30 : e_fr kAb w w29 := e_fr.up f27 hw29 (by unfold kAb; omega)
  have hT31 : e_Has kTy w29 := e_Has.upr hT28 hw29 rfl (by omega)
  refine e_Ok.run (t' := (71, [(6, (0, w 19 0)), (0, (1, 19)), (1, (0, x)), (2, (0, y)), (3, (0, u)), (4, (0, v)), (5, (0, s))], [(1, 19)], w29)) 1 rfl ?_
  refine e_Ok.getr (z := 22) rfl (el_o rfl) rfl rfl (by rw [← hw29]; exact (e_up_ne _ _ (Or.inl (by omega))).trans (by rw [← hw26]; exact (e_up_ne _ _ (Or.inl (by omega))).trans (by rw [← hw23]; exact (e_up_ne _ _ (Or.inl (by omega))).trans (by rw [← hw20]; exact (e_up_ne _ _ (Or.inl (by omega))).trans (by rw [← hw12]; exact (e_up_ne _ _ (Or.inl (by omega))).trans (by rw [← hw4]; exact (e_up_ne _ _ (Or.inl (by omega))).trans (by rw [← hw1]; exact (e_up_ne _ _ (Or.inl (by omega))).trans (Eq.trans (e_Has.eq hT rfl) (by omega))))))))) (by omega) ?_
  refine e_Ok.run (t' := (77, [(6, (0, w 19 0)), (0, (1, 19)), (1, (0, x)), (2, (0, y)), (3, (0, u)), (4, (0, v)), (5, (0, s))], [(0, (-1)), (0, w 19 0), (1, 22)], w29)) 2 rfl ?_
  refine e_Ok.ast rfl (el_o rfl) rfl rfl (by omega) ?_
  generalize hw32 : e_up w29 22 (w 19 0) (-1) = w32
  have f33 : e_fr kAb w w32 := e_fr.up f30 hw32 (by unfold kAb; omega)
  have hT34 : e_Has kTy w32 := e_Has.upr hT31 hw32 rfl (by omega)
  refine e_Ok.run (t' := (79, [(6, (0, w 19 0)), (0, (1, 19)), (1, (0, x)), (2, (0, y)), (3, (0, u)), (4, (0, v)), (5, (0, s))], [(1, 19)], w32)) 1 rfl ?_
  refine e_Ok.getr (z := 35) rfl (el_o rfl) rfl rfl (by rw [← hw32]; exact (e_up_ne _ _ (Or.inl (by omega))).trans (by rw [← hw29]; exact (e_up_ne _ _ (Or.inl (by omega))).trans (by rw [← hw26]; exact (e_up_ne _ _ (Or.inl (by omega))).trans (by rw [← hw23]; exact (e_up_ne _ _ (Or.inl (by omega))).trans (by rw [← hw20]; exact (e_up_ne _ _ (Or.inl (by omega))).trans (by rw [← hw12]; exact (e_up_ne _ _ (Or.inl (by omega))).trans (by rw [← hw4]; exact (e_up_ne _ _ (Or.inl (by omega))).trans (by rw [← hw1]; exact (e_up_ne _ _ (Or.inl (by omega))).trans (Eq.trans (e_Has.eq hT rfl) (by omega)))))))))) (by omega) ?_
  refine e_Ok.run (t' := (85, [(6, (0, w 19 0)), (0, (1, 19)), (1, (0, x)), (2, (0, y)), (3, (0, u)), (4, (0, v)), (5, (0, s))], [(0, 0), (0, w 19 0), (1, 35)], w32)) 2 rfl ?_
  refine e_Ok.ast rfl (el_o rfl) rfl rfl (by omega) ?_
  generalize hw35 : e_up w32 35 (w 19 0) 0 = w35
  have f36 : e_fr kAb w w35 := e_fr.up f33 hw35 (by unfold kAb; omega)
  have hT37 : e_Has kTy w35 := e_Has.ups hT34 hw35 rfl
  refine e_Ok.run (t' := (88, [(6, (0, w 19 0)), (0, (1, 19)), (1, (0, x)), (2, (0, y)), (3, (0, u)), (4, (0, v)), (5, (0, s))], [(1, 19), (1, 19)], w35)) 2 rfl ?_
  refine e_Ok.getf (z := w 19 0) rfl (el_o rfl) rfl rfl (by rw [← hw35]; exact (e_up_ne _ _ (Or.inl (by omega))).trans (by rw [← hw32]; exact (e_up_ne _ _ (Or.inl (by omega))).trans (by rw [← hw29]; exact (e_up_ne _ _ (Or.inl (by omega))).trans (by rw [← hw26]; exact (e_up_ne _ _ (Or.inl (by omega))).trans (by rw [← hw23]; exact (e_up_ne _ _ (Or.inl (by omega))).trans (by rw [← hw20]; exact (e_up_ne _ _ (Or.inl (by omega))).trans (by rw [← hw12]; exact (e_up_ne _ _ (Or.inl (by omega))).trans (by rw [← hw4]; exact (e_up_ne _ _ (Or.inl (by omega))).trans (by rw [← hw1]; exact (e_up_ne _ _ (Or.inl (by omega))).trans rfl))))))))) (by omega) ?_
  refine e_Ok.run (t' := (92, [(6, (0, w 19 0)), (0, (1, 19)), (1, (0, x)), (2, (0, y)), (3, (0, u)), (4, (0, v)), (5, (0, s))], [(0, 1), (0, w 19 0), (1, 19)], w35)) 1 rfl ?_
  refine e_Ok.add (z := w 19 0 + 1) rfl (by omega) (by omega) ?_
  refine e_Ok.putf rfl (el_o rfl) rfl rfl ?_
  generalize hw38 : e_up w35 19 0 (w 19 0 + 1) = w38
  have f40 : e_fr kAb w w38 := e_fr.up f36 hw38 (by unfold kAb; omega)
  have hT41 : e_Has kTy w38 := e_Has.upr hT37 hw38 rfl (by omega)
  refine e_Ok.run (t' := (98, [(6, (0, w 19 0)), (0, (1, 19)), (1, (0, x)), (2, (0, y)), (3, (0, u)), (4, (0, v)), (5, (0, s))], [(0, w 19 0)], w38)) 1 rfl ?_
  refine e_Ok.rets rfl rfl ?_
  exact ⟨_, rfl, f40, hT41, ⟨by omega, by omega⟩, ⟨(by rw [← hw38]; exact e_up_eq _ _ _ _), (by rw [← hw38]; exact (e_up_ne _ _ (Or.inl (by omega))).trans (by rw [← hw35]; exact e_up_eq _ _ _ _)), fun k g => by rw [← hw38, e_up_ne _ _ (by omega), ← hw35, e_up_ne _ _ (by omega), ← hw32, e_up_ne _ _ (by omega), ← hw29, e_up_ne _ _ (by omega), ← hw26, e_up_ne _ _ (by omega), ← hw23, e_up_ne _ _ (by omega), ← hw20, e_up_ne _ _ (by omega), ← hw12, e_up_ne _ _ (by omega), ← hw4, e_up_ne _ _ (by omega), ← hw1, e_up_ne _ _ (by omega)]⟩⟩
theorem c_197 {d : Nat} (hd : 24 ≤ d) {w : eW} (hT : e_Has kTy w) (hO : 0 ≤ w 0 13 ∧ w 0 13 ≤ 1) {a : Int} (g_a : (-2147483648) ≤ a ∧ a ≤ 2147483647) {b : Int} (g_b : (-2147483648) ≤ b ∧ b ≤ 2147483647) {c : Int} (g_c : (-2147483648) ≤ c ∧ c ≤ 2147483647) : e_Ok 20 elay kcode eI d 197 (0, [(0, (1, 0)), (1, (0, a)), (2, (0, b)), (3, (0, c))], [], w) (fun r w' => ∃ z : Int, r = [(0, z)] ∧ e_Has kTy w' ∧ (w' = w ∨ (w 0 13 = 0 ∧ e_fr kAs w w'))) := by
  obtain ⟨d, rfl⟩ : ∃ e, d = e + 1 := ⟨d - 1, by omega⟩
  have hw0 := e_Has.get hT (c := 0) (k := 11) (lo := 0) (hi := 4) rfl (by decide)
  have hb0 := e_Has.get hT (c := 19) (k := 0) (lo := 0) (hi := 4) rfl (by decide)
  have hz0 := e_Has.get hT (c := 250) (k := 1) (lo := 0) (hi := 8) rfl (by decide)
  refine e_Ok.run (t' := (2, [(0, (1, 0)), (1, (0, a)), (2, (0, b)), (3, (0, c))], [(0, b), (0, a)], w)) 2 rfl ?_
  refine e_Ok.callS rfl (by omega) rfl rfl (c_243 (by omega) (by omega) (by omega)) (fun r1 w2 h3 => ?_)
  obtain ⟨z4, rfl, rfl, q5⟩ := h3
  obtain ⟨rfl, q5⟩ | ⟨rfl, q5⟩ := q5
  · show e_Ok 20 elay kcode eI (d + 1) 197 (5, [(0, (1, 0)), (1, (0, a)), (2, (0, b)), (3, (0, c))], [(0, 1)], w) _
    refine e_Ok.if1 rfl (fun h6 => ?_) (fun h6 => ?_)
    · replace h6 : (1 : Int) = 0 := h6
      exfalso; omega
    · replace h6 : (1 : Int) ≠ 0 := by have q : ¬ ((1 : Int) = 0) := h6; omega
      refine e_Ok.run (t' := (13, [(0, (1, 0)), (1, (0, a)), (2, (0, b)), (3, (0, c))], [(0, 8000), (0, 0), (0, c)], w)) 3 rfl ?_
      refine e_Ok.callS rfl (by omega) rfl rfl (c_242 (by omega) (by omega) (by omega)) (fun r7 w8 h9 => ?_)
      obtain ⟨z10, rfl, rfl, q11⟩ := h9
      obtain ⟨rfl, q11⟩ | ⟨rfl, q11⟩ := q11
      · show e_Ok 20 elay kcode eI (d + 1) 197 (16, [(0, (1, 0)), (1, (0, a)), (2, (0, b)), (3, (0, c))], [(0, 1)], w) _
        refine e_Ok.if1 rfl (fun h12 => ?_) (fun h12 => ?_)
        · replace h12 : (1 : Int) ≠ 0 := h12
          refine e_Ok.run (t' := (22, [(0, (1, 0)), (1, (0, a)), (2, (0, b)), (3, (0, c))], [(1, 0)], w)) 1 rfl ?_
          refine e_Ok.getf (z := w 0 13) rfl (el_o rfl) rfl rfl rfl (by omega) ?_
          refine e_Ok.if1 rfl (fun h13 => ?_) (fun h13 => ?_)
          · replace h13 : (w 0 13 : Int) = 0 := h13
            refine e_Ok.run (t' := (32, [(0, (1, 0)), (1, (0, a)), (2, (0, b)), (3, (0, c))], [(1, 0)], w)) 1 rfl ?_
            refine e_Ok.getr (z := 250) rfl (el_o rfl) rfl rfl (Eq.trans (e_Has.eq hT rfl) (by omega)) (by omega) ?_
            refine e_Ok.run (t' := (40, [(0, (1, 0)), (1, (0, a)), (2, (0, b)), (3, (0, c))], [(0, c), (0, 0), (0, 0), (0, b), (0, a), (1, 250)], w)) 5 rfl ?_
            refine e_Ok.callV rfl (by omega) rfl rfl rfl rfl (c_167 hT (by omega) (by omega) (by omega) (by omega) (by omega)) (fun r14 w15 h16 => ?_)
            obtain ⟨z18, rfl, q17f, q17T, q17r⟩ := h16
            have f19 : e_fr kAs w w15 := e_fr.trans (e_fr.refl w) (e_fr.mono q17f (fun c k q => by exact q))
            show e_Ok 20 elay kcode eI (d + 1) 197 (43, [(0, (1, 0)), (1, (0, a)), (2, (0, b)), (3, (0, c))], [(0, z18)], w15) _
            refine e_Ok.rets rfl rfl ?_
            exact ⟨_, rfl, q17T, Or.inr ⟨by omega, f19⟩⟩
          · replace h13 : (w 0 13 : Int) ≠ 0 := by have q : ¬ ((w 0 13 : Int) = 0) := h13; omega
            refine e_Ok.run (t' := (30, [(0, (1, 0)), (1, (0, a)), (2, (0, b)), (3, (0, c))], [(0, (-2))], w)) 1 rfl ?_
            refine e_Ok.rets rfl rfl ?_
            exact ⟨_, rfl, hT, Or.inl rfl⟩
        · replace h12 : (1 : Int) = 0 := by have q : ¬ ((1 : Int) ≠ 0) := h12; omega
          exfalso; omega
      · show e_Ok 20 elay kcode eI (d + 1) 197 (16, [(0, (1, 0)), (1, (0, a)), (2, (0, b)), (3, (0, c))], [(0, 0)], w) _
        refine e_Ok.if1 rfl (fun h20 => ?_) (fun h20 => ?_)
        · replace h20 : (0 : Int) ≠ 0 := h20
          exfalso; omega
        · replace h20 : (0 : Int) = 0 := by have q : ¬ ((0 : Int) ≠ 0) := h20; omega
          refine e_Ok.run (t' := (20, [(0, (1, 0)), (1, (0, a)), (2, (0, b)), (3, (0, c))], [(0, (-1))], w)) 1 rfl ?_
          refine e_Ok.rets rfl rfl ?_
          exact ⟨_, rfl, hT, Or.inl rfl⟩
  · show e_Ok 20 elay kcode eI (d + 1) 197 (5, [(0, (1, 0)), (1, (0, a)), (2, (0, b)), (3, (0, c))], [(0, 0)], w) _
    refine e_Ok.if1 rfl (fun h21 => ?_) (fun h21 => ?_)
    · replace h21 : (0 : Int) = 0 := h21
      refine e_Ok.run (t' := (20, [(0, (1, 0)), (1, (0, a)), (2, (0, b)), (3, (0, c))], [(0, (-1))], w)) 1 rfl ?_
      refine e_Ok.rets rfl rfl ?_
      exact ⟨_, rfl, hT, Or.inl rfl⟩
    · replace h21 : (0 : Int) ≠ 0 := by have q : ¬ ((0 : Int) = 0) := h21; omega
      exfalso; omega
theorem c_198 {d : Nat} (hd : 24 ≤ d) {w : eW} (hT : e_Has kTy w) (hO : 0 ≤ w 0 13 ∧ w 0 13 ≤ 1) {a : Int} (g_a : (-2147483648) ≤ a ∧ a ≤ 2147483647) {b : Int} (g_b : (-2147483648) ≤ b ∧ b ≤ 2147483647) {c : Int} (g_c : (-2147483648) ≤ c ∧ c ≤ 2147483647) {e : Int} (g_e : (-2147483648) ≤ e ∧ e ≤ 2147483647) : e_Ok 20 elay kcode eI d 198 (0, [(0, (1, 0)), (1, (0, a)), (2, (0, b)), (3, (0, c)), (4, (0, e))], [], w) (fun r w' => ∃ z : Int, r = [(0, z)] ∧ e_Has kTy w' ∧ (w' = w ∨ (w 0 13 = 0 ∧ e_fr kAs w w'))) := by
  obtain ⟨d, rfl⟩ : ∃ e, d = e + 1 := ⟨d - 1, by omega⟩
  have hw0 := e_Has.get hT (c := 0) (k := 11) (lo := 0) (hi := 4) rfl (by decide)
  have hb0 := e_Has.get hT (c := 19) (k := 0) (lo := 0) (hi := 4) rfl (by decide)
  have hz0 := e_Has.get hT (c := 250) (k := 1) (lo := 0) (hi := 8) rfl (by decide)
  refine e_Ok.run (t' := (5, [(0, (1, 0)), (1, (0, a)), (2, (0, b)), (3, (0, c)), (4, (0, e))], [(0, e), (0, c), (0, b), (0, a)], w)) 4 rfl ?_
  refine e_Ok.callS rfl (by omega) rfl rfl (c_244 (by omega) (by omega) (by omega) (by omega) (by omega)) (fun r1 w2 h3 => ?_)
  obtain ⟨z4, rfl, rfl, q5⟩ := h3
  obtain ⟨rfl, q5⟩ | ⟨rfl, q5⟩ := q5
  · show e_Ok 20 elay kcode eI (d + 1) 198 (8, [(0, (1, 0)), (1, (0, a)), (2, (0, b)), (3, (0, c)), (4, (0, e))], [(0, 1)], w) _
    refine e_Ok.if1 rfl (fun h6 => ?_) (fun h6 => ?_)
    · replace h6 : (1 : Int) ≠ 0 := h6
      refine e_Ok.run (t' := (14, [(0, (1, 0)), (1, (0, a)), (2, (0, b)), (3, (0, c)), (4, (0, e))], [(1, 0)], w)) 1 rfl ?_
      refine e_Ok.getf (z := w 0 13) rfl (el_o rfl) rfl rfl rfl (by omega) ?_
      refine e_Ok.if1 rfl (fun h7 => ?_) (fun h7 => ?_)
      · replace h7 : (w 0 13 : Int) = 0 := h7
        refine e_Ok.run (t' := (24, [(0, (1, 0)), (1, (0, a)), (2, (0, b)), (3, (0, c)), (4, (0, e))], [(1, 0)], w)) 1 rfl ?_
        refine e_Ok.getr (z := 250) rfl (el_o rfl) rfl rfl (Eq.trans (e_Has.eq hT rfl) (by omega)) (by omega) ?_
        refine e_Ok.run (t' := (33, [(0, (1, 0)), (1, (0, a)), (2, (0, b)), (3, (0, c)), (4, (0, e))], [(0, (-1)), (0, e), (0, c), (0, b), (0, a), (1, 250)], w)) 5 rfl ?_
        refine e_Ok.callV rfl (by omega) rfl rfl rfl rfl (c_167 hT (by omega) (by omega) (by omega) (by omega) (by omega)) (fun r8 w9 h10 => ?_)
        obtain ⟨z12, rfl, q11f, q11T, q11r⟩ := h10
        have f13 : e_fr kAs w w9 := e_fr.trans (e_fr.refl w) (e_fr.mono q11f (fun c k q => by exact q))
        show e_Ok 20 elay kcode eI (d + 1) 198 (36, [(0, (1, 0)), (1, (0, a)), (2, (0, b)), (3, (0, c)), (4, (0, e))], [(0, z12)], w9) _
        refine e_Ok.rets rfl rfl ?_
        exact ⟨_, rfl, q11T, Or.inr ⟨by omega, f13⟩⟩
      · replace h7 : (w 0 13 : Int) ≠ 0 := by have q : ¬ ((w 0 13 : Int) = 0) := h7; omega
        refine e_Ok.run (t' := (22, [(0, (1, 0)), (1, (0, a)), (2, (0, b)), (3, (0, c)), (4, (0, e))], [(0, (-2))], w)) 1 rfl ?_
        refine e_Ok.rets rfl rfl ?_
        exact ⟨_, rfl, hT, Or.inl rfl⟩
    · replace h6 : (1 : Int) = 0 := by have q : ¬ ((1 : Int) ≠ 0) := h6; omega
      exfalso; omega
  · show e_Ok 20 elay kcode eI (d + 1) 198 (8, [(0, (1, 0)), (1, (0, a)), (2, (0, b)), (3, (0, c)), (4, (0, e))], [(0, 0)], w) _
    refine e_Ok.if1 rfl (fun h14 => ?_) (fun h14 => ?_)
    · replace h14 : (0 : Int) ≠ 0 := h14
      exfalso; omega
    · replace h14 : (0 : Int) = 0 := by have q : ¬ ((0 : Int) ≠ 0) := h14; omega
      refine e_Ok.run (t' := (12, [(0, (1, 0)), (1, (0, a)), (2, (0, b)), (3, (0, c)), (4, (0, e))], [(0, (-1))], w)) 1 rfl ?_
      refine e_Ok.rets rfl rfl ?_
      exact ⟨_, rfl, hT, Or.inl rfl⟩
theorem c_205 {d : Nat} (hd : 24 ≤ d) {w : eW} (hT : e_Has kTy w) (hO : 0 ≤ w 0 13 ∧ w 0 13 ≤ 1) {a : Int} (g_a : (-2147483648) ≤ a ∧ a ≤ 2147483647) {b : Int} (g_b : (-2147483648) ≤ b ∧ b ≤ 2147483647) {c : Int} (g_c : (-2147483648) ≤ c ∧ c ≤ 2147483647) {e : Int} (g_e : (-2147483648) ≤ e ∧ e ≤ 2147483647) {g : Int} (g_g : (-2147483648) ≤ g ∧ g ≤ 2147483647) : e_Ok 20 elay kcode eI d 205 (0, [(0, (1, 0)), (1, (0, a)), (2, (0, b)), (3, (0, c)), (4, (0, e)), (5, (0, g))], [], w) (fun r w' => ∃ z : Int, r = [(0, z)] ∧ e_Has kTy w' ∧ (w' = w ∨ (w 0 13 = 0 ∧ e_fr kAs w w'))) := by
  obtain ⟨d, rfl⟩ : ∃ e, d = e + 1 := ⟨d - 1, by omega⟩
  have hw0 := e_Has.get hT (c := 0) (k := 11) (lo := 0) (hi := 4) rfl (by decide)
  have hb0 := e_Has.get hT (c := 19) (k := 0) (lo := 0) (hi := 4) rfl (by decide)
  have hz0 := e_Has.get hT (c := 250) (k := 1) (lo := 0) (hi := 8) rfl (by decide)
  refine e_Ok.run (t' := (2, [(0, (1, 0)), (1, (0, a)), (2, (0, b)), (3, (0, c)), (4, (0, e)), (5, (0, g))], [(0, a), (1, 0)], w)) 2 rfl ?_
  refine e_Ok.callV rfl (by omega) rfl rfl rfl rfl (c_246 (by omega) hT (by omega)) (fun r1 w2 h3 => ?_)
  obtain ⟨z4, rfl, rfl, q5⟩ := h3
  obtain ⟨rfl, q5⟩ | ⟨rfl, q5⟩ := q5
  · show e_Ok 20 elay kcode eI (d + 1) 205 (5, [(0, (1, 0)), (1, (0, a)), (2, (0, b)), (3, (0, c)), (4, (0, e)), (5, (0, g))], [(0, 1)], w) _
    refine e_Ok.if1 rfl (fun h6 => ?_) (fun h6 => ?_)
    · replace h6 : (1 : Int) = 0 := h6
      exfalso; omega
    · replace h6 : (1 : Int) ≠ 0 := by have q : ¬ ((1 : Int) = 0) := h6; omega
      refine e_Ok.run (t' := (14, [(0, (1, 0)), (1, (0, a)), (2, (0, b)), (3, (0, c)), (4, (0, e)), (5, (0, g))], [(0, g), (0, e), (0, c), (0, b)], w)) 4 rfl ?_
      refine e_Ok.callS rfl (by omega) rfl rfl (c_244 (by omega) (by omega) (by omega) (by omega) (by omega)) (fun r7 w8 h9 => ?_)
      obtain ⟨z10, rfl, rfl, q11⟩ := h9
      obtain ⟨rfl, q11⟩ | ⟨rfl, q11⟩ := q11
      · show e_Ok 20 elay kcode eI (d + 1) 205 (17, [(0, (1, 0)), (1, (0, a)), (2, (0, b)), (3, (0, c)), (4, (0, e)), (5, (0, g))], [(0, 1)], w) _
        refine e_Ok.if1 rfl (fun h12 => ?_) (fun h12 => ?_)
        · replace h12 : (1 : Int) ≠ 0 := h12
          refine e_Ok.run (t' := (23, [(0, (1, 0)), (1, (0, a)), (2, (0, b)), (3, (0, c)), (4, (0, e)), (5, (0, g))], [(1, 0)], w)) 1 rfl ?_
          refine e_Ok.getf (z := w 0 13) rfl (el_o rfl) rfl rfl rfl (by omega) ?_
          refine e_Ok.if1 rfl (fun h13 => ?_) (fun h13 => ?_)
          · replace h13 : (w 0 13 : Int) = 0 := h13
            refine e_Ok.run (t' := (33, [(0, (1, 0)), (1, (0, a)), (2, (0, b)), (3, (0, c)), (4, (0, e)), (5, (0, g))], [(1, 0)], w)) 1 rfl ?_
            refine e_Ok.getr (z := 250) rfl (el_o rfl) rfl rfl (Eq.trans (e_Has.eq hT rfl) (by omega)) (by omega) ?_
            refine e_Ok.run (t' := (43, [(0, (1, 0)), (1, (0, a)), (2, (0, b)), (3, (0, c)), (4, (0, e)), (5, (0, g))], [(0, g), (0, e), (0, c), (0, b), (0, a), (1, 250)], w)) 5 rfl ?_
            refine e_Ok.callV rfl (by omega) rfl rfl rfl rfl (c_168 hT (by omega) (by omega) (by omega) (by omega) (by omega)) (fun r14 w15 h16 => ?_)
            obtain ⟨z18, rfl, q17f, q17T, q17r⟩ := h16
            have f19 : e_fr kAs w w15 := e_fr.trans (e_fr.refl w) (e_fr.mono q17f (fun c k q => by exact q))
            show e_Ok 20 elay kcode eI (d + 1) 205 (46, [(0, (1, 0)), (1, (0, a)), (2, (0, b)), (3, (0, c)), (4, (0, e)), (5, (0, g))], [(0, z18)], w15) _
            refine e_Ok.rets rfl rfl ?_
            exact ⟨_, rfl, q17T, Or.inr ⟨by omega, f19⟩⟩
          · replace h13 : (w 0 13 : Int) ≠ 0 := by have q : ¬ ((w 0 13 : Int) = 0) := h13; omega
            refine e_Ok.run (t' := (31, [(0, (1, 0)), (1, (0, a)), (2, (0, b)), (3, (0, c)), (4, (0, e)), (5, (0, g))], [(0, (-2))], w)) 1 rfl ?_
            refine e_Ok.rets rfl rfl ?_
            exact ⟨_, rfl, hT, Or.inl rfl⟩
        · replace h12 : (1 : Int) = 0 := by have q : ¬ ((1 : Int) ≠ 0) := h12; omega
          exfalso; omega
      · show e_Ok 20 elay kcode eI (d + 1) 205 (17, [(0, (1, 0)), (1, (0, a)), (2, (0, b)), (3, (0, c)), (4, (0, e)), (5, (0, g))], [(0, 0)], w) _
        refine e_Ok.if1 rfl (fun h20 => ?_) (fun h20 => ?_)
        · replace h20 : (0 : Int) ≠ 0 := h20
          exfalso; omega
        · replace h20 : (0 : Int) = 0 := by have q : ¬ ((0 : Int) ≠ 0) := h20; omega
          refine e_Ok.run (t' := (21, [(0, (1, 0)), (1, (0, a)), (2, (0, b)), (3, (0, c)), (4, (0, e)), (5, (0, g))], [(0, (-1))], w)) 1 rfl ?_
          refine e_Ok.rets rfl rfl ?_
          exact ⟨_, rfl, hT, Or.inl rfl⟩
  · show e_Ok 20 elay kcode eI (d + 1) 205 (5, [(0, (1, 0)), (1, (0, a)), (2, (0, b)), (3, (0, c)), (4, (0, e)), (5, (0, g))], [(0, 0)], w) _
    refine e_Ok.if1 rfl (fun h21 => ?_) (fun h21 => ?_)
    · replace h21 : (0 : Int) = 0 := h21
      refine e_Ok.run (t' := (21, [(0, (1, 0)), (1, (0, a)), (2, (0, b)), (3, (0, c)), (4, (0, e)), (5, (0, g))], [(0, (-1))], w)) 1 rfl ?_
      refine e_Ok.rets rfl rfl ?_
      exact ⟨_, rfl, hT, Or.inl rfl⟩
    · replace h21 : (0 : Int) ≠ 0 := by have q : ¬ ((0 : Int) = 0) := h21; omega
      exfalso; omega
theorem c_199 {d : Nat} (hd : 24 ≤ d) {w : eW} (hT : e_Has kTy w) (hO : 0 ≤ w 0 13 ∧ w 0 13 ≤ 1) {a : Int} (g_a : (-2147483648) ≤ a ∧ a ≤ 2147483647) {b : Int} (g_b : (-2147483648) ≤ b ∧ b ≤ 2147483647) {c : Int} (g_c : (-2147483648) ≤ c ∧ c ≤ 2147483647) : e_Ok 20 elay kcode eI d 199 (0, [(0, (1, 0)), (1, (0, a)), (2, (0, b)), (3, (0, c))], [], w) (fun r w' => ∃ z : Int, r = [(0, z)] ∧ e_Has kTy w' ∧ (w' = w ∨ (w 0 13 = 0 ∧ e_fr (kSd a) w w'))) := by
  obtain ⟨d, rfl⟩ : ∃ e, d = e + 1 := ⟨d - 1, by omega⟩
  have hw0 := e_Has.get hT (c := 0) (k := 11) (lo := 0) (hi := 4) rfl (by decide)
  have hb0 := e_Has.get hT (c := 19) (k := 0) (lo := 0) (hi := 4) rfl (by decide)
  have hz0 := e_Has.get hT (c := 250) (k := 1) (lo := 0) (hi := 8) rfl (by decide)
  have hs0 := e_Has.get hT (c := 250) (k := 0) (lo := 0) (hi := 16) rfl (by decide)
  refine e_Ok.run (t' := (2, [(0, (1, 0)), (1, (0, a)), (2, (0, b)), (3, (0, c))], [(0, a), (1, 0)], w)) 2 rfl ?_
  refine e_Ok.callV rfl (by omega) rfl rfl rfl rfl (c_246 (by omega) hT (by omega)) (fun r1 w2 h3 => ?_)
  obtain ⟨z4, rfl, rfl, q5⟩ := h3
  obtain ⟨rfl, q5⟩ | ⟨rfl, q5⟩ := q5
  · show e_Ok 20 elay kcode eI (d + 1) 199 (5, [(0, (1, 0)), (1, (0, a)), (2, (0, b)), (3, (0, c))], [(0, 1)], w) _
    refine e_Ok.if1 rfl (fun h6 => ?_) (fun h6 => ?_)
    · replace h6 : (1 : Int) = 0 := h6
      exfalso; omega
    · replace h6 : (1 : Int) ≠ 0 := by have q : ¬ ((1 : Int) = 0) := h6; omega
      refine e_Ok.run (t' := (12, [(0, (1, 0)), (1, (0, a)), (2, (0, b)), (3, (0, c))], [(0, 6), (0, 0), (0, b)], w)) 3 rfl ?_
      refine e_Ok.callS rfl (by omega) rfl rfl (c_242 (by omega) (by omega) (by omega)) (fun r7 w8 h9 => ?_)
      obtain ⟨z10, rfl, rfl, q11⟩ := h9
      obtain ⟨rfl, q11⟩ | ⟨rfl, q11⟩ := q11
      · show e_Ok 20 elay kcode eI (d + 1) 199 (15, [(0, (1, 0)), (1, (0, a)), (2, (0, b)), (3, (0, c))], [(0, 1)], w) _
        refine e_Ok.if1 rfl (fun h12 => ?_) (fun h12 => ?_)
        · replace h12 : (1 : Int) ≠ 0 := h12
          refine e_Ok.run (t' := (23, [(0, (1, 0)), (1, (0, a)), (2, (0, b)), (3, (0, c))], [(1, 0), (0, 0), (0, c)], w)) 3 rfl ?_
          refine e_Ok.getr (z := 250) rfl (el_o rfl) rfl rfl (Eq.trans (e_Has.eq hT rfl) (by omega)) (by omega) ?_
          have h13 := (e_Has.get hT (c := 250) (k := 0) (lo := 0) (hi := 16) rfl (by decide))
          refine e_Ok.getf (z := w 250 0) rfl (el_o rfl) rfl rfl rfl (by omega) ?_
          refine e_Ok.run (t' := (30, [(0, (1, 0)), (1, (0, a)), (2, (0, b)), (3, (0, c))], [(0, 1), (0, w 250 0), (0, 0), (0, c)], w)) 1 rfl ?_
          refine e_Ok.sub' (z := w 250 0 - 1) rfl (by omega) (by omega) ?_
          refine e_Ok.callS rfl (by omega) rfl rfl (c_242 (by omega) (by omega) (by omega)) (fun r14 w15 h16 => ?_)
          obtain ⟨z17, rfl, rfl, q18⟩ := h16
          obtain ⟨rfl, q18⟩ | ⟨rfl, q18⟩ := q18
          · show e_Ok 20 elay kcode eI (d + 1) 199 (34, [(0, (1, 0)), (1, (0, a)), (2, (0, b)), (3, (0, c))], [(0, 1)], w) _
            refine e_Ok.if1 rfl (fun h19 => ?_) (fun h19 => ?_)
            · replace h19 : (1 : Int) ≠ 0 := h19
              refine e_Ok.run (t' := (40, [(0, (1, 0)), (1, (0, a)), (2, (0, b)), (3, (0, c))], [(1, 0)], w)) 1 rfl ?_
              refine e_Ok.getf (z := w 0 13) rfl (el_o rfl) rfl rfl rfl (by omega) ?_
              refine e_Ok.if1 rfl (fun h20 => ?_) (fun h20 => ?_)
              · replace h20 : (w 0 13 : Int) = 0 := h20
                refine e_Ok.run (t' := (50, [(0, (1, 0)), (1, (0, a)), (2, (0, b)), (3, (0, c))], [(1, 0)], w)) 1 rfl ?_
                refine e_Ok.getr (z := 9) rfl (el_o rfl) rfl rfl (Eq.trans (e_Has.eq hT rfl) (by omega)) (by omega) ?_
                refine e_Ok.run (t' := (54, [(0, (1, 0)), (1, (0, a)), (2, (0, b)), (3, (0, c))], [(0, a), (1, 9)], w)) 1 rfl ?_
                refine e_Ok.aald (z := 17 * a + 86) rfl (el_o rfl) rfl (by omega) (Eq.trans (e_Has.eq hT (k9 (by omega))) (by omega)) (by omega) ?_
                refine e_Ok.run (t' := (57, [(0, (1, 0)), (1, (0, a)), (2, (0, b)), (3, (0, c))], [(0, c), (0, b), (1, 17 * a + 86)], w)) 2 rfl ?_
                refine e_Ok.callV rfl (by omega) rfl (lA0 (a := a) (by omega) (by omega)) rfl rfl (c_6 (a := a) hT (by omega) (by omega) (by omega)) (fun r21 w22 h23 => ?_)
                obtain ⟨z25, rfl, rfl, q24r⟩ := h23
                show e_Ok 20 elay kcode eI (d + 1) 199 (60, [(0, (1, 0)), (1, (0, a)), (2, (0, b)), (3, (0, c))], [(0, z25)], w) _
                refine e_Ok.if1 rfl (fun h26 => ?_) (fun h26 => ?_)
                · replace h26 : (z25 : Int) = 0 := h26
                  refine e_Ok.run (t' := (66, [(0, (1, 0)), (1, (0, a)), (2, (0, b)), (3, (0, c))], [(1, 0)], w)) 1 rfl ?_
                  refine e_Ok.getr (z := 9) rfl (el_o rfl) rfl rfl (Eq.trans (e_Has.eq hT rfl) (by omega)) (by omega) ?_
                  refine e_Ok.run (t' := (70, [(0, (1, 0)), (1, (0, a)), (2, (0, b)), (3, (0, c))], [(0, a), (1, 9)], w)) 1 rfl ?_
                  refine e_Ok.aald (z := 17 * a + 86) rfl (el_o rfl) rfl (by omega) (Eq.trans (e_Has.eq hT (k9 (by omega))) (by omega)) (by omega) ?_
                  refine e_Ok.getr (z := 17 * a + 92) rfl (lA0 (a := a) (by omega) (by omega)) rfl rfl (Eq.trans (e_Has.eq hT (kA_5 (a := a) (by omega) (by omega))) (by omega)) (by omega) ?_
                  refine e_Ok.run (t' := (76, [(0, (1, 0)), (1, (0, a)), (2, (0, b)), (3, (0, c))], [(0, b), (1, 17 * a + 92), (0, b), (1, 17 * a + 92)], w)) 2 rfl ?_
                  have h27 := (e_Has.get hT (c := 17 * a + 92) (k := b) (lo := (-2147483648)) (hi := 2147483647) (kA92 (a := a) _ (by omega) (by omega)) (by decide))
                  refine e_Ok.ald (z := w (17 * a + 92) b) rfl (lA6 (a := a) (by omega) (by omega)) rfl (by omega) rfl (by omega) ?_
                  refine e_Ok.run (t' := (79, [(0, (1, 0)), (1, (0, a)), (2, (0, b)), (3, (0, c))], [(0, c), (0, 1), (0, w (17 * a + 92) b), (0, b), (1, 17 * a + 92)], w)) 2 rfl ?_
                  refine e_Ok.any rfl (eB_any _ _) (fun z28 z28a z28b => ?_)
                  refine e_Ok.any rfl (eB_any _ _) (fun z29 z29a z29b => ?_)
                  refine e_Ok.ast rfl (lA6 (a := a) (by omega) (by omega)) rfl rfl (by omega) ?_
                  generalize hw30 : e_up w (17 * a + 92) b z29 = w30
                  have f31 : e_fr (kSd a) w w30 := e_fr.up (e_fr.refl w) hw30 (by unfold kSd; omega)
                  have hT32 : e_Has kTy w30 := e_Has.upr hT hw30 (kA92 (a := a) _ (by omega) (by omega)) (by omega)
                  refine e_Ok.run (t' := (83, [(0, (1, 0)), (1, (0, a)), (2, (0, b)), (3, (0, c))], [(0, 1)], w30)) 1 rfl ?_
                  refine e_Ok.rets rfl rfl ?_
                  exact ⟨_, rfl, hT32, Or.inr ⟨by omega, f31⟩⟩
                · replace h26 : (z25 : Int) ≠ 0 := by have q : ¬ ((z25 : Int) = 0) := h26; omega
                  refine e_Ok.run (t' := (64, [(0, (1, 0)), (1, (0, a)), (2, (0, b)), (3, (0, c))], [(0, 0)], w)) 1 rfl ?_
                  refine e_Ok.rets rfl rfl ?_
                  exact ⟨_, rfl, hT, Or.inl rfl⟩
              · replace h20 : (w 0 13 : Int) ≠ 0 := by have q : ¬ ((w 0 13 : Int) = 0) := h20; omega
                refine e_Ok.run (t' := (48, [(0, (1, 0)), (1, (0, a)), (2, (0, b)), (3, (0, c))], [(0, (-2))], w)) 1 rfl ?_
                refine e_Ok.rets rfl rfl ?_
                exact ⟨_, rfl, hT, Or.inl rfl⟩
            · replace h19 : (1 : Int) = 0 := by have q : ¬ ((1 : Int) ≠ 0) := h19; omega
              exfalso; omega
          · show e_Ok 20 elay kcode eI (d + 1) 199 (34, [(0, (1, 0)), (1, (0, a)), (2, (0, b)), (3, (0, c))], [(0, 0)], w) _
            refine e_Ok.if1 rfl (fun h33 => ?_) (fun h33 => ?_)
            · replace h33 : (0 : Int) ≠ 0 := h33
              exfalso; omega
            · replace h33 : (0 : Int) = 0 := by have q : ¬ ((0 : Int) ≠ 0) := h33; omega
              refine e_Ok.run (t' := (38, [(0, (1, 0)), (1, (0, a)), (2, (0, b)), (3, (0, c))], [(0, (-1))], w)) 1 rfl ?_
              refine e_Ok.rets rfl rfl ?_
              exact ⟨_, rfl, hT, Or.inl rfl⟩
        · replace h12 : (1 : Int) = 0 := by have q : ¬ ((1 : Int) ≠ 0) := h12; omega
          exfalso; omega
      · show e_Ok 20 elay kcode eI (d + 1) 199 (15, [(0, (1, 0)), (1, (0, a)), (2, (0, b)), (3, (0, c))], [(0, 0)], w) _
        refine e_Ok.if1 rfl (fun h34 => ?_) (fun h34 => ?_)
        · replace h34 : (0 : Int) ≠ 0 := h34
          exfalso; omega
        · replace h34 : (0 : Int) = 0 := by have q : ¬ ((0 : Int) ≠ 0) := h34; omega
          refine e_Ok.run (t' := (19, [(0, (1, 0)), (1, (0, a)), (2, (0, b)), (3, (0, c))], [(0, (-1))], w)) 1 rfl ?_
          refine e_Ok.rets rfl rfl ?_
          exact ⟨_, rfl, hT, Or.inl rfl⟩
  · show e_Ok 20 elay kcode eI (d + 1) 199 (5, [(0, (1, 0)), (1, (0, a)), (2, (0, b)), (3, (0, c))], [(0, 0)], w) _
    refine e_Ok.if1 rfl (fun h35 => ?_) (fun h35 => ?_)
    · replace h35 : (0 : Int) = 0 := h35
      refine e_Ok.run (t' := (19, [(0, (1, 0)), (1, (0, a)), (2, (0, b)), (3, (0, c))], [(0, (-1))], w)) 1 rfl ?_
      refine e_Ok.rets rfl rfl ?_
      exact ⟨_, rfl, hT, Or.inl rfl⟩
    · replace h35 : (0 : Int) ≠ 0 := by have q : ¬ ((0 : Int) = 0) := h35; omega
      exfalso; omega
theorem c_200 {d : Nat} (hd : 24 ≤ d) {w : eW} (hT : e_Has kTy w) (hO : 0 ≤ w 0 13 ∧ w 0 13 ≤ 1) {a : Int} (g_a : (-2147483648) ≤ a ∧ a ≤ 2147483647) {b : Int} (g_b : (-2147483648) ≤ b ∧ b ≤ 2147483647) {c : Int} (g_c : (-2147483648) ≤ c ∧ c ≤ 2147483647) {e : Int} (g_e : (-2147483648) ≤ e ∧ e ≤ 2147483647) {g : Int} (g_g : (-2147483648) ≤ g ∧ g ≤ 2147483647) : e_Ok 20 elay kcode eI d 200 (0, [(0, (1, 0)), (1, (0, a)), (2, (0, b)), (3, (0, c)), (4, (0, e)), (5, (0, g))], [], w) (fun r w' => ∃ z : Int, r = [(0, z)] ∧ e_Has kTy w' ∧ (w' = w ∨ (w 0 13 = 0 ∧ e_fr kAb w w' ∧ (w' 19 0 = w 19 0 + 1 ∧ w' 35 (w 19 0) = 0 ∧ w 19 0 ≤ 3 ∧ ∀ k, k ≠ w 19 0 → w' 35 k = w 35 k)))) := by
  obtain ⟨d, rfl⟩ : ∃ e, d = e + 1 := ⟨d - 1, by omega⟩
  have hw0 := e_Has.get hT (c := 0) (k := 11) (lo := 0) (hi := 4) rfl (by decide)
  have hb0 := e_Has.get hT (c := 19) (k := 0) (lo := 0) (hi := 4) rfl (by decide)
  have hz0 := e_Has.get hT (c := 250) (k := 1) (lo := 0) (hi := 8) rfl (by decide)
  refine e_Ok.run (t' := (2, [(0, (1, 0)), (1, (0, a)), (2, (0, b)), (3, (0, c)), (4, (0, e)), (5, (0, g))], [(0, b), (0, a)], w)) 2 rfl ?_
  refine e_Ok.callS rfl (by omega) rfl rfl (c_243 (by omega) (by omega) (by omega)) (fun r1 w2 h3 => ?_)
  obtain ⟨z4, rfl, rfl, q5⟩ := h3
  obtain ⟨rfl, q5⟩ | ⟨rfl, q5⟩ := q5
  · show e_Ok 20 elay kcode eI (d + 1) 200 (5, [(0, (1, 0)), (1, (0, a)), (2, (0, b)), (3, (0, c)), (4, (0, e)), (5, (0, g))], [(0, 1)], w) _
    refine e_Ok.if1 rfl (fun h6 => ?_) (fun h6 => ?_)
    · replace h6 : (1 : Int) = 0 := h6
      exfalso; omega
    · replace h6 : (1 : Int) ≠ 0 := by have q : ¬ ((1 : Int) = 0) := h6; omega
      refine e_Ok.run (t' := (11, [(0, (1, 0)), (1, (0, a)), (2, (0, b)), (3, (0, c)), (4, (0, e)), (5, (0, g))], [(0, 3), (0, 0), (0, c)], w)) 3 rfl ?_
      refine e_Ok.callS rfl (by omega) rfl rfl (c_242 (by omega) (by omega) (by omega)) (fun r7 w8 h9 => ?_)
      obtain ⟨z10, rfl, rfl, q11⟩ := h9
      obtain ⟨rfl, q11⟩ | ⟨rfl, q11⟩ := q11
      · show e_Ok 20 elay kcode eI (d + 1) 200 (14, [(0, (1, 0)), (1, (0, a)), (2, (0, b)), (3, (0, c)), (4, (0, e)), (5, (0, g))], [(0, 1)], w) _
        refine e_Ok.if1 rfl (fun h12 => ?_) (fun h12 => ?_)
        · replace h12 : (1 : Int) ≠ 0 := h12
          refine e_Ok.run (t' := (25, [(0, (1, 0)), (1, (0, a)), (2, (0, b)), (3, (0, c)), (4, (0, e)), (5, (0, g))], [(0, 16000), (0, 0), (0, e)], w)) 3 rfl ?_
          refine e_Ok.callS rfl (by omega) rfl rfl (c_242 (by omega) (by omega) (by omega)) (fun r13 w14 h15 => ?_)
          obtain ⟨z16, rfl, rfl, q17⟩ := h15
          obtain ⟨rfl, q17⟩ | ⟨rfl, q17⟩ := q17
          · show e_Ok 20 elay kcode eI (d + 1) 200 (28, [(0, (1, 0)), (1, (0, a)), (2, (0, b)), (3, (0, c)), (4, (0, e)), (5, (0, g))], [(0, 1)], w) _
            refine e_Ok.if1 rfl (fun h18 => ?_) (fun h18 => ?_)
            · replace h18 : (1 : Int) = 0 := h18
              exfalso; omega
            · replace h18 : (1 : Int) ≠ 0 := by have q : ¬ ((1 : Int) = 0) := h18; omega
              refine e_Ok.run (t' := (37, [(0, (1, 0)), (1, (0, a)), (2, (0, b)), (3, (0, c)), (4, (0, e)), (5, (0, g))], [(0, 2000), (0, 0), (0, g)], w)) 3 rfl ?_
              refine e_Ok.callS rfl (by omega) rfl rfl (c_242 (by omega) (by omega) (by omega)) (fun r19 w20 h21 => ?_)
              obtain ⟨z22, rfl, rfl, q23⟩ := h21
              obtain ⟨rfl, q23⟩ | ⟨rfl, q23⟩ := q23
              · show e_Ok 20 elay kcode eI (d + 1) 200 (40, [(0, (1, 0)), (1, (0, a)), (2, (0, b)), (3, (0, c)), (4, (0, e)), (5, (0, g))], [(0, 1)], w) _
                refine e_Ok.if1 rfl (fun h24 => ?_) (fun h24 => ?_)
                · replace h24 : (1 : Int) ≠ 0 := h24
                  refine e_Ok.run (t' := (49, [(0, (1, 0)), (1, (0, a)), (2, (0, b)), (3, (0, c)), (4, (0, e)), (5, (0, g))], [(0, c), (0, e), (0, a)], w)) 3 rfl ?_
                  refine e_Ok.callS rfl (by omega) rfl rfl (c_73 (by omega)) (fun r25 w26 h27 => ?_)
                  obtain ⟨z29, rfl, rfl, q28r⟩ := h27
                  show e_Ok 20 elay kcode eI (d + 1) 200 (52, [(0, (1, 0)), (1, (0, a)), (2, (0, b)), (3, (0, c)), (4, (0, e)), (5, (0, g))], [(0, z29), (0, e), (0, a)], w) _
                  refine e_Ok.any rfl (eF_mul_any _ _) (fun z30 z30a z30b => ?_)
                  refine e_Ok.any rfl (eF_add_any _ _) (fun z31 z31a z31b => ?_)
                  refine e_Ok.run (t' := (58, [(0, (1, 0)), (1, (0, a)), (2, (0, b)), (3, (0, c)), (4, (0, e)), (5, (0, g))], [(0, c), (0, e), (0, b), (0, z31)], w)) 3 rfl ?_
                  refine e_Ok.callS rfl (by omega) rfl rfl (c_74 (by omega)) (fun r32 w33 h34 => ?_)
                  obtain ⟨z36, rfl, rfl, q35r⟩ := h34
                  show e_Ok 20 elay kcode eI (d + 1) 200 (61, [(0, (1, 0)), (1, (0, a)), (2, (0, b)), (3, (0, c)), (4, (0, e)), (5, (0, g))], [(0, z36), (0, e), (0, b), (0, z31)], w) _
                  refine e_Ok.any rfl (eF_mul_any _ _) (fun z37 z37a z37b => ?_)
                  refine e_Ok.any rfl (eF_add_any _ _) (fun z38 z38a z38b => ?_)
                  refine e_Ok.callS rfl (by omega) rfl rfl (c_243 (by omega) (by omega) (by omega)) (fun r40 w41 h42 => ?_)
                  obtain ⟨z43, rfl, rfl, q44⟩ := h42
                  obtain ⟨rfl, q44⟩ | ⟨rfl, q44⟩ := q44
                  · show e_Ok 20 elay kcode eI (d + 1) 200 (66, [(0, (1, 0)), (1, (0, a)), (2, (0, b)), (3, (0, c)), (4, (0, e)), (5, (0, g))], [(0, 1)], w) _
                    refine e_Ok.if1 rfl (fun h45 => ?_) (fun h45 => ?_)
                    · replace h45 : (1 : Int) ≠ 0 := h45
                      refine e_Ok.run (t' := (72, [(0, (1, 0)), (1, (0, a)), (2, (0, b)), (3, (0, c)), (4, (0, e)), (5, (0, g))], [(1, 0)], w)) 1 rfl ?_
                      refine e_Ok.getf (z := w 0 13) rfl (el_o rfl) rfl rfl rfl (by omega) ?_
                      refine e_Ok.if1 rfl (fun h46 => ?_) (fun h46 => ?_)
                      · replace h46 : (w 0 13 : Int) = 0 := h46
                        refine e_Ok.run (t' := (82, [(0, (1, 0)), (1, (0, a)), (2, (0, b)), (3, (0, c)), (4, (0, e)), (5, (0, g))], [(1, 0)], w)) 1 rfl ?_
                        refine e_Ok.getr (z := 19) rfl (el_o rfl) rfl rfl (Eq.trans (e_Has.eq hT rfl) (by omega)) (by omega) ?_
                        have h47 := (e_Has.get hT (c := 19) (k := 0) (lo := 0) (hi := 4) rfl (by decide))
                        refine e_Ok.getf (z := w 19 0) rfl (el_o rfl) rfl rfl rfl (by omega) ?_
                        refine e_Ok.run (t' := (89, [(0, (1, 0)), (1, (0, a)), (2, (0, b)), (3, (0, c)), (4, (0, e)), (5, (0, g))], [(0, 4), (0, w 19 0)], w)) 1 rfl ?_
                        refine e_Ok.if2 rfl (fun h48 => ?_) (fun h48 => ?_)
                        · replace h48 : (w 19 0 : Int) < 4 := h48
                          refine e_Ok.run (t' := (96, [(0, (1, 0)), (1, (0, a)), (2, (0, b)), (3, (0, c)), (4, (0, e)), (5, (0, g))], [(1, 0)], w)) 1 rfl ?_
                          refine e_Ok.getr (z := 19) rfl (el_o rfl) rfl rfl (Eq.trans (e_Has.eq hT rfl) (by omega)) (by omega) ?_
                          refine e_Ok.run (t' := (106, [(0, (1, 0)), (1, (0, a)), (2, (0, b)), (3, (0, c)), (4, (0, e)), (5, (0, g))], [(0, g), (0, e), (0, c), (0, b), (0, a), (1, 19)], w)) 5 rfl ?_
                          refine e_Ok.callV rfl (by omega) rfl rfl rfl rfl (c_75 (by omega) hT (by omega) (by omega) (by omega) (by omega) (by omega) (by omega)) (fun r49 w50 h51 => ?_)
                          obtain ⟨z53, rfl, q52f, q52T, q52r, q52x⟩ := h51
                          have f54 : e_fr kAb w w50 := e_fr.trans (e_fr.refl w) (e_fr.mono q52f (fun c k q => by exact q))
                          show e_Ok 20 elay kcode eI (d + 1) 200 (109, [(0, (1, 0)), (1, (0, a)), (2, (0, b)), (3, (0, c)), (4, (0, e)), (5, (0, g))], [(0, z53)], w50) _
                          refine e_Ok.rets rfl rfl ?_
                          exact ⟨_, rfl, q52T, Or.inr ⟨by omega, f54, ⟨q52x.1, q52x.2.1, by omega, q52x.2.2⟩⟩⟩
                        · replace h48 : (w 19 0 : Int) ≥ 4 := by have q : ¬ ((w 19 0 : Int) < 4) := h48; omega
                          refine e_Ok.run (t' := (94, [(0, (1, 0)), (1, (0, a)), (2, (0, b)), (3, (0, c)), (4, (0, e)), (5, (0, g))], [(0, (-3))], w)) 1 rfl ?_
                          refine e_Ok.rets rfl rfl ?_
                          exact ⟨_, rfl, hT, Or.inl rfl⟩
                      · replace h46 : (w 0 13 : Int) ≠ 0 := by have q : ¬ ((w 0 13 : Int) = 0) := h46; omega
                        refine e_Ok.run (t' := (80, [(0, (1, 0)), (1, (0, a)), (2, (0, b)), (3, (0, c)), (4, (0, e)), (5, (0, g))], [(0, (-2))], w)) 1 rfl ?_
                        refine e_Ok.rets rfl rfl ?_
                        exact ⟨_, rfl, hT, Or.inl rfl⟩
                    · replace h45 : (1 : Int) = 0 := by have q : ¬ ((1 : Int) ≠ 0) := h45; omega
                      exfalso; omega
                  · show e_Ok 20 elay kcode eI (d + 1) 200 (66, [(0, (1, 0)), (1, (0, a)), (2, (0, b)), (3, (0, c)), (4, (0, e)), (5, (0, g))], [(0, 0)], w) _
                    refine e_Ok.if1 rfl (fun h55 => ?_) (fun h55 => ?_)
                    · replace h55 : (0 : Int) ≠ 0 := h55
                      exfalso; omega
                    · replace h55 : (0 : Int) = 0 := by have q : ¬ ((0 : Int) ≠ 0) := h55; omega
                      refine e_Ok.run (t' := (70, [(0, (1, 0)), (1, (0, a)), (2, (0, b)), (3, (0, c)), (4, (0, e)), (5, (0, g))], [(0, (-1))], w)) 1 rfl ?_
                      refine e_Ok.rets rfl rfl ?_
                      exact ⟨_, rfl, hT, Or.inl rfl⟩
                · replace h24 : (1 : Int) = 0 := by have q : ¬ ((1 : Int) ≠ 0) := h24; omega
                  exfalso; omega
              · show e_Ok 20 elay kcode eI (d + 1) 200 (40, [(0, (1, 0)), (1, (0, a)), (2, (0, b)), (3, (0, c)), (4, (0, e)), (5, (0, g))], [(0, 0)], w) _
                refine e_Ok.if1 rfl (fun h56 => ?_) (fun h56 => ?_)
                · replace h56 : (0 : Int) ≠ 0 := h56
                  exfalso; omega
                · replace h56 : (0 : Int) = 0 := by have q : ¬ ((0 : Int) ≠ 0) := h56; omega
                  refine e_Ok.run (t' := (44, [(0, (1, 0)), (1, (0, a)), (2, (0, b)), (3, (0, c)), (4, (0, e)), (5, (0, g))], [(0, (-1))], w)) 1 rfl ?_
                  refine e_Ok.rets rfl rfl ?_
                  exact ⟨_, rfl, hT, Or.inl rfl⟩
          · show e_Ok 20 elay kcode eI (d + 1) 200 (28, [(0, (1, 0)), (1, (0, a)), (2, (0, b)), (3, (0, c)), (4, (0, e)), (5, (0, g))], [(0, 0)], w) _
            refine e_Ok.if1 rfl (fun h57 => ?_) (fun h57 => ?_)
            · replace h57 : (0 : Int) = 0 := h57
              refine e_Ok.run (t' := (44, [(0, (1, 0)), (1, (0, a)), (2, (0, b)), (3, (0, c)), (4, (0, e)), (5, (0, g))], [(0, (-1))], w)) 1 rfl ?_
              refine e_Ok.rets rfl rfl ?_
              exact ⟨_, rfl, hT, Or.inl rfl⟩
            · replace h57 : (0 : Int) ≠ 0 := by have q : ¬ ((0 : Int) = 0) := h57; omega
              exfalso; omega
        · replace h12 : (1 : Int) = 0 := by have q : ¬ ((1 : Int) ≠ 0) := h12; omega
          exfalso; omega
      · show e_Ok 20 elay kcode eI (d + 1) 200 (14, [(0, (1, 0)), (1, (0, a)), (2, (0, b)), (3, (0, c)), (4, (0, e)), (5, (0, g))], [(0, 0)], w) _
        refine e_Ok.if1 rfl (fun h58 => ?_) (fun h58 => ?_)
        · replace h58 : (0 : Int) ≠ 0 := h58
          exfalso; omega
        · replace h58 : (0 : Int) = 0 := by have q : ¬ ((0 : Int) ≠ 0) := h58; omega
          refine e_Ok.run (t' := (18, [(0, (1, 0)), (1, (0, a)), (2, (0, b)), (3, (0, c)), (4, (0, e)), (5, (0, g))], [(0, (-1))], w)) 1 rfl ?_
          refine e_Ok.rets rfl rfl ?_
          exact ⟨_, rfl, hT, Or.inl rfl⟩
  · show e_Ok 20 elay kcode eI (d + 1) 200 (5, [(0, (1, 0)), (1, (0, a)), (2, (0, b)), (3, (0, c)), (4, (0, e)), (5, (0, g))], [(0, 0)], w) _
    refine e_Ok.if1 rfl (fun h59 => ?_) (fun h59 => ?_)
    · replace h59 : (0 : Int) = 0 := h59
      refine e_Ok.run (t' := (18, [(0, (1, 0)), (1, (0, a)), (2, (0, b)), (3, (0, c)), (4, (0, e)), (5, (0, g))], [(0, (-1))], w)) 1 rfl ?_
      refine e_Ok.rets rfl rfl ?_
      exact ⟨_, rfl, hT, Or.inl rfl⟩
    · replace h59 : (0 : Int) ≠ 0 := by have q : ¬ ((0 : Int) = 0) := h59; omega
      exfalso; omega
end
