noncomputable section
/-! the class: core and points -/
def kLg (c k : Int) : Prop := (c = 74 ∧ k = 1) ∨ c = 75
def kCi (c k : Int) : Prop := c = 80 ∨ c = 81
def kCh (c k : Int) : Prop := c = 78 ∨ c = 79
def kPw (c k : Int) : Prop := (c = 74 ∧ (k = 1 ∨ k = 3)) ∨ c = 75 ∨ c = 80
def kCt (c k : Int) : Prop := (c = 74 ∧ (k = 1 ∨ (3 ≤ k ∧ k ≤ 6))) ∨ c = 75
def kSe (c k : Int) : Prop := c = 12 ∨ c = 13
def kPo (c k : Int) : Prop := (11 ≤ c ∧ c ≤ 14) ∨ c = 16
/-- the events that were written down are known -/
def lgK (w : eW) : Prop := ∀ i, 0 ≤ i → i < 8000 → i < 4 * w 74 1 → kn1 (w 75 i)
theorem lgK.fr {S : Int → Int → Prop} {w w' : eW} (f : e_fr S w w') (h1 : ¬ S 74 1) (h2 : ∀ k, ¬ S 75 k) (h : lgK w) : lgK w' := fun i g1 g2 g3 => by
  rw [f 74 1 h1] at g3
  rw [f 75 i (h2 i)]
  exact h i g1 g2 g3
theorem lgK.add1 {w w' : eW} {z : Int} (hz : z = w 74 1 + 1) (h1 : 2000 ≤ w 74 1) (hw : e_up w 74 1 z = w') (h : lgK w) : lgK w' := fun i g1 g2 g3 => by
  rw [← hw, e_up_ne _ _ (Or.inl (by decide))]
  exact h i g1 g2 (by omega)
theorem lgK.add2 {w w1 w2 w3 w4 w' : eW} {i1 i2 i3 i4 z1 z2 z3 z4 z : Int} (e1 : i1 = 4 * w 74 1) (e2 : i2 = i1 + 1) (e3 : i3 = i1 + 2) (e4 : i4 = i1 + 3) (hz : z = w 74 1 + 1)
    (h1 : e_up w 75 i1 z1 = w1) (h2 : e_up w1 75 i2 z2 = w2) (h3 : e_up w2 75 i3 z3 = w3) (h4 : e_up w3 75 i4 z4 = w4) (hw : e_up w4 74 1 z = w') (k1 : kn1 z1) (k2 : kn1 z2) (k3 : kn1 z3) (k4 : kn1 z4) (h : lgK w) : lgK w' := fun i g1 g2 g3 => by
  have q : w' 74 1 = z := by rw [← hw]; exact e_up_eq _ _ _ _
  rw [q] at g3
  rw [← hw, e_up_ne _ _ (Or.inl (by decide)), ← h4]
  by_cases a4 : i = i4
  · rw [a4, e_up_eq]; exact k4
  · rw [e_up_ne _ _ (Or.inr a4), ← h3]
    by_cases a3 : i = i3
    · rw [a3, e_up_eq]; exact k3
    · rw [e_up_ne _ _ (Or.inr a3), ← h2]
      by_cases a2 : i = i2
      · rw [a2, e_up_eq]; exact k2
      · rw [e_up_ne _ _ (Or.inr a2), ← h1]
        by_cases a1 : i = i1
        · rw [a1, e_up_eq]; exact k1
        · rw [e_up_ne _ _ (Or.inr a1)]
          exact h i g1 g2 (by omega)
/-- what a point is forced to is known -/
def pF (w : eW) : Prop := ∀ p, 0 ≤ p → p ≤ 63 → w 16 p ≠ 0 → kn1 (w 14 p)
theorem pF.fr {S : Int → Int → Prop} {w w' : eW} (f : e_fr S w w') (h1 : ∀ k, ¬ S 16 k ∧ ¬ S 14 k) (h : pF w) : pF w' := fun p g1 g2 g3 => by
  rw [f 16 p (h1 p).1] at g3
  rw [f 14 p (h1 p).2]
  exact h p g1 g2 g3
def rcv (w : eW) (u : Int → Int) (p : Int) : Int := if w 16 p ≠ 0 then w 14 p else if w 15 p < 0 then w 11 p else if w 17 p = 0 then u (w 15 p) else if u (w 15 p) = 0 then 1 else 0
/-- each point behind the one that its wire comes from; values that fit the wires -/
def pTo (w : eW) : Prop := ∀ i, 0 ≤ i → i ≤ 63 → 0 ≤ w 15 (w 18 i) → ∃ k, (0 ≤ k ∧ k < i) ∧ w 18 k = w 15 (w 18 i)
def pFx (w : eW) (V : Int → Int) : Prop := ∀ p, 0 ≤ p → p ≤ 63 → V p = rcv w V p
theorem rcv.fr {w v : eW} (f : e_fr kSe w v) (u : Int → Int) (p : Int) : rcv v u p = rcv w u p := by
  unfold rcv
  rw [f 16 p (by unfold kSe; omega), f 14 p (by unfold kSe; omega), f 15 p (by unfold kSe; omega), f 11 p (by unfold kSe; omega), f 17 p (by unfold kSe; omega)]
theorem pS.step {w v v' : eW} {V : Int → Int} {y n : Int} (hV : pFx w V) (hT : pTo w) (f : e_fr kSe w v) (hy : 0 ≤ y ∧ y ≤ 63) (ho : 0 ≤ w 18 y ∧ w 18 y ≤ 63) (h : ∀ k, 0 ≤ k → k < y → v 12 (w 18 k) = V (w 18 k)) (hn : n = rcv v (v 12) (w 18 y))
    (h1 : v' 12 (w 18 y) = n) (h2 : ∀ p, p ≠ w 18 y → v' 12 p = v 12 p) : ∀ k, 0 ≤ k → k < y + 1 → v' 12 (w 18 k) = V (w 18 k) := by
  have e : n = V (w 18 y) := by
    rw [hn, rcv.fr f, hV _ ho.1 ho.2]
    by_cases q : 0 ≤ w 15 (w 18 y)
    · obtain ⟨k, hk, ek⟩ := hT y hy.1 hy.2 q
      have := h k hk.1 hk.2
      rw [ek] at this
      simp only [rcv, this]
    · have q2 : w 15 (w 18 y) < 0 := by omega
      simp only [rcv, if_pos q2]
  intro k g1 g2
  by_cases q : w 18 k = w 18 y
  · rw [q, h1, e]
  · rw [h2 _ q]
    by_cases q2 : k = y
    · exact absurd (by rw [q2]) q
    · exact h k g1 (by omega)
def kNl (c k : Int) : Prop := ¬ (c = 74 ∧ k = 1) ∧ c ≠ 75
theorem lgK.ch {w w' : eW} (f : e_fr kNl w w') (h : lgK w) : lgK w' := h.fr f (by unfold kNl; omega) (fun k => by unfold kNl; omega)
theorem pF.up0 {w w' : eW} {c k z : Int} (h : pF w) (hw : e_up w c k z = w') (hc : c ≠ 14 ∧ c ≠ 16) : pF w' := fun p g1 g2 g3 => by
  have e16 : w' 16 p = w 16 p := by rw [← hw]; exact e_up_ne _ _ (Or.inl (fun q => hc.2 q.symm))
  have e14 : w' 14 p = w 14 p := by rw [← hw]; exact e_up_ne _ _ (Or.inl (fun q => hc.1 q.symm))
  rw [e16] at g3
  rw [e14]
  exact h p g1 g2 g3
/-- forced, and what to -/
theorem pF.up2 {w w1 w' : eW} {k z v : Int} (h : pF w) (h1 : e_up w 16 k z = w1) (hw : e_up w1 14 k v = w') (hv : kn1 v) : pF w' := fun p g1 g2 g3 => by
  have e16 : w' 16 p = w1 16 p := by rw [← hw]; exact e_up_ne _ _ (Or.inl (by decide))
  by_cases e : p = k
  · rw [e, ← hw, e_up_eq]; exact hv
  · have e14 : w' 14 p = w 14 p := by rw [← hw, e_up_ne _ _ (Or.inr e), ← h1]; exact e_up_ne _ _ (Or.inl (by decide))
    have e15 : w1 16 p = w 16 p := by rw [← h1]; exact e_up_ne _ _ (Or.inr e)
    rw [e16, e15] at g3
    rw [e14]
    exact h p g1 g2 g3
theorem c_27 {d : Nat} {w : eW} (hT : e_Has kTy w) {e1 e2 e3 : Int} (g_e1 : (-2147483648) ≤ e1 ∧ e1 ≤ 2147483647) (g_e2 : (-2147483648) ≤ e2 ∧ e2 ≤ 2147483647) (g_e3 : (-2147483648) ≤ e3 ∧ e3 ≤ 2147483647) (he : w 74 1 < 2147483647) : e_Ok 20 elay kcode eI d 27 (0, [(0, (1, 74)), (1, (0, e1)), (2, (0, e2)), (3, (0, e3))], [], w) (fun r w' => r = [] ∧ e_fr kLg w w' ∧ e_Has kTy w' ∧ (w' 74 1 = w 74 1 + 1 ∧ (lgK w → lgK w'))) := by
  have h74 := e_Has.get hT (c := 74) (k := 1) (lo := 0) (hi := 2147483647) rfl (by decide)
  refine e_Ok.run (t' := (1, [(0, (1, 74)), (1, (0, e1)), (2, (0, e2)), (3, (0, e3))], [(1, 74)], w)) 1 rfl ?_
  refine e_Ok.getf (z := w 74 1) rfl (el_o rfl) rfl rfl rfl (by omega) ?_
  refine e_Ok.run (t' := (7, [(0, (1, 74)), (1, (0, e1)), (2, (0, e2)), (3, (0, e3))], [(0, 2000), (0, w 74 1)], w)) 1 rfl ?_
  refine e_Ok.if2 rfl (fun h1 => ?_) (fun h1 => ?_)
  · replace h1 : (w 74 1 : Int) ≥ 2000 := h1
    refine e_Ok.run (t' := (61, [(0, (1, 74)), (1, (0, e1)), (2, (0, e2)), (3, (0, e3))], [(1, 74), (1, 74)], w)) 2 rfl ?_
    refine e_Ok.getf (z := w 74 1) rfl (el_o rfl) rfl rfl rfl (by omega) ?_
    refine e_Ok.run (t' := (65, [(0, (1, 74)), (1, (0, e1)), (2, (0, e2)), (3, (0, e3))], [(0, 1), (0, w 74 1), (1, 74)], w)) 1 rfl ?_
    refine e_Ok.add (z := w 74 1 + 1) rfl (by omega) (by omega) ?_
    refine e_Ok.putf rfl (el_o rfl) rfl rfl ?_
    generalize hw2 : e_up w 74 1 (w 74 1 + 1) = w2
    have f3 : e_fr kLg w w2 := e_fr.up (e_fr.refl w) hw2 (by unfold kLg; omega)
    have hT4 : e_Has kTy w2 := e_Has.upr hT hw2 rfl (by omega)
    refine e_Ok.rets rfl rfl ?_
    exact ⟨rfl, f3, hT4, ⟨(by rw [← hw2]; exact e_up_eq _ _ _ _), fun hL => lgK.add1 rfl (by omega) hw2 hL⟩⟩
  · replace h1 : (w 74 1 : Int) < 2000 := by have q : ¬ ((w 74 1 : Int) ≥ 2000) := h1; omega
    refine e_Ok.run (t' := (11, [(0, (1, 74)), (1, (0, e1)), (2, (0, e2)), (3, (0, e3))], [(1, 74)], w)) 1 rfl ?_
    refine e_Ok.getf (z := w 74 1) rfl (el_o rfl) rfl rfl rfl (by omega) ?_
    refine e_Ok.run (t' := (15, [(0, (1, 74)), (1, (0, e1)), (2, (0, e2)), (3, (0, e3))], [(0, 4), (0, w 74 1)], w)) 1 rfl ?_
    refine e_Ok.mul (z := 4 * w 74 1) rfl (by omega) (by omega) ?_
    refine e_Ok.run (t' := (19, [(4, (0, 4 * w 74 1)), (0, (1, 74)), (1, (0, e1)), (2, (0, e2)), (3, (0, e3))], [(1, 74)], w)) 2 rfl ?_
    refine e_Ok.getr (z := 75) rfl (el_o rfl) rfl rfl (Eq.trans (e_Has.eq hT rfl) (by omega)) (by omega) ?_
    refine e_Ok.run (t' := (25, [(4, (0, 4 * w 74 1)), (0, (1, 74)), (1, (0, e1)), (2, (0, e2)), (3, (0, e3))], [(1, 74), (0, 4 * w 74 1), (1, 75)], w)) 2 rfl ?_
    have h5 := (e_Has.get hT (c := 74) (k := 0) (lo := 0) (hi := 6000) rfl (by decide))
    refine e_Ok.getf (z := w 74 0) rfl (el_o rfl) rfl rfl rfl (by omega) ?_
    refine e_Ok.ast rfl (el_o rfl) rfl rfl (by omega) ?_
    generalize hw6 : e_up w 75 (4 * w 74 1) (w 74 0) = w6
    have f7 : e_fr kLg w w6 := e_fr.up (e_fr.refl w) hw6 (by unfold kLg; omega)
    have hT8 : e_Has kTy w6 := e_Has.ups hT hw6 rfl
    refine e_Ok.run (t' := (30, [(4, (0, 4 * w 74 1)), (0, (1, 74)), (1, (0, e1)), (2, (0, e2)), (3, (0, e3))], [(1, 74)], w6)) 1 rfl ?_
    refine e_Ok.getr (z := 75) rfl (el_o rfl) rfl rfl (by rw [← hw6]; exact (e_up_ne _ _ (Or.inl (by omega))).trans (Eq.trans (e_Has.eq hT rfl) (by omega))) (by omega) ?_
    refine e_Ok.run (t' := (36, [(4, (0, 4 * w 74 1)), (0, (1, 74)), (1, (0, e1)), (2, (0, e2)), (3, (0, e3))], [(0, 1), (0, 4 * w 74 1), (1, 75)], w6)) 2 rfl ?_
    refine e_Ok.add (z := 4 * w 74 1 + 1) rfl (by omega) (by omega) ?_
    refine e_Ok.run (t' := (38, [(4, (0, 4 * w 74 1)), (0, (1, 74)), (1, (0, e1)), (2, (0, e2)), (3, (0, e3))], [(0, e1), (0, 4 * w 74 1 + 1), (1, 75)], w6)) 1 rfl ?_
    refine e_Ok.ast rfl (el_o rfl) rfl rfl (by omega) ?_
    generalize hw9 : e_up w6 75 (4 * w 74 1 + 1) e1 = w9
    have f10 : e_fr kLg w w9 := e_fr.up f7 hw9 (by unfold kLg; omega)
    have hT11 : e_Has kTy w9 := e_Has.ups hT8 hw9 rfl
    refine e_Ok.run (t' := (40, [(4, (0, 4 * w 74 1)), (0, (1, 74)), (1, (0, e1)), (2, (0, e2)), (3, (0, e3))], [(1, 74)], w9)) 1 rfl ?_
    refine e_Ok.getr (z := 75) rfl (el_o rfl) rfl rfl (by rw [← hw9]; exact (e_up_ne _ _ (Or.inl (by omega))).trans (by rw [← hw6]; exact (e_up_ne _ _ (Or.inl (by omega))).trans (Eq.trans (e_Has.eq hT rfl) (by omega)))) (by omega) ?_
    refine e_Ok.run (t' := (46, [(4, (0, 4 * w 74 1)), (0, (1, 74)), (1, (0, e1)), (2, (0, e2)), (3, (0, e3))], [(0, 2), (0, 4 * w 74 1), (1, 75)], w9)) 2 rfl ?_
    refine e_Ok.add (z := 4 * w 74 1 + 2) rfl (by omega) (by omega) ?_
    refine e_Ok.run (t' := (48, [(4, (0, 4 * w 74 1)), (0, (1, 74)), (1, (0, e1)), (2, (0, e2)), (3, (0, e3))], [(0, e2), (0, 4 * w 74 1 + 2), (1, 75)], w9)) 1 rfl ?_
    refine e_Ok.ast rfl (el_o rfl) rfl rfl (by omega) ?_
    generalize hw12 : e_up w9 75 (4 * w 74 1 + 2) e2 = w12
    have f13 : e_fr kLg w w12 := e_fr.up f10 hw12 (by unfold kLg; omega)
    have hT14 : e_Has kTy w12 := e_Has.ups hT11 hw12 rfl
    refine e_Ok.run (t' := (50, [(4, (0, 4 * w 74 1)), (0, (1, 74)), (1, (0, e1)), (2, (0, e2)), (3, (0, e3))], [(1, 74)], w12)) 1 rfl ?_
    refine e_Ok.getr (z := 75) rfl (el_o rfl) rfl rfl (by rw [← hw12]; exact (e_up_ne _ _ (Or.inl (by omega))).trans (by rw [← hw9]; exact (e_up_ne _ _ (Or.inl (by omega))).trans (by rw [← hw6]; exact (e_up_ne _ _ (Or.inl (by omega))).trans (Eq.trans (e_Has.eq hT rfl) (by omega))))) (by omega) ?_
    refine e_Ok.run (t' := (56, [(4, (0, 4 * w 74 1)), (0, (1, 74)), (1, (0, e1)), (2, (0, e2)), (3, (0, e3))], [(0, 3), (0, 4 * w 74 1), (1, 75)], w12)) 2 rfl ?_
    refine e_Ok.add (z := 4 * w 74 1 + 3) rfl (by omega) (by omega) ?_
    refine e_Ok.run (t' := (58, [(4, (0, 4 * w 74 1)), (0, (1, 74)), (1, (0, e1)), (2, (0, e2)), (3, (0, e3))], [(0, e3), (0, 4 * w 74 1 + 3), (1, 75)], w12)) 1 rfl ?_
    refine e_Ok.ast rfl (el_o rfl) rfl rfl (by omega) ?_
    generalize hw15 : e_up w12 75 (4 * w 74 1 + 3) e3 = w15
    have f16 : e_fr kLg w w15 := e_fr.up f13 hw15 (by unfold kLg; omega)
    have hT17 : e_Has kTy w15 := e_Has.ups hT14 hw15 rfl
    refine e_Ok.run (t' := (61, [(4, (0, 4 * w 74 1)), (0, (1, 74)), (1, (0, e1)), (2, (0, e2)), (3, (0, e3))], [(1, 74), (1, 74)], w15)) 2 rfl ?_
    refine e_Ok.getf (z := w 74 1) rfl (el_o rfl) rfl rfl (by rw [← hw15]; exact (e_up_ne _ _ (Or.inl (by omega))).trans (by rw [← hw12]; exact (e_up_ne _ _ (Or.inl (by omega))).trans (by rw [← hw9]; exact (e_up_ne _ _ (Or.inl (by omega))).trans (by rw [← hw6]; exact (e_up_ne _ _ (Or.inl (by omega))).trans rfl)))) (by omega) ?_
    refine e_Ok.run (t' := (65, [(4, (0, 4 * w 74 1)), (0, (1, 74)), (1, (0, e1)), (2, (0, e2)), (3, (0, e3))], [(0, 1), (0, w 74 1), (1, 74)], w15)) 1 rfl ?_
    refine e_Ok.add (z := w 74 1 + 1) rfl (by omega) (by omega) ?_
    refine e_Ok.putf rfl (el_o rfl) rfl rfl ?_
    generalize hw18 : e_up w15 74 1 (w 74 1 + 1) = w18
    have f19 : e_fr kLg w w18 := e_fr.up f16 hw18 (by unfold kLg; omega)
    have hT20 : e_Has kTy w18 := e_Has.upr hT17 hw18 rfl (by omega)
    refine e_Ok.rets rfl rfl ?_
    exact ⟨rfl, f19, hT20, ⟨(by rw [← hw18]; exact e_up_eq _ _ _ _), fun hL => lgK.add2 (by omega) (by omega) (by omega) (by omega) rfl hw6 hw9 hw12 hw15 hw18 (by unfold kn1; omega) (by unfold kn1; omega) (by unfold kn1; omega) (by unfold kn1; omega) hL⟩⟩
theorem c_29 {d : Nat} {w : eW} (hT : e_Has kTy w) {i : Int} (g_i : 0 ≤ i ∧ i ≤ 7) : e_Ok 20 elay kcode eI d 29 (0, [(0, (1, 74)), (1, (0, i))], [], w) (fun r w' => ∃ z : Int, r = [(0, z)] ∧ w = w' ∧ (0 ≤ z ∧ z ≤ 1)) := by
  refine e_Ok.run (t' := (1, [(0, (1, 74)), (1, (0, i))], [(1, 74)], w)) 1 rfl ?_
  refine e_Ok.getr (z := 78) rfl (el_o rfl) rfl rfl (Eq.trans (e_Has.eq hT rfl) (by omega)) (by omega) ?_
  refine e_Ok.run (t' := (5, [(0, (1, 74)), (1, (0, i))], [(0, i), (1, 78)], w)) 1 rfl ?_
  have h1 := (e_Has.get hT (c := 78) (k := i) (lo := 0) (hi := 1) rfl (by decide))
  refine e_Ok.ald (z := w 78 i) rfl (el_o rfl) rfl (by omega) rfl (by omega) ?_
  refine e_Ok.if1 rfl (fun h2 => ?_) (fun h2 => ?_)
  · replace h2 : (w 78 i : Int) = 0 := h2
    refine e_Ok.run (t' := (32, [(0, (1, 74)), (1, (0, i))], [(0, 0)], w)) 1 rfl ?_
    refine e_Ok.rets rfl rfl ?_
    exact ⟨_, rfl, rfl, ⟨by omega, by omega⟩⟩
  · replace h2 : (w 78 i : Int) ≠ 0 := by have q : ¬ ((w 78 i : Int) = 0) := h2; omega
    refine e_Ok.run (t' := (10, [(0, (1, 74)), (1, (0, i))], [(1, 74)], w)) 1 rfl ?_
    refine e_Ok.getr (z := 79) rfl (el_o rfl) rfl rfl (Eq.trans (e_Has.eq hT rfl) (by omega)) (by omega) ?_
    refine e_Ok.run (t' := (14, [(0, (1, 74)), (1, (0, i))], [(0, i), (1, 79)], w)) 1 rfl ?_
    have h3 := (e_Has.get hT (c := 79) (k := i) (lo := 0) (hi := 1) rfl (by decide))
    refine e_Ok.ald (z := w 79 i) rfl (el_o rfl) rfl (by omega) rfl (by omega) ?_
    refine e_Ok.if1 rfl (fun h4 => ?_) (fun h4 => ?_)
    · replace h4 : (w 79 i : Int) = 0 := h4
      refine e_Ok.run (t' := (32, [(0, (1, 74)), (1, (0, i))], [(0, 0)], w)) 1 rfl ?_
      refine e_Ok.rets rfl rfl ?_
      exact ⟨_, rfl, rfl, ⟨by omega, by omega⟩⟩
    · replace h4 : (w 79 i : Int) ≠ 0 := by have q : ¬ ((w 79 i : Int) = 0) := h4; omega
      refine e_Ok.run (t' := (19, [(0, (1, 74)), (1, (0, i))], [(1, 74)], w)) 1 rfl ?_
      refine e_Ok.getr (z := 80) rfl (el_o rfl) rfl rfl (Eq.trans (e_Has.eq hT rfl) (by omega)) (by omega) ?_
      refine e_Ok.run (t' := (23, [(0, (1, 74)), (1, (0, i))], [(0, i), (1, 80)], w)) 1 rfl ?_
      have h5 := (e_Has.get hT (c := 80) (k := i) (lo := 0) (hi := 1) rfl (by decide))
      refine e_Ok.ald (z := w 80 i) rfl (el_o rfl) rfl (by omega) rfl (by omega) ?_
      have hJ8 : ∀ m7 : Int, 0 ≤ m7 ∧ m7 ≤ 1 → e_Ok 20 elay kcode eI d 29 (32, [(0, (1, 74)), (1, (0, i))], [(0, m7)], w) (fun r w' => ∃ z : Int, r = [(0, z)] ∧ w = w' ∧ (0 ≤ z ∧ z ≤ 1)) := by
        intro m7 m7r
        refine e_Ok.retb rfl (by omega) ?_
        exact ⟨_, rfl, rfl, ⟨by omega, by omega⟩⟩
      refine e_Ok.if1 rfl (fun h6 => ?_) (fun h6 => ?_)
      · exact e_Ok.run 1 rfl (hJ8 0 (by omega))
      · exact e_Ok.run 2 rfl (hJ8 1 (by omega))
theorem c_30 {d : Nat} (hd : 21 ≤ d) {w : eW} (hT : e_Has kTy w) {i : Int} (g_i : 0 ≤ i ∧ i ≤ 7) : e_Ok 20 elay kcode eI d 30 (0, [(0, (1, 74)), (1, (0, i))], [], w) (fun r w' => ∃ z : Int, r = [(0, z)] ∧ w = w' ∧ (0 ≤ z ∧ z ≤ 2)) := by
  obtain ⟨d, rfl⟩ : ∃ e, d = e + 1 := ⟨d - 1, by omega⟩
  refine e_Ok.run (t' := (1, [(0, (1, 74)), (1, (0, i))], [(1, 74)], w)) 1 rfl ?_
  refine e_Ok.getr (z := 80) rfl (el_o rfl) rfl rfl (Eq.trans (e_Has.eq hT rfl) (by omega)) (by omega) ?_
  refine e_Ok.run (t' := (5, [(0, (1, 74)), (1, (0, i))], [(0, i), (1, 80)], w)) 1 rfl ?_
  have h1 := (e_Has.get hT (c := 80) (k := i) (lo := 0) (hi := 1) rfl (by decide))
  refine e_Ok.ald (z := w 80 i) rfl (el_o rfl) rfl (by omega) rfl (by omega) ?_
  refine e_Ok.if1 rfl (fun h2 => ?_) (fun h2 => ?_)
  · replace h2 : (w 80 i : Int) = 0 := h2
    refine e_Ok.run (t' := (13, [(0, (1, 74)), (1, (0, i))], [(0, i), (1, 74)], w)) 2 rfl ?_
    refine e_Ok.callV rfl (by omega) rfl rfl rfl rfl (c_29 hT (by omega)) (fun r3 w4 h5 => ?_)
    obtain ⟨z7, rfl, rfl, q6r⟩ := h5
    show e_Ok 20 elay kcode eI (d + 1) 30 (16, [(0, (1, 74)), (1, (0, i))], [(0, z7)], w) _
    have hJ10 : ∀ m9 : Int, 0 ≤ m9 ∧ m9 ≤ 1 → e_Ok 20 elay kcode eI (d + 1) 30 (24, [(0, (1, 74)), (1, (0, i))], [(0, m9)], w) (fun r w' => ∃ z : Int, r = [(0, z)] ∧ w = w' ∧ (0 ≤ z ∧ z ≤ 2)) := by
      intro m9 m9r
      refine e_Ok.rets rfl rfl ?_
      exact ⟨_, rfl, rfl, ⟨by omega, by omega⟩⟩
    refine e_Ok.if1 rfl (fun h8 => ?_) (fun h8 => ?_)
    · exact e_Ok.run 1 rfl (hJ10 0 (by omega))
    · exact e_Ok.run 2 rfl (hJ10 1 (by omega))
  · replace h2 : (w 80 i : Int) ≠ 0 := by have q : ¬ ((w 80 i : Int) = 0) := h2; omega
    refine e_Ok.run (t' := (10, [(0, (1, 74)), (1, (0, i))], [(0, 2)], w)) 1 rfl ?_
    refine e_Ok.rets rfl rfl ?_
    exact ⟨_, rfl, rfl, ⟨by omega, by omega⟩⟩
theorem c_31 {d : Nat} {w : eW} (hT : e_Has kTy w) : e_Ok 20 elay kcode eI d 31 (0, [(0, (1, 74))], [], w) (fun r w' => ∃ z : Int, r = [(0, z)] ∧ w = w' ∧ (0 ≤ z ∧ z ≤ 1)) := by
  refine e_Ok.run (t' := (2, [(1, (0, 0)), (0, (1, 74))], [], w)) 2 rfl ?_
  have hL1 : ∀ (nn : Nat) (y1 : Int), 0 ≤ y1 ∧ y1 ≤ 8 → 8 - y1 < nn → e_Ok 20 elay kcode eI d 31 (2, [(0, (1, 74)), (1, (0, y1))], [], w) (fun r w' => ∃ z : Int, r = [(0, z)] ∧ w = w' ∧ (0 ≤ z ∧ z ≤ 1)) := by
    intro nn
    induction nn with
    | zero => intro y1 hj hm; obtain j3 := hj; exfalso; omega
    | succ nn ih2 =>
      intro y1 hj hm
      obtain j3 := hj
      refine e_Ok.run (t' := (4, [(0, (1, 74)), (1, (0, y1))], [(1, 74), (0, y1)], w)) 2 rfl ?_
      have h4 := (e_Has.get hT (c := 74) (k := 2) (lo := 0) (hi := 8) rfl (by decide))
      refine e_Ok.getf (z := w 74 2) rfl (el_o rfl) rfl rfl rfl (by omega) ?_
      refine e_Ok.if2 rfl (fun h5 => ?_) (fun h5 => ?_)
      · replace h5 : (y1 : Int) ≥ w 74 2 := h5
        refine e_Ok.run (t' := (37, [(0, (1, 74)), (1, (0, y1))], [(0, 1)], w)) 1 rfl ?_
        refine e_Ok.rets rfl rfl ?_
        exact ⟨_, rfl, rfl, ⟨by omega, by omega⟩⟩
      · replace h5 : (y1 : Int) < w 74 2 := by have q : ¬ ((y1 : Int) ≥ w 74 2) := h5; omega
        refine e_Ok.run (t' := (11, [(0, (1, 74)), (1, (0, y1))], [(1, 74)], w)) 1 rfl ?_
        refine e_Ok.getr (z := 78) rfl (el_o rfl) rfl rfl (Eq.trans (e_Has.eq hT rfl) (by omega)) (by omega) ?_
        refine e_Ok.run (t' := (15, [(0, (1, 74)), (1, (0, y1))], [(0, y1), (1, 78)], w)) 1 rfl ?_
        have h6 := (e_Has.get hT (c := 78) (k := y1) (lo := 0) (hi := 1) rfl (by decide))
        refine e_Ok.ald (z := w 78 y1) rfl (el_o rfl) rfl (by omega) rfl (by omega) ?_
        refine e_Ok.if1 rfl (fun h7 => ?_) (fun h7 => ?_)
        · replace h7 : (w 78 y1 : Int) = 0 := h7
          refine e_Ok.run (t' := (29, [(0, (1, 74)), (1, (0, y1))], [(0, 0)], w)) 1 rfl ?_
          refine e_Ok.rets rfl rfl ?_
          exact ⟨_, rfl, rfl, ⟨by omega, by omega⟩⟩
        · replace h7 : (w 78 y1 : Int) ≠ 0 := by have q : ¬ ((w 78 y1 : Int) = 0) := h7; omega
          refine e_Ok.run (t' := (20, [(0, (1, 74)), (1, (0, y1))], [(1, 74)], w)) 1 rfl ?_
          refine e_Ok.getr (z := 79) rfl (el_o rfl) rfl rfl (Eq.trans (e_Has.eq hT rfl) (by omega)) (by omega) ?_
          refine e_Ok.run (t' := (24, [(0, (1, 74)), (1, (0, y1))], [(0, y1), (1, 79)], w)) 1 rfl ?_
          have h8 := (e_Has.get hT (c := 79) (k := y1) (lo := 0) (hi := 1) rfl (by decide))
          refine e_Ok.ald (z := w 79 y1) rfl (el_o rfl) rfl (by omega) rfl (by omega) ?_
          refine e_Ok.if1 rfl (fun h9 => ?_) (fun h9 => ?_)
          · replace h9 : (w 79 y1 : Int) ≠ 0 := h9
            refine e_Ok.inc (z := y1 + 1) rfl rfl (by omega) (by omega) ?_
            show e_Ok 20 elay kcode eI d 31 (33, [(1, (0, y1 + 1)), (0, (1, 74))], [], w) _
            refine e_Ok.run (t' := (2, [(1, (0, y1 + 1)), (0, (1, 74))], [], w)) 1 rfl ?_
            refine e_Ok.sub kAlk (e_sub_of rfl ?_) (ih2 (y1 + 1) (by omega) (by omega))
            exact ⟨rfl, rfl, trivial⟩
          · replace h9 : (w 79 y1 : Int) = 0 := by have q : ¬ ((w 79 y1 : Int) ≠ 0) := h9; omega
            refine e_Ok.run (t' := (29, [(0, (1, 74)), (1, (0, y1))], [(0, 0)], w)) 1 rfl ?_
            refine e_Ok.rets rfl rfl ?_
            exact ⟨_, rfl, rfl, ⟨by omega, by omega⟩⟩
  refine e_Ok.sub kAlk (e_sub_of rfl ?_) (hL1 (8 + 1 : Int).toNat 0 (by omega) (by omega))
  exact ⟨rfl, rfl, trivial⟩
theorem c_28 {d : Nat} {w : eW} (hT : e_Has kTy w) {i u v : Int} (g_i : 0 ≤ i ∧ i ≤ 7) (g_u : 0 ≤ u ∧ u ≤ 1) (g_v : 0 ≤ v ∧ v ≤ 1) : e_Ok 20 elay kcode eI d 28 (0, [(0, (1, 74)), (1, (0, i)), (2, (0, u)), (3, (0, v))], [], w) (fun r w' => ∃ z : Int, r = [(0, z)] ∧ e_fr kCh w w' ∧ e_Has kTy w' ∧ (0 ≤ z ∧ z ≤ 0)) := by
  refine e_Ok.run (t' := (1, [(0, (1, 74)), (1, (0, i)), (2, (0, u)), (3, (0, v))], [(1, 74)], w)) 1 rfl ?_
  refine e_Ok.getr (z := 78) rfl (el_o rfl) rfl rfl (Eq.trans (e_Has.eq hT rfl) (by omega)) (by omega) ?_
  refine e_Ok.run (t' := (6, [(0, (1, 74)), (1, (0, i)), (2, (0, u)), (3, (0, v))], [(0, u), (0, i), (1, 78)], w)) 2 rfl ?_
  refine e_Ok.ast rfl (el_o rfl) rfl (e_nar_b (by omega)) (by omega) ?_
  generalize hw1 : e_up w 78 i u = w1
  have f2 : e_fr kCh w w1 := e_fr.up (e_fr.refl w) hw1 (by unfold kCh; omega)
  have hT3 : e_Has kTy w1 := e_Has.upr hT hw1 rfl (by omega)
  refine e_Ok.run (t' := (8, [(0, (1, 74)), (1, (0, i)), (2, (0, u)), (3, (0, v))], [(1, 74)], w1)) 1 rfl ?_
  refine e_Ok.getr (z := 79) rfl (el_o rfl) rfl rfl (by rw [← hw1]; exact (e_up_ne _ _ (Or.inl (by omega))).trans (Eq.trans (e_Has.eq hT rfl) (by omega))) (by omega) ?_
  refine e_Ok.run (t' := (13, [(0, (1, 74)), (1, (0, i)), (2, (0, u)), (3, (0, v))], [(0, v), (0, i), (1, 79)], w1)) 2 rfl ?_
  refine e_Ok.ast rfl (el_o rfl) rfl (e_nar_b (by omega)) (by omega) ?_
  generalize hw4 : e_up w1 79 i v = w4
  have f5 : e_fr kCh w w4 := e_fr.up f2 hw4 (by unfold kCh; omega)
  have hT6 : e_Has kTy w4 := e_Has.upr hT3 hw4 rfl (by omega)
  refine e_Ok.run (t' := (15, [(0, (1, 74)), (1, (0, i)), (2, (0, u)), (3, (0, v))], [(0, 0)], w4)) 1 rfl ?_
  refine e_Ok.rets rfl rfl ?_
  exact ⟨_, rfl, f5, hT6, ⟨by omega, by omega⟩⟩
theorem c_32 {d : Nat} (hd : 21 ≤ d) {w : eW} (hT : e_Has kTy w) : e_Ok 20 elay kcode eI d 32 (0, [(0, (1, 74))], [], w) (fun r w' => ∃ z : Int, r = [(0, z)] ∧ e_fr kCi w w' ∧ e_Has kTy w' ∧ ((-1) ≤ z ∧ z ≤ 7)) := by
  obtain ⟨d, rfl⟩ : ∃ e, d = e + 1 := ⟨d - 1, by omega⟩
  refine e_Ok.run (t' := (3, [(1, (0, (-1))), (0, (1, 74))], [(1, 74)], w)) 3 rfl ?_
  have h1 := (e_Has.get hT (c := 74) (k := 2) (lo := 0) (hi := 8) rfl (by decide))
  refine e_Ok.getf (z := w 74 2) rfl (el_o rfl) rfl rfl rfl (by omega) ?_
  refine e_Ok.run (t' := (7, [(1, (0, (-1))), (0, (1, 74))], [(0, 1), (0, w 74 2)], w)) 1 rfl ?_
  refine e_Ok.sub' (z := w 74 2 - 1) rfl (by omega) (by omega) ?_
  refine e_Ok.run (t' := (9, [(2, (0, w 74 2 - 1)), (1, (0, (-1))), (0, (1, 74))], [], w)) 1 rfl ?_
  have hL2 : ∀ (nn : Nat) (y1 : Int) (y2 : Int) (v1 : eW), e_fr kCi w v1 ∧ e_Has kTy v1 ∧ ((-1) ≤ y1 ∧ y1 ≤ 7) ∧ ((-1) ≤ y2 ∧ y2 ≤ 7) → y2 + 1 < nn → e_Ok 20 elay kcode eI (d + 1) 32 (9, [(0, (1, 74)), (1, (0, y1)), (2, (0, y2))], [], v1) (fun r w' => ∃ z : Int, r = [(0, z)] ∧ e_fr kCi w w' ∧ e_Has kTy w' ∧ ((-1) ≤ z ∧ z ≤ 7)) := by
    intro nn
    induction nn with
    | zero => intro y1 y2 v1 hj hm; obtain ⟨j4, j5, j6, j7⟩ := hj; exfalso; omega
    | succ nn ih3 =>
      intro y1 y2 v1 hj hm
      obtain ⟨j4, j5, j6, j7⟩ := hj
      refine e_Ok.run (t' := (10, [(0, (1, 74)), (1, (0, y1)), (2, (0, y2))], [(0, y2)], v1)) 1 rfl ?_
      refine e_Ok.if1 rfl (fun h8 => ?_) (fun h8 => ?_)
      · replace h8 : (y2 : Int) < 0 := h8
        refine e_Ok.run (t' := (85, [(0, (1, 74)), (1, (0, y1)), (2, (0, y2))], [(0, y1)], v1)) 1 rfl ?_
        refine e_Ok.rets rfl rfl ?_
        exact ⟨_, rfl, j4, j5, ⟨by omega, by omega⟩⟩
      · replace h8 : (y2 : Int) ≥ 0 := by have q : ¬ ((y2 : Int) < 0) := h8; omega
        refine e_Ok.run (t' := (14, [(0, (1, 74)), (1, (0, y1)), (2, (0, y2))], [(1, 74)], v1)) 1 rfl ?_
        refine e_Ok.getr (z := 81) rfl (el_o rfl) rfl rfl ((j4 74 14 (by unfold kCi; omega)).trans (Eq.trans (e_Has.eq hT rfl) (by omega))) (by omega) ?_
        refine e_Ok.run (t' := (19, [(0, (1, 74)), (1, (0, y1)), (2, (0, y2))], [(1, 74), (0, y2), (1, 81)], v1)) 2 rfl ?_
        refine e_Ok.getr (z := 78) rfl (el_o rfl) rfl rfl ((j4 74 11 (by unfold kCi; omega)).trans (Eq.trans (e_Has.eq hT rfl) (by omega))) (by omega) ?_
        refine e_Ok.run (t' := (23, [(0, (1, 74)), (1, (0, y1)), (2, (0, y2))], [(0, y2), (1, 78), (0, y2), (1, 81)], v1)) 1 rfl ?_
        have h9 := (e_Has.get hT (c := 78) (k := y2) (lo := 0) (hi := 1) rfl (by decide))
        refine e_Ok.ald (z := w 78 y2) rfl (el_o rfl) rfl (by omega) ((j4 78 y2 (by unfold kCi; omega)).trans rfl) (by omega) ?_
        refine e_Ok.run (t' := (25, [(0, (1, 74)), (1, (0, y1)), (2, (0, y2))], [(1, 74), (0, w 78 y2), (0, y2), (1, 81)], v1)) 1 rfl ?_
        refine e_Ok.getr (z := 79) rfl (el_o rfl) rfl rfl ((j4 74 12 (by unfold kCi; omega)).trans (Eq.trans (e_Has.eq hT rfl) (by omega))) (by omega) ?_
        refine e_Ok.run (t' := (29, [(0, (1, 74)), (1, (0, y1)), (2, (0, y2))], [(0, y2), (1, 79), (0, w 78 y2), (0, y2), (1, 81)], v1)) 1 rfl ?_
        have h10 := (e_Has.get hT (c := 79) (k := y2) (lo := 0) (hi := 1) rfl (by decide))
        refine e_Ok.ald (z := w 79 y2) rfl (el_o rfl) rfl (by omega) ((j4 79 y2 (by unfold kCi; omega)).trans rfl) (by omega) ?_
        refine e_Ok.if2 rfl (fun h11 => ?_) (fun h11 => ?_)
        · replace h11 : (w 78 y2 : Int) ≠ w 79 y2 := h11
          refine e_Ok.run (t' := (38, [(0, (1, 74)), (1, (0, y1)), (2, (0, y2))], [(1, 74), (0, y2), (1, 81)], v1)) 1 rfl ?_
          refine e_Ok.getr (z := 81) rfl (el_o rfl) rfl rfl ((j4 74 14 (by unfold kCi; omega)).trans (Eq.trans (e_Has.eq hT rfl) (by omega))) (by omega) ?_
          refine e_Ok.run (t' := (42, [(0, (1, 74)), (1, (0, y1)), (2, (0, y2))], [(0, y2), (1, 81), (0, y2), (1, 81)], v1)) 1 rfl ?_
          have h12 := (e_Has.get j5 (c := 81) (k := y2) (lo := (-2147483648)) (hi := 2147483647) rfl (by decide))
          refine e_Ok.ald (z := v1 81 y2) rfl (el_o rfl) rfl (by omega) rfl (by omega) ?_
          refine e_Ok.run (t' := (44, [(0, (1, 74)), (1, (0, y1)), (2, (0, y2))], [(0, 1), (0, v1 81 y2), (0, y2), (1, 81)], v1)) 1 rfl ?_
          refine e_Ok.any rfl (eF_add_any _ _) (fun z13 z13a z13b => ?_)
          refine e_Ok.ast rfl (el_o rfl) rfl rfl (by omega) ?_
          generalize hw14 : e_up v1 81 y2 z13 = w14
          have f15 : e_fr kCi w w14 := e_fr.up j4 hw14 (by unfold kCi; omega)
          have hT16 : e_Has kTy w14 := e_Has.upr j5 hw14 rfl (by omega)
          refine e_Ok.run (t' := (47, [(0, (1, 74)), (1, (0, y1)), (2, (0, y2))], [(1, 74)], w14)) 1 rfl ?_
          refine e_Ok.getr (z := 81) rfl (el_o rfl) rfl rfl (by rw [← hw14]; exact (e_up_ne _ _ (Or.inl (by omega))).trans ((j4 74 14 (by unfold kCi; omega)).trans (Eq.trans (e_Has.eq hT rfl) (by omega)))) (by omega) ?_
          refine e_Ok.run (t' := (51, [(0, (1, 74)), (1, (0, y1)), (2, (0, y2))], [(0, y2), (1, 81)], w14)) 1 rfl ?_
          refine e_Ok.ald (z := z13) rfl (el_o rfl) rfl (by omega) (by rw [← hw14]; exact e_up_eq _ _ _ _) (by omega) ?_
          refine e_Ok.run (t' := (53, [(0, (1, 74)), (1, (0, y1)), (2, (0, y2))], [(1, 74), (0, z13)], w14)) 1 rfl ?_
          refine e_Ok.getr (z := 76) rfl (el_o rfl) rfl rfl (by rw [← hw14]; exact (e_up_ne _ _ (Or.inl (by omega))).trans ((j4 74 9 (by unfold kCi; omega)).trans (Eq.trans (e_Has.eq hT rfl) (by omega)))) (by omega) ?_
          refine e_Ok.run (t' := (57, [(0, (1, 74)), (1, (0, y1)), (2, (0, y2))], [(0, y2), (1, 76), (0, z13)], w14)) 1 rfl ?_
          have h17 := (e_Has.get hT (c := 76) (k := y2) (lo := (-2147483648)) (hi := 2147483647) rfl (by decide))
          refine e_Ok.ald (z := w 76 y2) rfl (el_o rfl) rfl (by omega) (by rw [← hw14]; exact (e_up_ne _ _ (Or.inl (by omega))).trans ((j4 76 y2 (by unfold kCi; omega)).trans rfl)) (by omega) ?_
          refine e_Ok.if2 rfl (fun h18 => ?_) (fun h18 => ?_)
          · replace h18 : (z13 : Int) ≤ w 76 y2 := h18
            refine e_Ok.run (t' := (70, [(0, (1, 74)), (1, (0, y1)), (2, (0, y2))], [(0, y2), (1, 74)], w14)) 2 rfl ?_
            refine e_Ok.callV rfl (by omega) rfl rfl rfl rfl (c_29 hT16 (by omega)) (fun r19 w20 h21 => ?_)
            obtain ⟨z23, rfl, rfl, q22r⟩ := h21
            show e_Ok 20 elay kcode eI (d + 1) 32 (73, [(0, (1, 74)), (1, (0, y1)), (2, (0, y2))], [(0, z23)], w14) _
            refine e_Ok.if1 rfl (fun h24 => ?_) (fun h24 => ?_)
            · replace h24 : (z23 : Int) ≠ 0 := h24
              refine e_Ok.inc (z := y2 - 1) rfl rfl (by omega) (by omega) ?_
              show e_Ok 20 elay kcode eI (d + 1) 32 (81, [(2, (0, y2 - 1)), (0, (1, 74)), (1, (0, y1))], [], w14) _
              refine e_Ok.run (t' := (9, [(2, (0, y2 - 1)), (0, (1, 74)), (1, (0, y1))], [], w14)) 1 rfl ?_
              refine e_Ok.sub kAlk (e_sub_of rfl ?_) (ih3 y1 (y2 - 1) w14 ⟨f15, hT16, by omega, by omega⟩ (by omega))
              exact ⟨rfl, rfl, rfl, trivial⟩
            · replace h24 : (z23 : Int) = 0 := by have q : ¬ ((z23 : Int) ≠ 0) := h24; omega
              refine e_Ok.run (t' := (78, [(1, (0, y2)), (0, (1, 74)), (2, (0, y2))], [], w14)) 2 rfl ?_
              refine e_Ok.inc (z := y2 - 1) rfl rfl (by omega) (by omega) ?_
              show e_Ok 20 elay kcode eI (d + 1) 32 (81, [(2, (0, y2 - 1)), (1, (0, y2)), (0, (1, 74))], [], w14) _
              refine e_Ok.run (t' := (9, [(2, (0, y2 - 1)), (1, (0, y2)), (0, (1, 74))], [], w14)) 1 rfl ?_
              refine e_Ok.sub kAlk (e_sub_of rfl ?_) (ih3 y2 (y2 - 1) w14 ⟨f15, hT16, by omega, by omega⟩ (by omega))
              exact ⟨rfl, rfl, rfl, trivial⟩
          · replace h18 : (z13 : Int) > w 76 y2 := by have q : ¬ ((z13 : Int) ≤ w 76 y2) := h18; omega
            refine e_Ok.run (t' := (62, [(0, (1, 74)), (1, (0, y1)), (2, (0, y2))], [(1, 74)], w14)) 1 rfl ?_
            refine e_Ok.getr (z := 80) rfl (el_o rfl) rfl rfl (by rw [← hw14]; exact (e_up_ne _ _ (Or.inl (by omega))).trans ((j4 74 13 (by unfold kCi; omega)).trans (Eq.trans (e_Has.eq hT rfl) (by omega)))) (by omega) ?_
            refine e_Ok.run (t' := (67, [(0, (1, 74)), (1, (0, y1)), (2, (0, y2))], [(0, 1), (0, y2), (1, 80)], w14)) 2 rfl ?_
            refine e_Ok.ast rfl (el_o rfl) rfl (e_nar_b (by omega)) (by omega) ?_
            generalize hw25 : e_up w14 80 y2 1 = w25
            have f26 : e_fr kCi w w25 := e_fr.up f15 hw25 (by unfold kCi; omega)
            have hT27 : e_Has kTy w25 := e_Has.upr hT16 hw25 rfl (by omega)
            refine e_Ok.run (t' := (70, [(0, (1, 74)), (1, (0, y1)), (2, (0, y2))], [(0, y2), (1, 74)], w25)) 2 rfl ?_
            refine e_Ok.callV rfl (by omega) rfl rfl rfl rfl (c_29 hT27 (by omega)) (fun r28 w29 h30 => ?_)
            obtain ⟨z32, rfl, rfl, q31r⟩ := h30
            show e_Ok 20 elay kcode eI (d + 1) 32 (73, [(0, (1, 74)), (1, (0, y1)), (2, (0, y2))], [(0, z32)], w25) _
            refine e_Ok.if1 rfl (fun h33 => ?_) (fun h33 => ?_)
            · replace h33 : (z32 : Int) ≠ 0 := h33
              refine e_Ok.inc (z := y2 - 1) rfl rfl (by omega) (by omega) ?_
              show e_Ok 20 elay kcode eI (d + 1) 32 (81, [(2, (0, y2 - 1)), (0, (1, 74)), (1, (0, y1))], [], w25) _
              refine e_Ok.run (t' := (9, [(2, (0, y2 - 1)), (0, (1, 74)), (1, (0, y1))], [], w25)) 1 rfl ?_
              refine e_Ok.sub kAlk (e_sub_of rfl ?_) (ih3 y1 (y2 - 1) w25 ⟨f26, hT27, by omega, by omega⟩ (by omega))
              exact ⟨rfl, rfl, rfl, trivial⟩
            · replace h33 : (z32 : Int) = 0 := by have q : ¬ ((z32 : Int) ≠ 0) := h33; omega
              refine e_Ok.run (t' := (78, [(1, (0, y2)), (0, (1, 74)), (2, (0, y2))], [], w25)) 2 rfl ?_
              refine e_Ok.inc (z := y2 - 1) rfl rfl (by omega) (by omega) ?_
              show e_Ok 20 elay kcode eI (d + 1) 32 (81, [(2, (0, y2 - 1)), (1, (0, y2)), (0, (1, 74))], [], w25) _
              refine e_Ok.run (t' := (9, [(2, (0, y2 - 1)), (1, (0, y2)), (0, (1, 74))], [], w25)) 1 rfl ?_
              refine e_Ok.sub kAlk (e_sub_of rfl ?_) (ih3 y2 (y2 - 1) w25 ⟨f26, hT27, by omega, by omega⟩ (by omega))
              exact ⟨rfl, rfl, rfl, trivial⟩
        · replace h11 : (w 78 y2 : Int) = w 79 y2 := by have q : ¬ ((w 78 y2 : Int) ≠ w 79 y2) := h11; omega
          refine e_Ok.run (t' := (45, [(0, (1, 74)), (1, (0, y1)), (2, (0, y2))], [(0, 0), (0, y2), (1, 81)], v1)) 2 rfl ?_
          refine e_Ok.ast rfl (el_o rfl) rfl rfl (by omega) ?_
          generalize hw34 : e_up v1 81 y2 0 = w34
          have f35 : e_fr kCi w w34 := e_fr.up j4 hw34 (by unfold kCi; omega)
          have hT36 : e_Has kTy w34 := e_Has.upr j5 hw34 rfl (by omega)
          refine e_Ok.run (t' := (47, [(0, (1, 74)), (1, (0, y1)), (2, (0, y2))], [(1, 74)], w34)) 1 rfl ?_
          refine e_Ok.getr (z := 81) rfl (el_o rfl) rfl rfl (by rw [← hw34]; exact (e_up_ne _ _ (Or.inl (by omega))).trans ((j4 74 14 (by unfold kCi; omega)).trans (Eq.trans (e_Has.eq hT rfl) (by omega)))) (by omega) ?_
          refine e_Ok.run (t' := (51, [(0, (1, 74)), (1, (0, y1)), (2, (0, y2))], [(0, y2), (1, 81)], w34)) 1 rfl ?_
          refine e_Ok.ald (z := 0) rfl (el_o rfl) rfl (by omega) (by rw [← hw34]; exact e_up_eq _ _ _ _) (by omega) ?_
          refine e_Ok.run (t' := (53, [(0, (1, 74)), (1, (0, y1)), (2, (0, y2))], [(1, 74), (0, 0)], w34)) 1 rfl ?_
          refine e_Ok.getr (z := 76) rfl (el_o rfl) rfl rfl (by rw [← hw34]; exact (e_up_ne _ _ (Or.inl (by omega))).trans ((j4 74 9 (by unfold kCi; omega)).trans (Eq.trans (e_Has.eq hT rfl) (by omega)))) (by omega) ?_
          refine e_Ok.run (t' := (57, [(0, (1, 74)), (1, (0, y1)), (2, (0, y2))], [(0, y2), (1, 76), (0, 0)], w34)) 1 rfl ?_
          have h37 := (e_Has.get hT (c := 76) (k := y2) (lo := (-2147483648)) (hi := 2147483647) rfl (by decide))
          refine e_Ok.ald (z := w 76 y2) rfl (el_o rfl) rfl (by omega) (by rw [← hw34]; exact (e_up_ne _ _ (Or.inl (by omega))).trans ((j4 76 y2 (by unfold kCi; omega)).trans rfl)) (by omega) ?_
          refine e_Ok.if2 rfl (fun h38 => ?_) (fun h38 => ?_)
          · replace h38 : (0 : Int) ≤ w 76 y2 := h38
            refine e_Ok.run (t' := (70, [(0, (1, 74)), (1, (0, y1)), (2, (0, y2))], [(0, y2), (1, 74)], w34)) 2 rfl ?_
            refine e_Ok.callV rfl (by omega) rfl rfl rfl rfl (c_29 hT36 (by omega)) (fun r40 w41 h42 => ?_)
            obtain ⟨z44, rfl, rfl, q43r⟩ := h42
            show e_Ok 20 elay kcode eI (d + 1) 32 (73, [(0, (1, 74)), (1, (0, y1)), (2, (0, y2))], [(0, z44)], w34) _
            refine e_Ok.if1 rfl (fun h45 => ?_) (fun h45 => ?_)
            · replace h45 : (z44 : Int) ≠ 0 := h45
              refine e_Ok.inc (z := y2 - 1) rfl rfl (by omega) (by omega) ?_
              show e_Ok 20 elay kcode eI (d + 1) 32 (81, [(2, (0, y2 - 1)), (0, (1, 74)), (1, (0, y1))], [], w34) _
              refine e_Ok.run (t' := (9, [(2, (0, y2 - 1)), (0, (1, 74)), (1, (0, y1))], [], w34)) 1 rfl ?_
              refine e_Ok.sub kAlk (e_sub_of rfl ?_) (ih3 y1 (y2 - 1) w34 ⟨f35, hT36, by omega, by omega⟩ (by omega))
              exact ⟨rfl, rfl, rfl, trivial⟩
            · replace h45 : (z44 : Int) = 0 := by have q : ¬ ((z44 : Int) ≠ 0) := h45; omega
              refine e_Ok.run (t' := (78, [(1, (0, y2)), (0, (1, 74)), (2, (0, y2))], [], w34)) 2 rfl ?_
              refine e_Ok.inc (z := y2 - 1) rfl rfl (by omega) (by omega) ?_
              show e_Ok 20 elay kcode eI (d + 1) 32 (81, [(2, (0, y2 - 1)), (1, (0, y2)), (0, (1, 74))], [], w34) _
              refine e_Ok.run (t' := (9, [(2, (0, y2 - 1)), (1, (0, y2)), (0, (1, 74))], [], w34)) 1 rfl ?_
              refine e_Ok.sub kAlk (e_sub_of rfl ?_) (ih3 y2 (y2 - 1) w34 ⟨f35, hT36, by omega, by omega⟩ (by omega))
              exact ⟨rfl, rfl, rfl, trivial⟩
          · replace h38 : (0 : Int) > w 76 y2 := by have q : ¬ ((0 : Int) ≤ w 76 y2) := h38; omega
            refine e_Ok.run (t' := (62, [(0, (1, 74)), (1, (0, y1)), (2, (0, y2))], [(1, 74)], w34)) 1 rfl ?_
            refine e_Ok.getr (z := 80) rfl (el_o rfl) rfl rfl (by rw [← hw34]; exact (e_up_ne _ _ (Or.inl (by omega))).trans ((j4 74 13 (by unfold kCi; omega)).trans (Eq.trans (e_Has.eq hT rfl) (by omega)))) (by omega) ?_
            refine e_Ok.run (t' := (67, [(0, (1, 74)), (1, (0, y1)), (2, (0, y2))], [(0, 1), (0, y2), (1, 80)], w34)) 2 rfl ?_
            refine e_Ok.ast rfl (el_o rfl) rfl (e_nar_b (by omega)) (by omega) ?_
            generalize hw46 : e_up w34 80 y2 1 = w46
            have f47 : e_fr kCi w w46 := e_fr.up f35 hw46 (by unfold kCi; omega)
            have hT48 : e_Has kTy w46 := e_Has.upr hT36 hw46 rfl (by omega)
            refine e_Ok.run (t' := (70, [(0, (1, 74)), (1, (0, y1)), (2, (0, y2))], [(0, y2), (1, 74)], w46)) 2 rfl ?_
            refine e_Ok.callV rfl (by omega) rfl rfl rfl rfl (c_29 hT48 (by omega)) (fun r49 w50 h51 => ?_)
            obtain ⟨z53, rfl, rfl, q52r⟩ := h51
            show e_Ok 20 elay kcode eI (d + 1) 32 (73, [(0, (1, 74)), (1, (0, y1)), (2, (0, y2))], [(0, z53)], w46) _
            refine e_Ok.if1 rfl (fun h54 => ?_) (fun h54 => ?_)
            · replace h54 : (z53 : Int) ≠ 0 := h54
              refine e_Ok.inc (z := y2 - 1) rfl rfl (by omega) (by omega) ?_
              show e_Ok 20 elay kcode eI (d + 1) 32 (81, [(2, (0, y2 - 1)), (0, (1, 74)), (1, (0, y1))], [], w46) _
              refine e_Ok.run (t' := (9, [(2, (0, y2 - 1)), (0, (1, 74)), (1, (0, y1))], [], w46)) 1 rfl ?_
              refine e_Ok.sub kAlk (e_sub_of rfl ?_) (ih3 y1 (y2 - 1) w46 ⟨f47, hT48, by omega, by omega⟩ (by omega))
              exact ⟨rfl, rfl, rfl, trivial⟩
            · replace h54 : (z53 : Int) = 0 := by have q : ¬ ((z53 : Int) ≠ 0) := h54; omega
              refine e_Ok.run (t' := (78, [(1, (0, y2)), (0, (1, 74)), (2, (0, y2))], [], w46)) 2 rfl ?_
              refine e_Ok.inc (z := y2 - 1) rfl rfl (by omega) (by omega) ?_
              show e_Ok 20 elay kcode eI (d + 1) 32 (81, [(2, (0, y2 - 1)), (1, (0, y2)), (0, (1, 74))], [], w46) _
              refine e_Ok.run (t' := (9, [(2, (0, y2 - 1)), (1, (0, y2)), (0, (1, 74))], [], w46)) 1 rfl ?_
              refine e_Ok.sub kAlk (e_sub_of rfl ?_) (ih3 y2 (y2 - 1) w46 ⟨f47, hT48, by omega, by omega⟩ (by omega))
              exact ⟨rfl, rfl, rfl, trivial⟩
  refine e_Ok.sub kAlk (e_sub_of rfl ?_) (hL2 (9 + 1 : Int).toNat (-1) (w 74 2 - 1) w ⟨(e_fr.refl w), hT, by omega, by omega⟩ (by omega))
  exact ⟨rfl, rfl, rfl, trivial⟩
theorem c_34 {d : Nat} (hd : 21 ≤ d) {w : eW} (hT : e_Has kTy w) {e1 e2 : Int} (g_e1 : (-2147483648) ≤ e1 ∧ e1 ≤ 2147483647) (g_e2 : (-2147483648) ≤ e2 ∧ e2 ≤ 2147483647) (he : w 74 1 < 2147483647) : e_Ok 20 elay kcode eI d 34 (0, [(0, (1, 74)), (1, (0, e1)), (2, (0, e2))], [], w) (fun r w' => r = [] ∧ e_fr kCt w w' ∧ e_Has kTy w' ∧ (w' 74 1 = w 74 1 + 1 ∧ (lgK w → lgK w')) ∧ w' 74 3 = 0) := by
  obtain ⟨d, rfl⟩ : ∃ e, d = e + 1 := ⟨d - 1, by omega⟩
  have h74 := e_Has.get hT (c := 74) (k := 1) (lo := 0) (hi := 2147483647) rfl (by decide)
  refine e_Ok.run (t' := (2, [(0, (1, 74)), (1, (0, e1)), (2, (0, e2))], [(0, 0), (1, 74)], w)) 2 rfl ?_
  refine e_Ok.putb rfl (el_o rfl) rfl rfl (by omega) ?_
  generalize hw1 : e_up w 74 3 0 = w1
  have f2 : e_fr kCt w w1 := e_fr.up (e_fr.refl w) hw1 (by unfold kCt; omega)
  have hT3 : e_Has kTy w1 := e_Has.upr hT hw1 rfl (by omega)
  refine e_Ok.run (t' := (7, [(0, (1, 74)), (1, (0, e1)), (2, (0, e2))], [(0, e1), (1, 74)], w1)) 2 rfl ?_
  refine e_Ok.putf rfl (el_o rfl) rfl rfl ?_
  generalize hw4 : e_up w1 74 4 e1 = w4
  have f5 : e_fr kCt w w4 := e_fr.up f2 hw4 (by unfold kCt; omega)
  have hT6 : e_Has kTy w4 := e_Has.upr hT3 hw4 rfl (by omega)
  refine e_Ok.run (t' := (12, [(0, (1, 74)), (1, (0, e1)), (2, (0, e2))], [(0, e2), (1, 74)], w4)) 2 rfl ?_
  refine e_Ok.putf rfl (el_o rfl) rfl rfl ?_
  generalize hw7 : e_up w4 74 5 e2 = w7
  have f8 : e_fr kCt w w7 := e_fr.up f5 hw7 (by unfold kCt; omega)
  have hT9 : e_Has kTy w7 := e_Has.upr hT6 hw7 rfl (by omega)
  refine e_Ok.run (t' := (17, [(0, (1, 74)), (1, (0, e1)), (2, (0, e2))], [(1, 74), (1, 74)], w7)) 2 rfl ?_
  have h10 := (e_Has.get hT (c := 74) (k := 0) (lo := 0) (hi := 6000) rfl (by decide))
  refine e_Ok.getf (z := w 74 0) rfl (el_o rfl) rfl rfl (by rw [← hw7]; exact (e_up_ne _ _ (Or.inr (by omega))).trans (by rw [← hw4]; exact (e_up_ne _ _ (Or.inr (by omega))).trans (by rw [← hw1]; exact (e_up_ne _ _ (Or.inr (by omega))).trans rfl))) (by omega) ?_
  refine e_Ok.putf rfl (el_o rfl) rfl rfl ?_
  generalize hw11 : e_up w7 74 6 (w 74 0) = w11
  have f12 : e_fr kCt w w11 := e_fr.up f8 hw11 (by unfold kCt; omega)
  have hT13 : e_Has kTy w11 := e_Has.upr hT9 hw11 rfl (by omega)
  refine e_Ok.run (t' := (27, [(0, (1, 74)), (1, (0, e1)), (2, (0, e2))], [(0, e2), (0, e1), (0, 2), (1, 74)], w11)) 4 rfl ?_
  refine e_Ok.callV rfl (by omega) rfl rfl rfl rfl (c_27 hT13 (by omega) (by omega) (by omega) (by rw [(show e_fr kNl w w11 from e_fr.up (show e_fr kNl w w7 from e_fr.up (show e_fr kNl w w4 from e_fr.up (show e_fr kNl w w1 from e_fr.up (show e_fr kNl w w from e_fr.refl w) hw1 (by unfold kNl; omega)) hw4 (by unfold kNl; omega)) hw7 (by unfold kNl; omega)) hw11 (by unfold kNl; omega)) _ _ (by unfold kNl; omega)]; exact he)) (fun r14 w15 h16 => ?_)
  obtain ⟨rfl, q17f, q17T, q17x⟩ := h16
  have f18 : e_fr kCt w w15 := e_fr.trans f12 (e_fr.mono q17f (fun c k q => by unfold kLg at q; unfold kCt; omega))
  show e_Ok 20 elay kcode eI (d + 1) 34 (30, [(0, (1, 74)), (1, (0, e1)), (2, (0, e2))], [], w15) _
  refine e_Ok.rets rfl rfl ?_
  exact ⟨rfl, f18, q17T, ⟨(by rw [q17x.1, (show e_fr kNl w w11 from e_fr.up (show e_fr kNl w w7 from e_fr.up (show e_fr kNl w w4 from e_fr.up (show e_fr kNl w w1 from e_fr.up (show e_fr kNl w w from e_fr.refl w) hw1 (by unfold kNl; omega)) hw4 (by unfold kNl; omega)) hw7 (by unfold kNl; omega)) hw11 (by unfold kNl; omega)) _ _ (by unfold kNl; omega)]), fun hL => q17x.2 (by have f := (show e_fr kNl w w11 from e_fr.up (show e_fr kNl w w7 from e_fr.up (show e_fr kNl w w4 from e_fr.up (show e_fr kNl w w1 from e_fr.up (show e_fr kNl w w from e_fr.refl w) hw1 (by unfold kNl; omega)) hw4 (by unfold kNl; omega)) hw7 (by unfold kNl; omega)) hw11 (by unfold kNl; omega)); exact lgK.ch f hL)⟩, ((q17f 74 3 (by unfold kLg; omega)).trans (by rw [← hw11]; exact (e_up_ne _ _ (Or.inr (by omega))).trans (by rw [← hw7]; exact (e_up_ne _ _ (Or.inr (by omega))).trans (by rw [← hw4]; exact (e_up_ne _ _ (Or.inr (by omega))).trans (by rw [← hw1]; exact e_up_eq _ _ _ _)))))⟩
theorem c_33 {d : Nat} (hd : 21 ≤ d) {w : eW} (hT : e_Has kTy w) {e1 : Int} (g_e1 : (-2147483648) ≤ e1 ∧ e1 ≤ 2147483647) (he : w 74 1 < 2147483647) : e_Ok 20 elay kcode eI d 33 (0, [(0, (1, 74)), (1, (0, e1))], [], w) (fun r w' => ∃ z : Int, r = [(0, z)] ∧ e_fr kPw w w' ∧ e_Has kTy w' ∧ (1 ≤ z ∧ z ≤ 1) ∧ (w' 74 1 = w 74 1 + 1 ∧ (lgK w → lgK w'))) := by
  obtain ⟨d, rfl⟩ : ∃ e, d = e + 1 := ⟨d - 1, by omega⟩
  have h74 := e_Has.get hT (c := 74) (k := 1) (lo := 0) (hi := 2147483647) rfl (by decide)
  refine e_Ok.run (t' := (2, [(2, (0, 0)), (0, (1, 74)), (1, (0, e1))], [], w)) 2 rfl ?_
  have hL1 : ∀ (nn : Nat) (y2 : Int) (v1 : eW), e_fr kPw w v1 ∧ e_Has kTy v1 ∧ e_fr kNl w v1 ∧ (0 ≤ y2 ∧ y2 ≤ 8) → 8 - y2 < nn → e_Ok 20 elay kcode eI (d + 1) 33 (2, [(0, (1, 74)), (1, (0, e1)), (2, (0, y2))], [], v1) (fun r w' => ∃ z : Int, r = [(0, z)] ∧ e_fr kPw w w' ∧ e_Has kTy w' ∧ (1 ≤ z ∧ z ≤ 1) ∧ (w' 74 1 = w 74 1 + 1 ∧ (lgK w → lgK w'))) := by
    intro nn
    induction nn with
    | zero => intro y2 v1 hj hm; obtain ⟨j3, j4, j5, j6⟩ := hj; exfalso; omega
    | succ nn ih2 =>
      intro y2 v1 hj hm
      obtain ⟨j3, j4, j5, j6⟩ := hj
      refine e_Ok.run (t' := (4, [(0, (1, 74)), (1, (0, e1)), (2, (0, y2))], [(1, 74), (0, y2)], v1)) 2 rfl ?_
      have h7 := (e_Has.get hT (c := 74) (k := 2) (lo := 0) (hi := 8) rfl (by decide))
      refine e_Ok.getf (z := w 74 2) rfl (el_o rfl) rfl rfl ((j3 74 2 (by unfold kPw; omega)).trans rfl) (by omega) ?_
      refine e_Ok.if2 rfl (fun h8 => ?_) (fun h8 => ?_)
      · replace h8 : (y2 : Int) ≥ w 74 2 := h8
        refine e_Ok.run (t' := (25, [(0, (1, 74)), (1, (0, e1)), (2, (0, y2))], [(0, 1), (1, 74)], v1)) 2 rfl ?_
        refine e_Ok.putb rfl (el_o rfl) rfl rfl (by omega) ?_
        generalize hw9 : e_up v1 74 3 1 = w9
        have f10 : e_fr kPw w w9 := e_fr.up j3 hw9 (by unfold kPw; omega)
        have hT11 : e_Has kTy w9 := e_Has.upr j4 hw9 rfl (by omega)
        refine e_Ok.run (t' := (32, [(0, (1, 74)), (1, (0, e1)), (2, (0, y2))], [(0, 0), (0, e1), (0, 3), (1, 74)], w9)) 4 rfl ?_
        refine e_Ok.callV rfl (by omega) rfl rfl rfl rfl (c_27 hT11 (by omega) (by omega) (by omega) (by rw [(show e_fr kNl w w9 from e_fr.up j5 hw9 (by unfold kNl; omega)) _ _ (by unfold kNl; omega)]; exact he)) (fun r12 w13 h14 => ?_)
        obtain ⟨rfl, q15f, q15T, q15x⟩ := h14
        have f16 : e_fr kPw w w13 := e_fr.trans f10 (e_fr.mono q15f (fun c k q => by unfold kLg at q; unfold kPw; omega))
        show e_Ok 20 elay kcode eI (d + 1) 33 (35, [(0, (1, 74)), (1, (0, e1)), (2, (0, y2))], [], w13) _
        refine e_Ok.run (t' := (36, [(0, (1, 74)), (1, (0, e1)), (2, (0, y2))], [(0, 1)], w13)) 1 rfl ?_
        refine e_Ok.rets rfl rfl ?_
        exact ⟨_, rfl, f16, q15T, ⟨by omega, by omega⟩, ⟨(by rw [q15x.1, (show e_fr kNl w w9 from e_fr.up j5 hw9 (by unfold kNl; omega)) _ _ (by unfold kNl; omega)]), fun hL => q15x.2 (by have f := (show e_fr kNl w w9 from e_fr.up j5 hw9 (by unfold kNl; omega)); exact lgK.ch f hL)⟩⟩
      · replace h8 : (y2 : Int) < w 74 2 := by have q : ¬ ((y2 : Int) ≥ w 74 2) := h8; omega
        refine e_Ok.run (t' := (11, [(0, (1, 74)), (1, (0, e1)), (2, (0, y2))], [(1, 74)], v1)) 1 rfl ?_
        refine e_Ok.getr (z := 80) rfl (el_o rfl) rfl rfl ((j3 74 13 (by unfold kPw; omega)).trans (Eq.trans (e_Has.eq hT rfl) (by omega))) (by omega) ?_
        refine e_Ok.run (t' := (16, [(0, (1, 74)), (1, (0, e1)), (2, (0, y2))], [(0, 0), (0, y2), (1, 80)], v1)) 2 rfl ?_
        refine e_Ok.ast rfl (el_o rfl) rfl (e_nar_b (by omega)) (by omega) ?_
        generalize hw17 : e_up v1 80 y2 0 = w17
        have f18 : e_fr kPw w w17 := e_fr.up j3 hw17 (by unfold kPw; omega)
        have hT19 : e_Has kTy w17 := e_Has.upr j4 hw17 rfl (by omega)
        refine e_Ok.inc (z := y2 + 1) rfl rfl (by omega) (by omega) ?_
        show e_Ok 20 elay kcode eI (d + 1) 33 (20, [(2, (0, y2 + 1)), (0, (1, 74)), (1, (0, e1))], [], w17) _
        refine e_Ok.run (t' := (2, [(2, (0, y2 + 1)), (0, (1, 74)), (1, (0, e1))], [], w17)) 1 rfl ?_
        refine e_Ok.sub kAlk (e_sub_of rfl ?_) (ih2 (y2 + 1) w17 ⟨f18, hT19, (show e_fr kNl w w17 from e_fr.up j5 hw17 (by unfold kNl; omega)), by omega⟩ (by omega))
        exact ⟨rfl, rfl, rfl, trivial⟩
  refine e_Ok.sub kAlk (e_sub_of rfl ?_) (hL1 (8 + 1 : Int).toNat 0 w ⟨(e_fr.refl w), hT, (e_fr.refl w), by omega⟩ (by omega))
  exact ⟨rfl, rfl, rfl, trivial⟩
theorem c_117 {d : Nat} {w : eW} (hT : e_Has kTy w) {p : Int} (g_p : 0 ≤ p ∧ p ≤ 63) (hp : pF w) : e_Ok 20 elay kcode eI d 117 (0, [(0, (1, 10)), (1, (0, p))], [], w) (fun r w' => ∃ z : Int, r = [(0, z)] ∧ w = w' ∧ ((-2147483648) ≤ z ∧ z ≤ 2147483647) ∧ z = rcv w (w 12) p) := by
  refine e_Ok.run (t' := (1, [(0, (1, 10)), (1, (0, p))], [(1, 10)], w)) 1 rfl ?_
  refine e_Ok.getr (z := 16) rfl (el_o rfl) rfl rfl (Eq.trans (e_Has.eq hT rfl) (by omega)) (by omega) ?_
  refine e_Ok.run (t' := (5, [(0, (1, 10)), (1, (0, p))], [(0, p), (1, 16)], w)) 1 rfl ?_
  have h1 := (e_Has.get hT (c := 16) (k := p) (lo := 0) (hi := 1) rfl (by decide))
  refine e_Ok.ald (z := w 16 p) rfl (el_o rfl) rfl (by omega) rfl (by omega) ?_
  refine e_Ok.if1 rfl (fun h2 => ?_) (fun h2 => ?_)
  · replace h2 : (w 16 p : Int) = 0 := h2
    refine e_Ok.run (t' := (17, [(0, (1, 10)), (1, (0, p))], [(1, 10)], w)) 1 rfl ?_
    refine e_Ok.getr (z := 15) rfl (el_o rfl) rfl rfl (Eq.trans (e_Has.eq hT rfl) (by omega)) (by omega) ?_
    refine e_Ok.run (t' := (21, [(0, (1, 10)), (1, (0, p))], [(0, p), (1, 15)], w)) 1 rfl ?_
    have h3 := (e_Has.get hT (c := 15) (k := p) (lo := (-1)) (hi := 63) rfl (by decide))
    refine e_Ok.ald (z := w 15 p) rfl (el_o rfl) rfl (by omega) rfl (by omega) ?_
    refine e_Ok.if1 rfl (fun h4 => ?_) (fun h4 => ?_)
    · replace h4 : (w 15 p : Int) ≥ 0 := h4
      refine e_Ok.run (t' := (33, [(0, (1, 10)), (1, (0, p))], [(1, 10)], w)) 1 rfl ?_
      refine e_Ok.getr (z := 12) rfl (el_o rfl) rfl rfl (Eq.trans (e_Has.eq hT rfl) (by omega)) (by omega) ?_
      refine e_Ok.run (t' := (37, [(0, (1, 10)), (1, (0, p))], [(1, 10), (1, 12)], w)) 1 rfl ?_
      refine e_Ok.getr (z := 15) rfl (el_o rfl) rfl rfl (Eq.trans (e_Has.eq hT rfl) (by omega)) (by omega) ?_
      refine e_Ok.run (t' := (41, [(0, (1, 10)), (1, (0, p))], [(0, p), (1, 15), (1, 12)], w)) 1 rfl ?_
      refine e_Ok.ald (z := w 15 p) rfl (el_o rfl) rfl (by omega) rfl (by omega) ?_
      have h5 := (e_Has.get hT (c := 12) (k := w 15 p) (lo := (-2147483648)) (hi := 2147483647) rfl (by decide))
      refine e_Ok.ald (z := w 12 (w 15 p)) rfl (el_o rfl) rfl (by omega) rfl (by omega) ?_
      refine e_Ok.run (t' := (45, [(2, (0, w 12 (w 15 p))), (0, (1, 10)), (1, (0, p))], [(1, 10)], w)) 2 rfl ?_
      refine e_Ok.getr (z := 17) rfl (el_o rfl) rfl rfl (Eq.trans (e_Has.eq hT rfl) (by omega)) (by omega) ?_
      refine e_Ok.run (t' := (49, [(2, (0, w 12 (w 15 p))), (0, (1, 10)), (1, (0, p))], [(0, p), (1, 17)], w)) 1 rfl ?_
      have h6 := (e_Has.get hT (c := 17) (k := p) (lo := 0) (hi := 1) rfl (by decide))
      refine e_Ok.ald (z := w 17 p) rfl (el_o rfl) rfl (by omega) rfl (by omega) ?_
      refine e_Ok.if1 rfl (fun h7 => ?_) (fun h7 => ?_)
      · replace h7 : (w 17 p : Int) ≠ 0 := h7
        refine e_Ok.run (t' := (56, [(2, (0, w 12 (w 15 p))), (0, (1, 10)), (1, (0, p))], [(0, w 12 (w 15 p))], w)) 1 rfl ?_
        refine e_Ok.if1 rfl (fun h8 => ?_) (fun h8 => ?_)
        · replace h8 : (w 12 (w 15 p) : Int) ≠ 0 := h8
          refine e_Ok.run (t' := (64, [(2, (0, w 12 (w 15 p))), (0, (1, 10)), (1, (0, p))], [(0, 0)], w)) 1 rfl ?_
          refine e_Ok.rets rfl rfl ?_
          exact ⟨_, rfl, rfl, ⟨by omega, by omega⟩, (by unfold rcv; split <;> (try split) <;> (try split) <;> (try split) <;> omega)⟩
        · replace h8 : (w 12 (w 15 p) : Int) = 0 := by have q : ¬ ((w 12 (w 15 p) : Int) ≠ 0) := h8; omega
          refine e_Ok.run (t' := (64, [(2, (0, w 12 (w 15 p))), (0, (1, 10)), (1, (0, p))], [(0, 1)], w)) 2 rfl ?_
          refine e_Ok.rets rfl rfl ?_
          exact ⟨_, rfl, rfl, ⟨by omega, by omega⟩, (by unfold rcv; split <;> (try split) <;> (try split) <;> (try split) <;> omega)⟩
      · replace h7 : (w 17 p : Int) = 0 := by have q : ¬ ((w 17 p : Int) ≠ 0) := h7; omega
        refine e_Ok.run (t' := (54, [(2, (0, w 12 (w 15 p))), (0, (1, 10)), (1, (0, p))], [(0, w 12 (w 15 p))], w)) 1 rfl ?_
        refine e_Ok.rets rfl rfl ?_
        exact ⟨_, rfl, rfl, ⟨by omega, by omega⟩, (by unfold rcv; split <;> (try split) <;> (try split) <;> (try split) <;> omega)⟩
    · replace h4 : (w 15 p : Int) < 0 := by have q : ¬ ((w 15 p : Int) ≥ 0) := h4; omega
      refine e_Ok.run (t' := (26, [(0, (1, 10)), (1, (0, p))], [(1, 10)], w)) 1 rfl ?_
      refine e_Ok.getr (z := 11) rfl (el_o rfl) rfl rfl (Eq.trans (e_Has.eq hT rfl) (by omega)) (by omega) ?_
      refine e_Ok.run (t' := (30, [(0, (1, 10)), (1, (0, p))], [(0, p), (1, 11)], w)) 1 rfl ?_
      have h9 := (e_Has.get hT (c := 11) (k := p) (lo := (-2147483648)) (hi := 2147483647) rfl (by decide))
      refine e_Ok.ald (z := w 11 p) rfl (el_o rfl) rfl (by omega) rfl (by omega) ?_
      refine e_Ok.rets rfl rfl ?_
      exact ⟨_, rfl, rfl, ⟨by omega, by omega⟩, (by unfold rcv; split <;> (try split) <;> (try split) <;> (try split) <;> omega)⟩
  · replace h2 : (w 16 p : Int) ≠ 0 := by have q : ¬ ((w 16 p : Int) = 0) := h2; omega
    refine e_Ok.run (t' := (10, [(0, (1, 10)), (1, (0, p))], [(1, 10)], w)) 1 rfl ?_
    refine e_Ok.getr (z := 14) rfl (el_o rfl) rfl rfl (Eq.trans (e_Has.eq hT rfl) (by omega)) (by omega) ?_
    refine e_Ok.run (t' := (14, [(0, (1, 10)), (1, (0, p))], [(0, p), (1, 14)], w)) 1 rfl ?_
    have h10 := ((fun i g1 g2 => by rw [show i = p by omega]; exact hp p (by omega) (by omega) (by omega) : e_kn w 14 p p) p (by omega) (by omega))
    refine e_Ok.ald (z := w 14 p) rfl (el_o rfl) rfl (by omega) rfl (by omega) ?_
    refine e_Ok.rets rfl rfl ?_
    exact ⟨_, rfl, rfl, ⟨by omega, by omega⟩, (by unfold rcv; split <;> (try split) <;> (try split) <;> (try split) <;> omega)⟩
theorem c_116 {d : Nat} (hd : 21 ≤ d) {w : eW} (hT : e_Has kTy w) (hp : pF w) : e_Ok 20 elay kcode eI d 116 (0, [(0, (1, 10))], [], w) (fun r w' => r = [] ∧ e_fr kSe w w' ∧ e_Has kTy w' ∧ (∀ V, pFx w V → pTo w → ∀ k, 0 ≤ k → k < 64 → w' 12 (w 18 k) = V (w 18 k))) := by
  obtain ⟨d, rfl⟩ : ∃ e, d = e + 1 := ⟨d - 1, by omega⟩
  refine e_Ok.run (t' := (2, [(1, (0, 0)), (0, (1, 10))], [], w)) 2 rfl ?_
  have hL1 : ∀ (nn : Nat) (y1 : Int) (v1 : eW), e_fr kSe w v1 ∧ e_Has kTy v1 ∧ (∀ V, pFx w V → pTo w → ∀ k, 0 ≤ k → k < y1 → v1 12 (w 18 k) = V (w 18 k)) ∧ (0 ≤ y1 ∧ y1 ≤ 64) → 64 - y1 < nn → e_Ok 20 elay kcode eI (d + 1) 116 (2, [(0, (1, 10)), (1, (0, y1))], [], v1) (fun r w' => r = [] ∧ e_fr kSe w w' ∧ e_Has kTy w' ∧ (∀ V, pFx w V → pTo w → ∀ k, 0 ≤ k → k < 64 → w' 12 (w 18 k) = V (w 18 k))) := by
    intro nn
    induction nn with
    | zero => intro y1 v1 hj hm; obtain ⟨j3, j4, j5, j6⟩ := hj; exfalso; omega
    | succ nn ih2 =>
      intro y1 v1 hj hm
      obtain ⟨j3, j4, j5, j6⟩ := hj
      refine e_Ok.run (t' := (5, [(0, (1, 10)), (1, (0, y1))], [(0, 64), (0, y1)], v1)) 2 rfl ?_
      refine e_Ok.if2 rfl (fun h7 => ?_) (fun h7 => ?_)
      · replace h7 : (y1 : Int) ≥ 64 := h7
        refine e_Ok.rets rfl rfl ?_
        exact ⟨rfl, j3, j4, fun V hV hT k g1 g2 => j5 V hV hT k g1 (by omega)⟩
      · replace h7 : (y1 : Int) < 64 := by have q : ¬ ((y1 : Int) ≥ 64) := h7; omega
        refine e_Ok.run (t' := (9, [(0, (1, 10)), (1, (0, y1))], [(1, 10)], v1)) 1 rfl ?_
        refine e_Ok.getr (z := 18) rfl (el_o rfl) rfl rfl ((j3 10 7 (by unfold kSe; omega)).trans (Eq.trans (e_Has.eq hT rfl) (by omega))) (by omega) ?_
        refine e_Ok.run (t' := (13, [(0, (1, 10)), (1, (0, y1))], [(0, y1), (1, 18)], v1)) 1 rfl ?_
        have h8 := (e_Has.get hT (c := 18) (k := y1) (lo := 0) (hi := 63) rfl (by decide))
        refine e_Ok.ald (z := w 18 y1) rfl (el_o rfl) rfl (by omega) ((j3 18 y1 (by unfold kSe; omega)).trans rfl) (by omega) ?_
        refine e_Ok.run (t' := (17, [(2, (0, w 18 y1)), (0, (1, 10)), (1, (0, y1))], [(0, w 18 y1), (1, 10)], v1)) 3 rfl ?_
        refine e_Ok.callV rfl (by omega) rfl rfl rfl rfl (c_117 j4 (by omega) (pF.fr j3 (fun k => by unfold kSe; omega) hp)) (fun r9 w10 h11 => ?_)
        obtain ⟨z13, rfl, rfl, q12r, q12x⟩ := h11
        show e_Ok 20 elay kcode eI (d + 1) 116 (20, [(2, (0, w 18 y1)), (0, (1, 10)), (1, (0, y1))], [(0, z13)], v1) _
        refine e_Ok.run (t' := (22, [(3, (0, z13)), (2, (0, w 18 y1)), (0, (1, 10)), (1, (0, y1))], [(1, 10)], v1)) 2 rfl ?_
        refine e_Ok.getr (z := 12) rfl (el_o rfl) rfl rfl ((j3 10 1 (by unfold kSe; omega)).trans (Eq.trans (e_Has.eq hT rfl) (by omega))) (by omega) ?_
        refine e_Ok.run (t' := (26, [(3, (0, z13)), (2, (0, w 18 y1)), (0, (1, 10)), (1, (0, y1))], [(0, w 18 y1), (1, 12)], v1)) 1 rfl ?_
        have h14 := (e_Has.get j4 (c := 12) (k := w 18 y1) (lo := (-2147483648)) (hi := 2147483647) rfl (by decide))
        refine e_Ok.ald (z := v1 12 (w 18 y1)) rfl (el_o rfl) rfl (by omega) rfl (by omega) ?_
        refine e_Ok.if1 rfl (fun h15 => ?_) (fun h15 => ?_)
        · replace h15 : (v1 12 (w 18 y1) : Int) ≠ 0 := h15
          refine e_Ok.run (t' := (45, [(3, (0, z13)), (2, (0, w 18 y1)), (0, (1, 10)), (1, (0, y1))], [(1, 10)], v1)) 1 rfl ?_
          refine e_Ok.getr (z := 12) rfl (el_o rfl) rfl rfl ((j3 10 1 (by unfold kSe; omega)).trans (Eq.trans (e_Has.eq hT rfl) (by omega))) (by omega) ?_
          refine e_Ok.run (t' := (50, [(3, (0, z13)), (2, (0, w 18 y1)), (0, (1, 10)), (1, (0, y1))], [(0, z13), (0, w 18 y1), (1, 12)], v1)) 2 rfl ?_
          refine e_Ok.ast rfl (el_o rfl) rfl rfl (by omega) ?_
          generalize hw16 : e_up v1 12 (w 18 y1) z13 = w16
          have f17 : e_fr kSe w w16 := e_fr.up j3 hw16 (by unfold kSe; omega)
          have hT18 : e_Has kTy w16 := e_Has.upr j4 hw16 rfl (by omega)
          refine e_Ok.inc (z := y1 + 1) rfl rfl (by omega) (by omega) ?_
          show e_Ok 20 elay kcode eI (d + 1) 116 (54, [(1, (0, y1 + 1)), (3, (0, z13)), (2, (0, w 18 y1)), (0, (1, 10))], [], w16) _
          refine e_Ok.run (t' := (2, [(1, (0, y1 + 1)), (3, (0, z13)), (2, (0, w 18 y1)), (0, (1, 10))], [], w16)) 1 rfl ?_
          refine e_Ok.sub kAlk (e_sub_of rfl ?_) (ih2 (y1 + 1) w16 ⟨f17, hT18, (fun V hV hT => pS.step hV hT j3 (by omega) (by omega) (j5 V hV hT) q12x (by rw [← hw16]; exact e_up_eq _ _ _ _) (fun p hp => by rw [← hw16]; exact e_up_ne _ _ (Or.inr hp))), by omega⟩ (by omega))
          exact ⟨rfl, rfl, trivial⟩
        · replace h15 : (v1 12 (w 18 y1) : Int) = 0 := by have q : ¬ ((v1 12 (w 18 y1) : Int) ≠ 0) := h15; omega
          refine e_Ok.run (t' := (31, [(3, (0, z13)), (2, (0, w 18 y1)), (0, (1, 10)), (1, (0, y1))], [(0, z13)], v1)) 1 rfl ?_
          refine e_Ok.if1 rfl (fun h19 => ?_) (fun h19 => ?_)
          · replace h19 : (z13 : Int) = 0 := h19
            refine e_Ok.run (t' := (45, [(3, (0, z13)), (2, (0, w 18 y1)), (0, (1, 10)), (1, (0, y1))], [(1, 10)], v1)) 1 rfl ?_
            refine e_Ok.getr (z := 12) rfl (el_o rfl) rfl rfl ((j3 10 1 (by unfold kSe; omega)).trans (Eq.trans (e_Has.eq hT rfl) (by omega))) (by omega) ?_
            refine e_Ok.run (t' := (50, [(3, (0, z13)), (2, (0, w 18 y1)), (0, (1, 10)), (1, (0, y1))], [(0, z13), (0, w 18 y1), (1, 12)], v1)) 2 rfl ?_
            refine e_Ok.ast rfl (el_o rfl) rfl rfl (by omega) ?_
            generalize hw20 : e_up v1 12 (w 18 y1) z13 = w20
            have f21 : e_fr kSe w w20 := e_fr.up j3 hw20 (by unfold kSe; omega)
            have hT22 : e_Has kTy w20 := e_Has.upr j4 hw20 rfl (by omega)
            refine e_Ok.inc (z := y1 + 1) rfl rfl (by omega) (by omega) ?_
            show e_Ok 20 elay kcode eI (d + 1) 116 (54, [(1, (0, y1 + 1)), (3, (0, z13)), (2, (0, w 18 y1)), (0, (1, 10))], [], w20) _
            refine e_Ok.run (t' := (2, [(1, (0, y1 + 1)), (3, (0, z13)), (2, (0, w 18 y1)), (0, (1, 10))], [], w20)) 1 rfl ?_
            refine e_Ok.sub kAlk (e_sub_of rfl ?_) (ih2 (y1 + 1) w20 ⟨f21, hT22, (fun V hV hT => pS.step hV hT j3 (by omega) (by omega) (j5 V hV hT) q12x (by rw [← hw20]; exact e_up_eq _ _ _ _) (fun p hp => by rw [← hw20]; exact e_up_ne _ _ (Or.inr hp))), by omega⟩ (by omega))
            exact ⟨rfl, rfl, trivial⟩
          · replace h19 : (z13 : Int) ≠ 0 := by have q : ¬ ((z13 : Int) = 0) := h19; omega
            refine e_Ok.run (t' := (35, [(3, (0, z13)), (2, (0, w 18 y1)), (0, (1, 10)), (1, (0, y1))], [(1, 10)], v1)) 1 rfl ?_
            refine e_Ok.getr (z := 13) rfl (el_o rfl) rfl rfl ((j3 10 2 (by unfold kSe; omega)).trans (Eq.trans (e_Has.eq hT rfl) (by omega))) (by omega) ?_
            refine e_Ok.run (t' := (40, [(3, (0, z13)), (2, (0, w 18 y1)), (0, (1, 10)), (1, (0, y1))], [(0, w 18 y1), (1, 13), (0, w 18 y1), (1, 13)], v1)) 2 rfl ?_
            have h23 := (e_Has.get j4 (c := 13) (k := w 18 y1) (lo := (-2147483648)) (hi := 2147483647) rfl (by decide))
            refine e_Ok.ald (z := v1 13 (w 18 y1)) rfl (el_o rfl) rfl (by omega) rfl (by omega) ?_
            refine e_Ok.run (t' := (42, [(3, (0, z13)), (2, (0, w 18 y1)), (0, (1, 10)), (1, (0, y1))], [(0, 1), (0, v1 13 (w 18 y1)), (0, w 18 y1), (1, 13)], v1)) 1 rfl ?_
            refine e_Ok.any rfl (eF_add_any _ _) (fun z24 z24a z24b => ?_)
            refine e_Ok.ast rfl (el_o rfl) rfl rfl (by omega) ?_
            generalize hw25 : e_up v1 13 (w 18 y1) z24 = w25
            have f26 : e_fr kSe w w25 := e_fr.up j3 hw25 (by unfold kSe; omega)
            have hT27 : e_Has kTy w25 := e_Has.upr j4 hw25 rfl (by omega)
            refine e_Ok.run (t' := (45, [(3, (0, z13)), (2, (0, w 18 y1)), (0, (1, 10)), (1, (0, y1))], [(1, 10)], w25)) 1 rfl ?_
            refine e_Ok.getr (z := 12) rfl (el_o rfl) rfl rfl (by rw [← hw25]; exact (e_up_ne _ _ (Or.inl (by omega))).trans ((j3 10 1 (by unfold kSe; omega)).trans (Eq.trans (e_Has.eq hT rfl) (by omega)))) (by omega) ?_
            refine e_Ok.run (t' := (50, [(3, (0, z13)), (2, (0, w 18 y1)), (0, (1, 10)), (1, (0, y1))], [(0, z13), (0, w 18 y1), (1, 12)], w25)) 2 rfl ?_
            refine e_Ok.ast rfl (el_o rfl) rfl rfl (by omega) ?_
            generalize hw28 : e_up w25 12 (w 18 y1) z13 = w28
            have f29 : e_fr kSe w w28 := e_fr.up f26 hw28 (by unfold kSe; omega)
            have hT30 : e_Has kTy w28 := e_Has.upr hT27 hw28 rfl (by omega)
            refine e_Ok.inc (z := y1 + 1) rfl rfl (by omega) (by omega) ?_
            show e_Ok 20 elay kcode eI (d + 1) 116 (54, [(1, (0, y1 + 1)), (3, (0, z13)), (2, (0, w 18 y1)), (0, (1, 10))], [], w28) _
            refine e_Ok.run (t' := (2, [(1, (0, y1 + 1)), (3, (0, z13)), (2, (0, w 18 y1)), (0, (1, 10))], [], w28)) 1 rfl ?_
            refine e_Ok.sub kAlk (e_sub_of rfl ?_) (ih2 (y1 + 1) w28 ⟨f29, hT30, (fun V hV hT => pS.step hV hT j3 (by omega) (by omega) (j5 V hV hT) q12x (by rw [← hw28]; exact e_up_eq _ _ _ _) (fun p hp => by rw [← hw28, e_up_ne _ _ (Or.inr hp), ← hw25]; exact e_up_ne _ _ (Or.inl (by decide)))), by omega⟩ (by omega))
            exact ⟨rfl, rfl, trivial⟩
  refine e_Ok.sub kAlk (e_sub_of rfl ?_) (hL1 (64 + 1 : Int).toNat 0 w ⟨(e_fr.refl w), hT, (fun V hV hT k g1 g2 => by omega), by omega⟩ (by omega))
  exact ⟨rfl, rfl, trivial⟩
theorem c_113 {d : Nat} (hd : 22 ≤ d) {w : eW} (hT : e_Has kTy w) {p v : Int} (g_p : 0 ≤ p ∧ p ≤ 63) (g_v : (-2147483648) ≤ v ∧ v ≤ 2147483647) (hp : pF w) : e_Ok 20 elay kcode eI d 113 (0, [(0, (1, 10)), (1, (0, p)), (2, (0, v))], [], w) (fun r w' => ∃ z : Int, r = [(0, z)] ∧ e_fr kPo w w' ∧ e_Has kTy w' ∧ ((-2147483648) ≤ z ∧ z ≤ 2147483647) ∧ pF w') := by
  obtain ⟨d, rfl⟩ : ∃ e, d = e + 1 := ⟨d - 1, by omega⟩
  refine e_Ok.run (t' := (1, [(0, (1, 10)), (1, (0, p)), (2, (0, v))], [(1, 10)], w)) 1 rfl ?_
  refine e_Ok.getr (z := 11) rfl (el_o rfl) rfl rfl (Eq.trans (e_Has.eq hT rfl) (by omega)) (by omega) ?_
  refine e_Ok.run (t' := (5, [(0, (1, 10)), (1, (0, p)), (2, (0, v))], [(0, p), (1, 11)], w)) 1 rfl ?_
  have h1 := (e_Has.get hT (c := 11) (k := p) (lo := (-2147483648)) (hi := 2147483647) rfl (by decide))
  refine e_Ok.ald (z := w 11 p) rfl (el_o rfl) rfl (by omega) rfl (by omega) ?_
  refine e_Ok.run (t' := (8, [(3, (0, w 11 p)), (0, (1, 10)), (1, (0, p)), (2, (0, v))], [(1, 10)], w)) 2 rfl ?_
  refine e_Ok.getr (z := 11) rfl (el_o rfl) rfl rfl (Eq.trans (e_Has.eq hT rfl) (by omega)) (by omega) ?_
  refine e_Ok.run (t' := (13, [(3, (0, w 11 p)), (0, (1, 10)), (1, (0, p)), (2, (0, v))], [(0, v), (0, p), (1, 11)], w)) 2 rfl ?_
  refine e_Ok.ast rfl (el_o rfl) rfl rfl (by omega) ?_
  generalize hw2 : e_up w 11 p v = w2
  have f3 : e_fr kPo w w2 := e_fr.up (e_fr.refl w) hw2 (by unfold kPo; omega)
  have hT4 : e_Has kTy w2 := e_Has.upr hT hw2 rfl (by omega)
  refine e_Ok.run (t' := (16, [(3, (0, w 11 p)), (0, (1, 10)), (1, (0, p)), (2, (0, v))], [(0, p), (1, 10)], w2)) 2 rfl ?_
  refine e_Ok.callV rfl (by omega) rfl rfl rfl rfl (c_117 hT4 (by omega) (pF.up0 hp hw2 (by omega))) (fun r5 w6 h7 => ?_)
  obtain ⟨z9, rfl, rfl, q8r, q8x⟩ := h7
  show e_Ok 20 elay kcode eI (d + 1) 113 (19, [(3, (0, w 11 p)), (0, (1, 10)), (1, (0, p)), (2, (0, v))], [(0, z9)], w2) _
  refine e_Ok.run (t' := (20, [(3, (0, w 11 p)), (0, (1, 10)), (1, (0, p)), (2, (0, v))], [(1, 10), (0, z9)], w2)) 1 rfl ?_
  refine e_Ok.getr (z := 12) rfl (el_o rfl) rfl rfl (by rw [← hw2]; exact (e_up_ne _ _ (Or.inl (by omega))).trans (Eq.trans (e_Has.eq hT rfl) (by omega))) (by omega) ?_
  refine e_Ok.run (t' := (24, [(3, (0, w 11 p)), (0, (1, 10)), (1, (0, p)), (2, (0, v))], [(0, p), (1, 12), (0, z9)], w2)) 1 rfl ?_
  have h10 := (e_Has.get hT (c := 12) (k := p) (lo := (-2147483648)) (hi := 2147483647) rfl (by decide))
  refine e_Ok.ald (z := w 12 p) rfl (el_o rfl) rfl (by omega) (by rw [← hw2]; exact (e_up_ne _ _ (Or.inl (by omega))).trans rfl) (by omega) ?_
  refine e_Ok.if2 rfl (fun h11 => ?_) (fun h11 => ?_)
  · replace h11 : (z9 : Int) = w 12 p := h11
    refine e_Ok.run (t' := (33, [(3, (0, w 11 p)), (0, (1, 10)), (1, (0, p)), (2, (0, v))], [(0, w 11 p)], w2)) 1 rfl ?_
    refine e_Ok.rets rfl rfl ?_
    exact ⟨_, rfl, f3, hT4, ⟨by omega, by omega⟩, (pF.up0 hp hw2 (by omega))⟩
  · replace h11 : (z9 : Int) ≠ w 12 p := by have q : ¬ ((z9 : Int) = w 12 p) := h11; omega
    refine e_Ok.run (t' := (29, [(3, (0, w 11 p)), (0, (1, 10)), (1, (0, p)), (2, (0, v))], [(1, 10)], w2)) 1 rfl ?_
    refine e_Ok.callV rfl (by omega) rfl rfl rfl rfl (c_116 (by omega) hT4 (pF.up0 hp hw2 (by omega))) (fun r12 w13 h14 => ?_)
    obtain ⟨rfl, q15f, q15T, q15x⟩ := h14
    have f16 : e_fr kPo w w13 := e_fr.trans f3 (e_fr.mono q15f (fun c k q => by unfold kSe at q; unfold kPo; omega))
    show e_Ok 20 elay kcode eI (d + 1) 113 (32, [(3, (0, w 11 p)), (0, (1, 10)), (1, (0, p)), (2, (0, v))], [], w13) _
    refine e_Ok.run (t' := (33, [(3, (0, w 11 p)), (0, (1, 10)), (1, (0, p)), (2, (0, v))], [(0, w 11 p)], w13)) 1 rfl ?_
    refine e_Ok.rets rfl rfl ?_
    exact ⟨_, rfl, f16, q15T, ⟨by omega, by omega⟩, (pF.fr q15f (fun k => by unfold kSe; omega) (pF.up0 hp hw2 (by omega)))⟩
theorem c_114 {d : Nat} (hd : 22 ≤ d) {w : eW} (hT : e_Has kTy w) {p v o : Int} (g_p : 0 ≤ p ∧ p ≤ 63) (g_v : (-2147483648) ≤ v ∧ v ≤ 2147483647) (g_o : 0 ≤ o ∧ o ≤ 1) (hp : pF w) : e_Ok 20 elay kcode eI d 114 (0, [(0, (1, 10)), (1, (0, p)), (2, (0, v)), (3, (0, o))], [], w) (fun r w' => ∃ z : Int, r = [(0, z)] ∧ e_fr kPo w w' ∧ e_Has kTy w' ∧ (0 ≤ z ∧ z ≤ 1) ∧ pF w') := by
  obtain ⟨d, rfl⟩ : ∃ e, d = e + 1 := ⟨d - 1, by omega⟩
  refine e_Ok.run (t' := (1, [(0, (1, 10)), (1, (0, p)), (2, (0, v)), (3, (0, o))], [(1, 10)], w)) 1 rfl ?_
  refine e_Ok.getr (z := 16) rfl (el_o rfl) rfl rfl (Eq.trans (e_Has.eq hT rfl) (by omega)) (by omega) ?_
  refine e_Ok.run (t' := (5, [(0, (1, 10)), (1, (0, p)), (2, (0, v)), (3, (0, o))], [(0, p), (1, 16)], w)) 1 rfl ?_
  have h1 := (e_Has.get hT (c := 16) (k := p) (lo := 0) (hi := 1) rfl (by decide))
  refine e_Ok.ald (z := w 16 p) rfl (el_o rfl) rfl (by omega) rfl (by omega) ?_
  have hJ4 : ∀ m3 : Int, 0 ≤ m3 ∧ m3 ≤ 1 → e_Ok 20 elay kcode eI (d + 1) 114 (14, [(0, (1, 10)), (1, (0, p)), (2, (0, v)), (3, (0, o))], [(0, m3)], w) (fun r w' => ∃ z : Int, r = [(0, z)] ∧ e_fr kPo w w' ∧ e_Has kTy w' ∧ (0 ≤ z ∧ z ≤ 1) ∧ pF w') := by
    intro m3 m3r
    refine e_Ok.run (t' := (17, [(4, (0, m3)), (0, (1, 10)), (1, (0, p)), (2, (0, v)), (3, (0, o))], [(1, 10)], w)) 2 rfl ?_
    refine e_Ok.getr (z := 16) rfl (el_o rfl) rfl rfl (Eq.trans (e_Has.eq hT rfl) (by omega)) (by omega) ?_
    refine e_Ok.run (t' := (22, [(4, (0, m3)), (0, (1, 10)), (1, (0, p)), (2, (0, v)), (3, (0, o))], [(0, o), (0, p), (1, 16)], w)) 2 rfl ?_
    refine e_Ok.ast rfl (el_o rfl) rfl (e_nar_b (by omega)) (by omega) ?_
    generalize hw5 : e_up w 16 p o = w5
    have f6 : e_fr kPo w w5 := e_fr.up (e_fr.refl w) hw5 (by unfold kPo; omega)
    have hT7 : e_Has kTy w5 := e_Has.upr hT hw5 rfl (by omega)
    refine e_Ok.run (t' := (24, [(4, (0, m3)), (0, (1, 10)), (1, (0, p)), (2, (0, v)), (3, (0, o))], [(1, 10)], w5)) 1 rfl ?_
    refine e_Ok.getr (z := 14) rfl (el_o rfl) rfl rfl (by rw [← hw5]; exact (e_up_ne _ _ (Or.inl (by omega))).trans (Eq.trans (e_Has.eq hT rfl) (by omega))) (by omega) ?_
    refine e_Ok.run (t' := (29, [(4, (0, m3)), (0, (1, 10)), (1, (0, p)), (2, (0, v)), (3, (0, o))], [(0, v), (0, p), (1, 14)], w5)) 2 rfl ?_
    refine e_Ok.ast rfl (el_o rfl) rfl rfl (by omega) ?_
    generalize hw8 : e_up w5 14 p v = w8
    have f9 : e_fr kPo w w8 := e_fr.up f6 hw8 (by unfold kPo; omega)
    have hT10 : e_Has kTy w8 := e_Has.ups hT7 hw8 rfl
    refine e_Ok.run (t' := (32, [(4, (0, m3)), (0, (1, 10)), (1, (0, p)), (2, (0, v)), (3, (0, o))], [(0, p), (1, 10)], w8)) 2 rfl ?_
    refine e_Ok.callV rfl (by omega) rfl rfl rfl rfl (c_117 hT10 (by omega) (pF.up2 hp hw5 hw8 (by unfold kn1; omega))) (fun r11 w12 h13 => ?_)
    obtain ⟨z15, rfl, rfl, q14r, q14x⟩ := h13
    show e_Ok 20 elay kcode eI (d + 1) 114 (35, [(4, (0, m3)), (0, (1, 10)), (1, (0, p)), (2, (0, v)), (3, (0, o))], [(0, z15)], w8) _
    refine e_Ok.run (t' := (36, [(4, (0, m3)), (0, (1, 10)), (1, (0, p)), (2, (0, v)), (3, (0, o))], [(1, 10), (0, z15)], w8)) 1 rfl ?_
    refine e_Ok.getr (z := 12) rfl (el_o rfl) rfl rfl (by rw [← hw8]; exact (e_up_ne _ _ (Or.inl (by omega))).trans (by rw [← hw5]; exact (e_up_ne _ _ (Or.inl (by omega))).trans (Eq.trans (e_Has.eq hT rfl) (by omega)))) (by omega) ?_
    refine e_Ok.run (t' := (40, [(4, (0, m3)), (0, (1, 10)), (1, (0, p)), (2, (0, v)), (3, (0, o))], [(0, p), (1, 12), (0, z15)], w8)) 1 rfl ?_
    have h16 := (e_Has.get hT (c := 12) (k := p) (lo := (-2147483648)) (hi := 2147483647) rfl (by decide))
    refine e_Ok.ald (z := w 12 p) rfl (el_o rfl) rfl (by omega) (by rw [← hw8]; exact (e_up_ne _ _ (Or.inl (by omega))).trans (by rw [← hw5]; exact (e_up_ne _ _ (Or.inl (by omega))).trans rfl)) (by omega) ?_
    refine e_Ok.if2 rfl (fun h17 => ?_) (fun h17 => ?_)
    · replace h17 : (z15 : Int) = w 12 p := h17
      refine e_Ok.run (t' := (50, [(4, (0, m3)), (0, (1, 10)), (1, (0, p)), (2, (0, v)), (3, (0, o))], [(0, m3)], w8)) 1 rfl ?_
      refine e_Ok.rets rfl rfl ?_
      exact ⟨_, rfl, f9, hT10, ⟨by omega, by omega⟩, (pF.up2 hp hw5 hw8 (by unfold kn1; omega))⟩
    · replace h17 : (z15 : Int) ≠ w 12 p := by have q : ¬ ((z15 : Int) = w 12 p) := h17; omega
      refine e_Ok.run (t' := (45, [(4, (0, m3)), (0, (1, 10)), (1, (0, p)), (2, (0, v)), (3, (0, o))], [(1, 10)], w8)) 1 rfl ?_
      refine e_Ok.callV rfl (by omega) rfl rfl rfl rfl (c_116 (by omega) hT10 (pF.up2 hp hw5 hw8 (by unfold kn1; omega))) (fun r18 w19 h20 => ?_)
      obtain ⟨rfl, q21f, q21T, q21x⟩ := h20
      have f22 : e_fr kPo w w19 := e_fr.trans f9 (e_fr.mono q21f (fun c k q => by unfold kSe at q; unfold kPo; omega))
      show e_Ok 20 elay kcode eI (d + 1) 114 (48, [(4, (0, m3)), (0, (1, 10)), (1, (0, p)), (2, (0, v)), (3, (0, o))], [], w19) _
      refine e_Ok.run (t' := (50, [(4, (0, m3)), (0, (1, 10)), (1, (0, p)), (2, (0, v)), (3, (0, o))], [(0, m3)], w19)) 1 rfl ?_
      refine e_Ok.rets rfl rfl ?_
      exact ⟨_, rfl, f22, q21T, ⟨by omega, by omega⟩, (pF.fr q21f (fun k => by unfold kSe; omega) (pF.up2 hp hw5 hw8 (by unfold kn1; omega)))⟩
  refine e_Ok.if1 rfl (fun h2 => ?_) (fun h2 => ?_)
  · exact e_Ok.run 1 rfl (hJ4 0 (by omega))
  · exact e_Ok.run 2 rfl (hJ4 1 (by omega))
end
