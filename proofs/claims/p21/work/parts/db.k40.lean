noncomputable section
/-! the class: the search of a way -/
def kPm (a m : Int) (c k : Int) : Prop := (c = 17 * a + 88 ∨ c = 17 * a + 89) ∧ 1 ≤ k ∧ k ≤ m + 1
def kPs (a m : Int) (c k : Int) : Prop := (17 * a + 97 ≤ c ∧ c < 17 * a + m + 97 ∧ k = 7) ∨ ((c = 17 * a + 88 ∨ c = 17 * a + 89) ∧ 1 ≤ k ∧ k ≤ m + 1) ∨ (c = 250 ∧ 13 ≤ k ∧ k ≤ 16) ∨ c = 268
def kSr (a m : Int) (c k : Int) : Prop := (17 * a + 97 ≤ c ∧ c < 17 * a + m + 97 ∧ k = 7) ∨ ((c = 17 * a + 88 ∨ c = 17 * a + 89) ∧ 1 ≤ k ∧ k ≤ m + 1) ∨ (c = 250 ∧ 13 ≤ k ∧ k ≤ 16) ∨ c = 267 ∨ c = 268
def kF68 (c k : Int) : Prop := c = 268
theorem c_10_m {d : Nat} (hd : 22 ≤ d) {w : eW} (hT : e_Has kTy w) {a m : Int} (g_a : 0 ≤ a ∧ a ≤ 3) (hm : w (17 * a + 86) 8 = m) (hx : kn1 (w (17 * a + 88) 0)) (hy : kn1 (w (17 * a + 89) 0)) : e_Ok 20 elay kcode eI d 10 (0, [(0, (1, 17 * a + 86))], [], w) (fun r w' => r = [] ∧ e_fr (kPm a m) w w' ∧ e_Has kTy w' ∧ aK w' a) := by
  obtain ⟨d, rfl⟩ : ∃ e, d = e + 1 := ⟨d - 1, by omega⟩
  have hjn := kn_joints hT (a := a) (by omega)
  have hx0 := hx
  have hy0 := hy
  unfold kn1 at hx hy
  refine e_Ok.run (t' := (1, [(0, (1, 17 * a + 86))], [(1, 17 * a + 86)], w)) 1 rfl ?_
  refine e_Ok.getr (z := 17 * a + 88) rfl (lA0 (a := a) (by omega) (by omega)) rfl rfl (Eq.trans (e_Has.eq hT (kA_1 (a := a) (by omega) (by omega))) (by omega)) (by omega) ?_
  refine e_Ok.run (t' := (5, [(0, (1, 17 * a + 86))], [(0, 0), (1, 17 * a + 88)], w)) 1 rfl ?_
  have h1 := ((fun i g1 g2 => by rw [show i = 0 by omega]; exact hx0 : e_kn w (17 * a + 88) 0 0) 0 (by omega) (by omega))
  refine e_Ok.ald (z := w (17 * a + 88) 0) rfl (lA2 (a := a) (by omega) (by omega)) rfl (by omega) rfl (by omega) ?_
  refine e_Ok.run (t' := (9, [(0, (1, 17 * a + 86))], [(0, 20), (4, w (17 * a + 88) 0)], w)) 2 rfl ?_
  refine e_Ok.anyS rfl ⟨_, rfl⟩ (fun x2 => ?_)
  refine e_Ok.run (t' := (12, [(1, (4, x2)), (0, (1, 17 * a + 86))], [(1, 17 * a + 86)], w)) 2 rfl ?_
  refine e_Ok.getr (z := 17 * a + 89) rfl (lA0 (a := a) (by omega) (by omega)) rfl rfl (Eq.trans (e_Has.eq hT (kA_2 (a := a) (by omega) (by omega))) (by omega)) (by omega) ?_
  refine e_Ok.run (t' := (16, [(1, (4, x2)), (0, (1, 17 * a + 86))], [(0, 0), (1, 17 * a + 89)], w)) 1 rfl ?_
  have h3 := ((fun i g1 g2 => by rw [show i = 0 by omega]; exact hy0 : e_kn w (17 * a + 89) 0 0) 0 (by omega) (by omega))
  refine e_Ok.ald (z := w (17 * a + 89) 0) rfl (lA3 (a := a) (by omega) (by omega)) rfl (by omega) rfl (by omega) ?_
  refine e_Ok.run (t' := (20, [(1, (4, x2)), (0, (1, 17 * a + 86))], [(0, 20), (4, w (17 * a + 89) 0)], w)) 2 rfl ?_
  refine e_Ok.anyS rfl ⟨_, rfl⟩ (fun x4 => ?_)
  refine e_Ok.run (t' := (23, [(3, (4, x4)), (1, (4, x2)), (0, (1, 17 * a + 86))], [(1, 17 * a + 86)], w)) 2 rfl ?_
  have h5 := (e_Has.get hT (c := 17 * a + 86) (k := 9) (lo := (-2147483648)) (hi := 2147483647) (kA_9 (a := a) (by omega) (by omega)) (by decide))
  refine e_Ok.getf (z := w (17 * a + 86) 9) rfl (lA0 (a := a) (by omega) (by omega)) rfl rfl rfl (by omega) ?_
  refine e_Ok.run (t' := (31, [(6, (0, 0)), (5, (0, w (17 * a + 86) 9)), (3, (4, x4)), (1, (4, x2)), (0, (1, 17 * a + 86))], [], w)) 3 rfl ?_
  have hL6 : ∀ (nn : Nat) (y1 : Int) (y3 : Int) (y5 : Int) (y6 : Int) (v1 : eW), e_fr (kPm a m) w v1 ∧ e_Has kTy v1 ∧ e_kn v1 (17 * a + 88) 0 y6 ∧ e_kn v1 (17 * a + 89) 0 y6 ∧ y6 ≤ w (17 * a + 86) 8 ∧ ((-2147483648) ≤ y5 ∧ y5 ≤ 2147483647) ∧ (0 ≤ y6 ∧ y6 ≤ 6) → 6 - y6 < nn → e_Ok 20 elay kcode eI (d + 1) 10 (31, [(0, (1, 17 * a + 86)), (1, (4, y1)), (3, (4, y3)), (5, (0, y5)), (6, (0, y6))], [], v1) (fun r w' => r = [] ∧ e_fr (kPm a m) w w' ∧ e_Has kTy w' ∧ aK w' a) := by
    intro nn
    induction nn with
    | zero => intro y1 y3 y5 y6 v1 hj hm; obtain ⟨j8, j9, j10, j11, j12, j13, j14⟩ := hj; exfalso; omega
    | succ nn ih7 =>
      intro y1 y3 y5 y6 v1 hj hm
      obtain ⟨j8, j9, j10, j11, j12, j13, j14⟩ := hj
      have l15 : v1 (17 * a + 86) 8 = w (17 * a + 86) 8 := j8 (17 * a + 86) 8 (by unfold kPm; omega)
      refine e_Ok.run (t' := (34, [(0, (1, 17 * a + 86)), (1, (4, y1)), (3, (4, y3)), (5, (0, y5)), (6, (0, y6))], [(1, 17 * a + 86), (0, y6)], v1)) 2 rfl ?_
      have h16 := (e_Has.get hT (c := 17 * a + 86) (k := 8) (lo := 0) (hi := 6) (kA_8 (a := a) (by omega) (by omega)) (by decide))
      refine e_Ok.getf (z := w (17 * a + 86) 8) rfl (lA0 (a := a) (by omega) (by omega)) rfl rfl ((j8 (17 * a + 86) 8 (by unfold kPm; omega)).trans rfl) (by omega) ?_
      refine e_Ok.if2 rfl (fun h17 => ?_) (fun h17 => ?_)
      · replace h17 : (y6 : Int) ≥ w (17 * a + 86) 8 := h17
        refine e_Ok.run (t' := (167, [(0, (1, 17 * a + 86)), (1, (4, y1)), (3, (4, y3)), (5, (0, y5)), (6, (0, y6))], [(1, 17 * a + 86)], v1)) 1 rfl ?_
        refine e_Ok.getr (z := 17 * a + 88) rfl (lA0 (a := a) (by omega) (by omega)) rfl rfl ((j8 (17 * a + 86) 1 (by unfold kPm; omega)).trans (Eq.trans (e_Has.eq hT (kA_1 (a := a) (by omega) (by omega))) (by omega))) (by omega) ?_
        refine e_Ok.run (t' := (171, [(0, (1, 17 * a + 86)), (1, (4, y1)), (3, (4, y3)), (5, (0, y5)), (6, (0, y6))], [(1, 17 * a + 86), (1, 17 * a + 88)], v1)) 1 rfl ?_
        refine e_Ok.getf (z := w (17 * a + 86) 8) rfl (lA0 (a := a) (by omega) (by omega)) rfl rfl ((j8 (17 * a + 86) 8 (by unfold kPm; omega)).trans rfl) (by omega) ?_
        refine e_Ok.run (t' := (175, [(0, (1, 17 * a + 86)), (1, (4, y1)), (3, (4, y3)), (5, (0, y5)), (6, (0, y6))], [(0, 1), (0, w (17 * a + 86) 8), (1, 17 * a + 88)], v1)) 1 rfl ?_
        refine e_Ok.add (z := w (17 * a + 86) 8 + 1) rfl (by omega) (by omega) ?_
        refine e_Ok.run (t' := (177, [(0, (1, 17 * a + 86)), (1, (4, y1)), (3, (4, y3)), (5, (0, y5)), (6, (0, y6))], [(1, 17 * a + 86), (0, w (17 * a + 86) 8 + 1), (1, 17 * a + 88)], v1)) 1 rfl ?_
        refine e_Ok.getr (z := 17 * a + 88) rfl (lA0 (a := a) (by omega) (by omega)) rfl rfl ((j8 (17 * a + 86) 1 (by unfold kPm; omega)).trans (Eq.trans (e_Has.eq hT (kA_1 (a := a) (by omega) (by omega))) (by omega))) (by omega) ?_
        refine e_Ok.run (t' := (181, [(0, (1, 17 * a + 86)), (1, (4, y1)), (3, (4, y3)), (5, (0, y5)), (6, (0, y6))], [(1, 17 * a + 86), (1, 17 * a + 88), (0, w (17 * a + 86) 8 + 1), (1, 17 * a + 88)], v1)) 1 rfl ?_
        refine e_Ok.getf (z := w (17 * a + 86) 8) rfl (lA0 (a := a) (by omega) (by omega)) rfl rfl ((j8 (17 * a + 86) 8 (by unfold kPm; omega)).trans rfl) (by omega) ?_
        have h18 := (j10 (w (17 * a + 86) 8) (by omega) (by omega))
        refine e_Ok.ald (z := v1 (17 * a + 88) (w (17 * a + 86) 8)) rfl (lA2 (a := a) (by omega) (by omega)) rfl (by omega) rfl (by omega) ?_
        refine e_Ok.ast rfl (lA2 (a := a) (by omega) (by omega)) rfl rfl (by omega) ?_
        generalize hw19 : e_up v1 (17 * a + 88) (w (17 * a + 86) 8 + 1) (v1 (17 * a + 88) (w (17 * a + 86) 8)) = w19
        have f20 : e_fr (kPm a m) w w19 := e_fr.up j8 hw19 (by unfold kPm; omega)
        have l21 : w19 (17 * a + 86) 8 = w (17 * a + 86) 8 := f20 (17 * a + 86) 8 (by unfold kPm; omega)
        have hT22 : e_Has kTy w19 := e_Has.ups j9 hw19 (kA88 (a := a) _ (by omega) (by omega))
        refine e_Ok.run (t' := (187, [(0, (1, 17 * a + 86)), (1, (4, y1)), (3, (4, y3)), (5, (0, y5)), (6, (0, y6))], [(1, 17 * a + 86)], w19)) 1 rfl ?_
        refine e_Ok.getr (z := 17 * a + 89) rfl (lA0 (a := a) (by omega) (by omega)) rfl rfl (by rw [← hw19]; exact (e_up_ne _ _ (Or.inl (by omega))).trans ((j8 (17 * a + 86) 2 (by unfold kPm; omega)).trans (Eq.trans (e_Has.eq hT (kA_2 (a := a) (by omega) (by omega))) (by omega)))) (by omega) ?_
        refine e_Ok.run (t' := (191, [(0, (1, 17 * a + 86)), (1, (4, y1)), (3, (4, y3)), (5, (0, y5)), (6, (0, y6))], [(1, 17 * a + 86), (1, 17 * a + 89)], w19)) 1 rfl ?_
        refine e_Ok.getf (z := w (17 * a + 86) 8) rfl (lA0 (a := a) (by omega) (by omega)) rfl rfl (by rw [← hw19]; exact (e_up_ne _ _ (Or.inl (by omega))).trans ((j8 (17 * a + 86) 8 (by unfold kPm; omega)).trans rfl)) (by omega) ?_
        refine e_Ok.run (t' := (195, [(0, (1, 17 * a + 86)), (1, (4, y1)), (3, (4, y3)), (5, (0, y5)), (6, (0, y6))], [(0, 1), (0, w (17 * a + 86) 8), (1, 17 * a + 89)], w19)) 1 rfl ?_
        refine e_Ok.add (z := w (17 * a + 86) 8 + 1) rfl (by omega) (by omega) ?_
        refine e_Ok.run (t' := (197, [(0, (1, 17 * a + 86)), (1, (4, y1)), (3, (4, y3)), (5, (0, y5)), (6, (0, y6))], [(1, 17 * a + 86), (0, w (17 * a + 86) 8 + 1), (1, 17 * a + 89)], w19)) 1 rfl ?_
        refine e_Ok.getr (z := 17 * a + 89) rfl (lA0 (a := a) (by omega) (by omega)) rfl rfl (by rw [← hw19]; exact (e_up_ne _ _ (Or.inl (by omega))).trans ((j8 (17 * a + 86) 2 (by unfold kPm; omega)).trans (Eq.trans (e_Has.eq hT (kA_2 (a := a) (by omega) (by omega))) (by omega)))) (by omega) ?_
        refine e_Ok.run (t' := (201, [(0, (1, 17 * a + 86)), (1, (4, y1)), (3, (4, y3)), (5, (0, y5)), (6, (0, y6))], [(1, 17 * a + 86), (1, 17 * a + 89), (0, w (17 * a + 86) 8 + 1), (1, 17 * a + 89)], w19)) 1 rfl ?_
        refine e_Ok.getf (z := w (17 * a + 86) 8) rfl (lA0 (a := a) (by omega) (by omega)) rfl rfl (by rw [← hw19]; exact (e_up_ne _ _ (Or.inl (by omega))).trans ((j8 (17 * a + 86) 8 (by unfold kPm; omega)).trans rfl)) (by omega) ?_
        have h23 := (j11 (w (17 * a + 86) 8) (by omega) (by omega))
        refine e_Ok.ald (z := v1 (17 * a + 89) (w (17 * a + 86) 8)) rfl (lA3 (a := a) (by omega) (by omega)) rfl (by omega) (by rw [← hw19]; exact (e_up_ne _ _ (Or.inl (by omega))).trans rfl) (by omega) ?_
        refine e_Ok.ast rfl (lA3 (a := a) (by omega) (by omega)) rfl rfl (by omega) ?_
        generalize hw24 : e_up w19 (17 * a + 89) (w (17 * a + 86) 8 + 1) (v1 (17 * a + 89) (w (17 * a + 86) 8)) = w24
        have f25 : e_fr (kPm a m) w w24 := e_fr.up f20 hw24 (by unfold kPm; omega)
        have l26 : w24 (17 * a + 86) 8 = w (17 * a + 86) 8 := f25 (17 * a + 86) 8 (by unfold kPm; omega)
        have hT27 : e_Has kTy w24 := e_Has.ups hT22 hw24 (kA89 (a := a) _ (by omega) (by omega))
        refine e_Ok.rets rfl rfl ?_
        exact ⟨rfl, f25, hT27, (by unfold aK; rw [(show w24 (17 * a + 86) 8 = w (17 * a + 86) 8 from f25 _ _ (by unfold kPm; omega))]; exact ⟨e_kn_sub (e_kn.oth (e_kn.ext (e_kn_sub (a' := 0) (b' := y6) j10 (by omega) (by omega)) hw19 (by omega) (by omega)) hw24 (by omega)) (by omega) (by omega), e_kn_sub (e_kn.ext (e_kn.oth (e_kn_sub (a' := 0) (b' := y6) j11 (by omega) (by omega)) hw19 (by omega)) hw24 (by omega) (by omega)) (by omega) (by omega)⟩)⟩
      · replace h17 : (y6 : Int) < w (17 * a + 86) 8 := by have q : ¬ ((y6 : Int) ≥ w (17 * a + 86) 8) := h17; omega
        refine e_Ok.run (t' := (41, [(0, (1, 17 * a + 86)), (1, (4, y1)), (3, (4, y3)), (5, (0, y5)), (6, (0, y6))], [(1, 17 * a + 86)], v1)) 1 rfl ?_
        refine e_Ok.getr (z := 17 * a + 87) rfl (lA0 (a := a) (by omega) (by omega)) rfl rfl ((j8 (17 * a + 86) 0 (by unfold kPm; omega)).trans (Eq.trans (e_Has.eq hT (kA_0 (a := a) (by omega) (by omega))) (by omega))) (by omega) ?_
        refine e_Ok.run (t' := (46, [(0, (1, 17 * a + 86)), (1, (4, y1)), (3, (4, y3)), (5, (0, y5)), (6, (0, y6))], [(0, y6), (1, 17 * a + 87)], v1)) 1 rfl ?_
        refine e_Ok.aald (z := 17 * a + y6 + 97) rfl (lA1 (a := a) (by omega) (by omega)) rfl (by omega) ((j8 (17 * a + 87) y6 (by unfold kPm; omega)).trans (Eq.trans (e_Has.eq hT (kA87 (a := a) (by omega) (by omega) (by omega))) (by omega))) (by omega) ?_
        have h28 := (e_Has.get hT (c := 17 * a + y6 + 97) (k := 3) (lo := (-2147483648)) (hi := 2147483647) (kJ_3 (a := a) (j := y6) (by omega) (by omega) (by omega)) (by decide))
        refine e_Ok.getf (z := w (17 * a + y6 + 97) 3) rfl (lJ (a := a) (j := y6) (by omega) (by omega) (by omega)) rfl rfl ((j8 (17 * a + y6 + 97) 3 (by unfold kPm; omega)).trans rfl) (by omega) ?_
        refine e_Ok.run (t' := (53, [(7, (0, w (17 * a + y6 + 97) 3)), (0, (1, 17 * a + 86)), (1, (4, y1)), (3, (4, y3)), (5, (0, y5)), (6, (0, y6))], [(1, 17 * a + 86)], v1)) 2 rfl ?_
        refine e_Ok.getr (z := 17 * a + 87) rfl (lA0 (a := a) (by omega) (by omega)) rfl rfl ((j8 (17 * a + 86) 0 (by unfold kPm; omega)).trans (Eq.trans (e_Has.eq hT (kA_0 (a := a) (by omega) (by omega))) (by omega))) (by omega) ?_
        refine e_Ok.run (t' := (58, [(7, (0, w (17 * a + y6 + 97) 3)), (0, (1, 17 * a + 86)), (1, (4, y1)), (3, (4, y3)), (5, (0, y5)), (6, (0, y6))], [(0, y6), (1, 17 * a + 87)], v1)) 1 rfl ?_
        refine e_Ok.aald (z := 17 * a + y6 + 97) rfl (lA1 (a := a) (by omega) (by omega)) rfl (by omega) ((j8 (17 * a + 87) y6 (by unfold kPm; omega)).trans (Eq.trans (e_Has.eq hT (kA87 (a := a) (by omega) (by omega) (by omega))) (by omega))) (by omega) ?_
        have h29 := (e_Has.get hT (c := 17 * a + y6 + 97) (k := 0) (lo := (-2147483648)) (hi := 2147483647) (kJ_0 (a := a) (j := y6) (by omega) (by omega) (by omega)) (by decide))
        refine e_Ok.getf (z := w (17 * a + y6 + 97) 0) rfl (lJ (a := a) (j := y6) (by omega) (by omega) (by omega)) rfl rfl ((j8 (17 * a + y6 + 97) 0 (by unfold kPm; omega)).trans rfl) (by omega) ?_
        refine e_Ok.if1 rfl (fun h30 => ?_) (fun h30 => ?_)
        · replace h30 : (w (17 * a + y6 + 97) 0 : Int) ≠ 0 := h30
          refine e_Ok.run (t' := (86, [(7, (0, w (17 * a + y6 + 97) 3)), (0, (1, 17 * a + 86)), (1, (4, y1)), (3, (4, y3)), (5, (0, y5)), (6, (0, y6))], [(1, 17 * a + 86), (0, w (17 * a + y6 + 97) 3)], v1)) 2 rfl ?_
          refine e_Ok.getr (z := 17 * a + 87) rfl (lA0 (a := a) (by omega) (by omega)) rfl rfl ((j8 (17 * a + 86) 0 (by unfold kPm; omega)).trans (Eq.trans (e_Has.eq hT (kA_0 (a := a) (by omega) (by omega))) (by omega))) (by omega) ?_
          refine e_Ok.run (t' := (91, [(7, (0, w (17 * a + y6 + 97) 3)), (0, (1, 17 * a + 86)), (1, (4, y1)), (3, (4, y3)), (5, (0, y5)), (6, (0, y6))], [(0, y6), (1, 17 * a + 87), (0, w (17 * a + y6 + 97) 3)], v1)) 1 rfl ?_
          refine e_Ok.aald (z := 17 * a + y6 + 97) rfl (lA1 (a := a) (by omega) (by omega)) rfl (by omega) ((j8 (17 * a + 87) y6 (by unfold kPm; omega)).trans (Eq.trans (e_Has.eq hT (kA87 (a := a) (by omega) (by omega) (by omega))) (by omega))) (by omega) ?_
          have h31 := (e_Has.get hT (c := 17 * a + y6 + 97) (k := 7) (lo := (-2147483648)) (hi := 2147483647) (kJ_7 (a := a) (j := y6) (by omega) (by omega) (by omega)) (by decide))
          refine e_Ok.getf (z := w (17 * a + y6 + 97) 7) rfl (lJ (a := a) (j := y6) (by omega) (by omega) (by omega)) rfl rfl ((j8 (17 * a + y6 + 97) 7 (by unfold kPm; omega)).trans rfl) (by omega) ?_
          refine e_Ok.any rfl (eF_add_any _ _) (fun z32 z32a z32b => ?_)
          refine e_Ok.run (t' := (104, [(7, (0, z32)), (0, (1, 17 * a + 86)), (1, (4, y1)), (3, (4, y3)), (5, (0, y5)), (6, (0, y6))], [(0, y5), (4, z32), (4, y1)], v1)) 5 rfl ?_
          refine e_Ok.callS rfl (by omega) rfl rfl (c_250 (by omega) (by omega)) (fun r33 w34 h35 => ?_)
          obtain ⟨z37, rfl, rfl, q36r⟩ := h35
          show e_Ok 20 elay kcode eI (d + 1) 10 (107, [(7, (0, z32)), (0, (1, 17 * a + 86)), (1, (4, y1)), (3, (4, y3)), (5, (0, y5)), (6, (0, y6))], [(0, z37), (4, z32), (4, y1)], v1) _
          refine e_Ok.run (t' := (108, [(7, (0, z32)), (0, (1, 17 * a + 86)), (1, (4, y1)), (3, (4, y3)), (5, (0, y5)), (6, (0, y6))], [(4, z37), (4, z32), (4, y1)], v1)) 1 rfl ?_
          refine e_Ok.anyL rfl ⟨_, rfl⟩ (fun x38 => ?_)
          refine e_Ok.anyL rfl ⟨_, rfl⟩ (fun x40 => ?_)
          refine e_Ok.run (t' := (117, [(1, (4, x40)), (7, (0, z32)), (0, (1, 17 * a + 86)), (3, (4, y3)), (5, (0, y5)), (6, (0, y6))], [(0, y5), (4, z32), (4, y3)], v1)) 5 rfl ?_
          refine e_Ok.callS rfl (by omega) rfl rfl (c_249 (by omega)) (fun r41 w42 h43 => ?_)
          obtain ⟨z45, rfl, rfl, q44r⟩ := h43
          show e_Ok 20 elay kcode eI (d + 1) 10 (120, [(1, (4, x40)), (7, (0, z32)), (0, (1, 17 * a + 86)), (3, (4, y3)), (5, (0, y5)), (6, (0, y6))], [(0, z45), (4, z32), (4, y3)], v1) _
          refine e_Ok.run (t' := (121, [(1, (4, x40)), (7, (0, z32)), (0, (1, 17 * a + 86)), (3, (4, y3)), (5, (0, y5)), (6, (0, y6))], [(4, z45), (4, z32), (4, y3)], v1)) 1 rfl ?_
          refine e_Ok.anyL rfl ⟨_, rfl⟩ (fun x46 => ?_)
          refine e_Ok.anyL rfl ⟨_, rfl⟩ (fun x47 => ?_)
          refine e_Ok.run (t' := (125, [(3, (4, x47)), (1, (4, x40)), (7, (0, z32)), (0, (1, 17 * a + 86)), (5, (0, y5)), (6, (0, y6))], [(1, 17 * a + 86)], v1)) 2 rfl ?_
          refine e_Ok.getr (z := 17 * a + 88) rfl (lA0 (a := a) (by omega) (by omega)) rfl rfl ((j8 (17 * a + 86) 1 (by unfold kPm; omega)).trans (Eq.trans (e_Has.eq hT (kA_1 (a := a) (by omega) (by omega))) (by omega))) (by omega) ?_
          refine e_Ok.run (t' := (131, [(3, (4, x47)), (1, (4, x40)), (7, (0, z32)), (0, (1, 17 * a + 86)), (5, (0, y5)), (6, (0, y6))], [(0, 1), (0, y6), (1, 17 * a + 88)], v1)) 2 rfl ?_
          refine e_Ok.add (z := y6 + 1) rfl (by omega) (by omega) ?_
          refine e_Ok.run (t' := (136, [(3, (4, x47)), (1, (4, x40)), (7, (0, z32)), (0, (1, 17 * a + 86)), (5, (0, y5)), (6, (0, y6))], [(4, 524288), (4, x40), (0, y6 + 1), (1, 17 * a + 88)], v1)) 2 rfl ?_
          refine e_Ok.anyL rfl ⟨_, rfl⟩ (fun x48 => ?_)
          refine e_Ok.run (t' := (139, [(3, (4, x47)), (1, (4, x40)), (7, (0, z32)), (0, (1, 17 * a + 86)), (5, (0, y5)), (6, (0, y6))], [(0, 20), (4, x48), (0, y6 + 1), (1, 17 * a + 88)], v1)) 1 rfl ?_
          refine e_Ok.anyS rfl ⟨_, rfl⟩ (fun x49 => ?_)
          refine e_Ok.l2i rfl (fun z50 z50a z50b => ?_)
          refine e_Ok.ast rfl (lA2 (a := a) (by omega) (by omega)) rfl rfl (by omega) ?_
          generalize hw51 : e_up v1 (17 * a + 88) (y6 + 1) z50 = w51
          have f52 : e_fr (kPm a m) w w51 := e_fr.up j8 hw51 (by unfold kPm; omega)
          have l53 : w51 (17 * a + 86) 8 = w (17 * a + 86) 8 := f52 (17 * a + 86) 8 (by unfold kPm; omega)
          have hT54 : e_Has kTy w51 := e_Has.ups j9 hw51 (kA88 (a := a) _ (by omega) (by omega))
          refine e_Ok.run (t' := (143, [(3, (4, x47)), (1, (4, x40)), (7, (0, z32)), (0, (1, 17 * a + 86)), (5, (0, y5)), (6, (0, y6))], [(1, 17 * a + 86)], w51)) 1 rfl ?_
          refine e_Ok.getr (z := 17 * a + 89) rfl (lA0 (a := a) (by omega) (by omega)) rfl rfl (by rw [← hw51]; exact (e_up_ne _ _ (Or.inl (by omega))).trans ((j8 (17 * a + 86) 2 (by unfold kPm; omega)).trans (Eq.trans (e_Has.eq hT (kA_2 (a := a) (by omega) (by omega))) (by omega)))) (by omega) ?_
          refine e_Ok.run (t' := (149, [(3, (4, x47)), (1, (4, x40)), (7, (0, z32)), (0, (1, 17 * a + 86)), (5, (0, y5)), (6, (0, y6))], [(0, 1), (0, y6), (1, 17 * a + 89)], w51)) 2 rfl ?_
          refine e_Ok.add (z := y6 + 1) rfl (by omega) (by omega) ?_
          refine e_Ok.run (t' := (154, [(3, (4, x47)), (1, (4, x40)), (7, (0, z32)), (0, (1, 17 * a + 86)), (5, (0, y5)), (6, (0, y6))], [(4, 524288), (4, x47), (0, y6 + 1), (1, 17 * a + 89)], w51)) 2 rfl ?_
          refine e_Ok.anyL rfl ⟨_, rfl⟩ (fun x55 => ?_)
          refine e_Ok.run (t' := (157, [(3, (4, x47)), (1, (4, x40)), (7, (0, z32)), (0, (1, 17 * a + 86)), (5, (0, y5)), (6, (0, y6))], [(0, 20), (4, x55), (0, y6 + 1), (1, 17 * a + 89)], w51)) 1 rfl ?_
          refine e_Ok.anyS rfl ⟨_, rfl⟩ (fun x56 => ?_)
          refine e_Ok.l2i rfl (fun z57 z57a z57b => ?_)
          refine e_Ok.ast rfl (lA3 (a := a) (by omega) (by omega)) rfl rfl (by omega) ?_
          generalize hw58 : e_up w51 (17 * a + 89) (y6 + 1) z57 = w58
          have f59 : e_fr (kPm a m) w w58 := e_fr.up f52 hw58 (by unfold kPm; omega)
          have l60 : w58 (17 * a + 86) 8 = w (17 * a + 86) 8 := f59 (17 * a + 86) 8 (by unfold kPm; omega)
          have hT61 : e_Has kTy w58 := e_Has.ups hT54 hw58 (kA89 (a := a) _ (by omega) (by omega))
          refine e_Ok.inc (z := y6 + 1) rfl rfl (by omega) (by omega) ?_
          show e_Ok 20 elay kcode eI (d + 1) 10 (163, [(6, (0, y6 + 1)), (3, (4, x47)), (1, (4, x40)), (7, (0, z32)), (0, (1, 17 * a + 86)), (5, (0, y5))], [], w58) _
          refine e_Ok.run (t' := (31, [(6, (0, y6 + 1)), (3, (4, x47)), (1, (4, x40)), (7, (0, z32)), (0, (1, 17 * a + 86)), (5, (0, y5))], [], w58)) 1 rfl ?_
          refine e_Ok.sub kAlk (e_sub_of rfl ?_) (ih7 x40 x47 y5 (y6 + 1) w58 ⟨f59, hT61, (e_kn_sub (e_kn.oth (e_kn.ext j10 hw51 (by omega) (by omega)) hw58 (by omega)) (by omega) (by omega)), (e_kn_sub (e_kn.ext (e_kn.oth j11 hw51 (by omega)) hw58 (by omega) (by omega)) (by omega) (by omega)), by omega, by omega, by omega⟩ (by omega))
          exact ⟨rfl, rfl, rfl, rfl, rfl, trivial⟩
        · replace h30 : (w (17 * a + y6 + 97) 0 : Int) = 0 := by have q : ¬ ((w (17 * a + y6 + 97) 0 : Int) ≠ 0) := h30; omega
          refine e_Ok.run (t' := (68, [(7, (0, w (17 * a + y6 + 97) 3)), (0, (1, 17 * a + 86)), (1, (4, y1)), (3, (4, y3)), (5, (0, y5)), (6, (0, y6))], [(1, 17 * a + 86), (0, y5)], v1)) 2 rfl ?_
          refine e_Ok.getr (z := 17 * a + 87) rfl (lA0 (a := a) (by omega) (by omega)) rfl rfl ((j8 (17 * a + 86) 0 (by unfold kPm; omega)).trans (Eq.trans (e_Has.eq hT (kA_0 (a := a) (by omega) (by omega))) (by omega))) (by omega) ?_
          refine e_Ok.run (t' := (73, [(7, (0, w (17 * a + y6 + 97) 3)), (0, (1, 17 * a + 86)), (1, (4, y1)), (3, (4, y3)), (5, (0, y5)), (6, (0, y6))], [(0, y6), (1, 17 * a + 87), (0, y5)], v1)) 1 rfl ?_
          refine e_Ok.aald (z := 17 * a + y6 + 97) rfl (lA1 (a := a) (by omega) (by omega)) rfl (by omega) ((j8 (17 * a + 87) y6 (by unfold kPm; omega)).trans (Eq.trans (e_Has.eq hT (kA87 (a := a) (by omega) (by omega) (by omega))) (by omega))) (by omega) ?_
          have h62 := (e_Has.get hT (c := 17 * a + y6 + 97) (k := 7) (lo := (-2147483648)) (hi := 2147483647) (kJ_7 (a := a) (j := y6) (by omega) (by omega) (by omega)) (by decide))
          refine e_Ok.getf (z := w (17 * a + y6 + 97) 7) rfl (lJ (a := a) (j := y6) (by omega) (by omega) (by omega)) rfl rfl ((j8 (17 * a + y6 + 97) 7 (by unfold kPm; omega)).trans rfl) (by omega) ?_
          refine e_Ok.any rfl (eF_add_any _ _) (fun z63 z63a z63b => ?_)
          refine e_Ok.run (t' := (104, [(5, (0, z63)), (7, (0, w (17 * a + y6 + 97) 3)), (0, (1, 17 * a + 86)), (1, (4, y1)), (3, (4, y3)), (6, (0, y6))], [(0, z63), (4, w (17 * a + y6 + 97) 3), (4, y1)], v1)) 6 rfl ?_
          refine e_Ok.callS rfl (by omega) rfl rfl (c_250 (by omega) (by omega)) (fun r64 w65 h66 => ?_)
          obtain ⟨z68, rfl, rfl, q67r⟩ := h66
          show e_Ok 20 elay kcode eI (d + 1) 10 (107, [(5, (0, z63)), (7, (0, w (17 * a + y6 + 97) 3)), (0, (1, 17 * a + 86)), (1, (4, y1)), (3, (4, y3)), (6, (0, y6))], [(0, z68), (4, w (17 * a + y6 + 97) 3), (4, y1)], v1) _
          refine e_Ok.run (t' := (108, [(5, (0, z63)), (7, (0, w (17 * a + y6 + 97) 3)), (0, (1, 17 * a + 86)), (1, (4, y1)), (3, (4, y3)), (6, (0, y6))], [(4, z68), (4, w (17 * a + y6 + 97) 3), (4, y1)], v1)) 1 rfl ?_
          refine e_Ok.anyL rfl ⟨_, rfl⟩ (fun x69 => ?_)
          refine e_Ok.anyL rfl ⟨_, rfl⟩ (fun x70 => ?_)
          refine e_Ok.run (t' := (117, [(1, (4, x70)), (5, (0, z63)), (7, (0, w (17 * a + y6 + 97) 3)), (0, (1, 17 * a + 86)), (3, (4, y3)), (6, (0, y6))], [(0, z63), (4, w (17 * a + y6 + 97) 3), (4, y3)], v1)) 5 rfl ?_
          refine e_Ok.callS rfl (by omega) rfl rfl (c_249 (by omega)) (fun r71 w72 h73 => ?_)
          obtain ⟨z75, rfl, rfl, q74r⟩ := h73
          show e_Ok 20 elay kcode eI (d + 1) 10 (120, [(1, (4, x70)), (5, (0, z63)), (7, (0, w (17 * a + y6 + 97) 3)), (0, (1, 17 * a + 86)), (3, (4, y3)), (6, (0, y6))], [(0, z75), (4, w (17 * a + y6 + 97) 3), (4, y3)], v1) _
          refine e_Ok.run (t' := (121, [(1, (4, x70)), (5, (0, z63)), (7, (0, w (17 * a + y6 + 97) 3)), (0, (1, 17 * a + 86)), (3, (4, y3)), (6, (0, y6))], [(4, z75), (4, w (17 * a + y6 + 97) 3), (4, y3)], v1)) 1 rfl ?_
          refine e_Ok.anyL rfl ⟨_, rfl⟩ (fun x76 => ?_)
          refine e_Ok.anyL rfl ⟨_, rfl⟩ (fun x77 => ?_)
          refine e_Ok.run (t' := (125, [(3, (4, x77)), (1, (4, x70)), (5, (0, z63)), (7, (0, w (17 * a + y6 + 97) 3)), (0, (1, 17 * a + 86)), (6, (0, y6))], [(1, 17 * a + 86)], v1)) 2 rfl ?_
          refine e_Ok.getr (z := 17 * a + 88) rfl (lA0 (a := a) (by omega) (by omega)) rfl rfl ((j8 (17 * a + 86) 1 (by unfold kPm; omega)).trans (Eq.trans (e_Has.eq hT (kA_1 (a := a) (by omega) (by omega))) (by omega))) (by omega) ?_
          refine e_Ok.run (t' := (131, [(3, (4, x77)), (1, (4, x70)), (5, (0, z63)), (7, (0, w (17 * a + y6 + 97) 3)), (0, (1, 17 * a + 86)), (6, (0, y6))], [(0, 1), (0, y6), (1, 17 * a + 88)], v1)) 2 rfl ?_
          refine e_Ok.add (z := y6 + 1) rfl (by omega) (by omega) ?_
          refine e_Ok.run (t' := (136, [(3, (4, x77)), (1, (4, x70)), (5, (0, z63)), (7, (0, w (17 * a + y6 + 97) 3)), (0, (1, 17 * a + 86)), (6, (0, y6))], [(4, 524288), (4, x70), (0, y6 + 1), (1, 17 * a + 88)], v1)) 2 rfl ?_
          refine e_Ok.anyL rfl ⟨_, rfl⟩ (fun x78 => ?_)
          refine e_Ok.run (t' := (139, [(3, (4, x77)), (1, (4, x70)), (5, (0, z63)), (7, (0, w (17 * a + y6 + 97) 3)), (0, (1, 17 * a + 86)), (6, (0, y6))], [(0, 20), (4, x78), (0, y6 + 1), (1, 17 * a + 88)], v1)) 1 rfl ?_
          refine e_Ok.anyS rfl ⟨_, rfl⟩ (fun x79 => ?_)
          refine e_Ok.l2i rfl (fun z80 z80a z80b => ?_)
          refine e_Ok.ast rfl (lA2 (a := a) (by omega) (by omega)) rfl rfl (by omega) ?_
          generalize hw81 : e_up v1 (17 * a + 88) (y6 + 1) z80 = w81
          have f82 : e_fr (kPm a m) w w81 := e_fr.up j8 hw81 (by unfold kPm; omega)
          have l83 : w81 (17 * a + 86) 8 = w (17 * a + 86) 8 := f82 (17 * a + 86) 8 (by unfold kPm; omega)
          have hT84 : e_Has kTy w81 := e_Has.ups j9 hw81 (kA88 (a := a) _ (by omega) (by omega))
          refine e_Ok.run (t' := (143, [(3, (4, x77)), (1, (4, x70)), (5, (0, z63)), (7, (0, w (17 * a + y6 + 97) 3)), (0, (1, 17 * a + 86)), (6, (0, y6))], [(1, 17 * a + 86)], w81)) 1 rfl ?_
          refine e_Ok.getr (z := 17 * a + 89) rfl (lA0 (a := a) (by omega) (by omega)) rfl rfl (by rw [← hw81]; exact (e_up_ne _ _ (Or.inl (by omega))).trans ((j8 (17 * a + 86) 2 (by unfold kPm; omega)).trans (Eq.trans (e_Has.eq hT (kA_2 (a := a) (by omega) (by omega))) (by omega)))) (by omega) ?_
          refine e_Ok.run (t' := (149, [(3, (4, x77)), (1, (4, x70)), (5, (0, z63)), (7, (0, w (17 * a + y6 + 97) 3)), (0, (1, 17 * a + 86)), (6, (0, y6))], [(0, 1), (0, y6), (1, 17 * a + 89)], w81)) 2 rfl ?_
          refine e_Ok.add (z := y6 + 1) rfl (by omega) (by omega) ?_
          refine e_Ok.run (t' := (154, [(3, (4, x77)), (1, (4, x70)), (5, (0, z63)), (7, (0, w (17 * a + y6 + 97) 3)), (0, (1, 17 * a + 86)), (6, (0, y6))], [(4, 524288), (4, x77), (0, y6 + 1), (1, 17 * a + 89)], w81)) 2 rfl ?_
          refine e_Ok.anyL rfl ⟨_, rfl⟩ (fun x85 => ?_)
          refine e_Ok.run (t' := (157, [(3, (4, x77)), (1, (4, x70)), (5, (0, z63)), (7, (0, w (17 * a + y6 + 97) 3)), (0, (1, 17 * a + 86)), (6, (0, y6))], [(0, 20), (4, x85), (0, y6 + 1), (1, 17 * a + 89)], w81)) 1 rfl ?_
          refine e_Ok.anyS rfl ⟨_, rfl⟩ (fun x86 => ?_)
          refine e_Ok.l2i rfl (fun z87 z87a z87b => ?_)
          refine e_Ok.ast rfl (lA3 (a := a) (by omega) (by omega)) rfl rfl (by omega) ?_
          generalize hw88 : e_up w81 (17 * a + 89) (y6 + 1) z87 = w88
          have f89 : e_fr (kPm a m) w w88 := e_fr.up f82 hw88 (by unfold kPm; omega)
          have l90 : w88 (17 * a + 86) 8 = w (17 * a + 86) 8 := f89 (17 * a + 86) 8 (by unfold kPm; omega)
          have hT91 : e_Has kTy w88 := e_Has.ups hT84 hw88 (kA89 (a := a) _ (by omega) (by omega))
          refine e_Ok.inc (z := y6 + 1) rfl rfl (by omega) (by omega) ?_
          show e_Ok 20 elay kcode eI (d + 1) 10 (163, [(6, (0, y6 + 1)), (3, (4, x77)), (1, (4, x70)), (5, (0, z63)), (7, (0, w (17 * a + y6 + 97) 3)), (0, (1, 17 * a + 86))], [], w88) _
          refine e_Ok.run (t' := (31, [(6, (0, y6 + 1)), (3, (4, x77)), (1, (4, x70)), (5, (0, z63)), (7, (0, w (17 * a + y6 + 97) 3)), (0, (1, 17 * a + 86))], [], w88)) 1 rfl ?_
          refine e_Ok.sub kAlk (e_sub_of rfl ?_) (ih7 x70 x77 z63 (y6 + 1) w88 ⟨f89, hT91, (e_kn_sub (e_kn.oth (e_kn.ext j10 hw81 (by omega) (by omega)) hw88 (by omega)) (by omega) (by omega)), (e_kn_sub (e_kn.ext (e_kn.oth j11 hw81 (by omega)) hw88 (by omega) (by omega)) (by omega) (by omega)), by omega, by omega, by omega⟩ (by omega))
          exact ⟨rfl, rfl, rfl, rfl, rfl, trivial⟩
  refine e_Ok.sub kAlk (e_sub_of rfl ?_) (hL6 (6 + 1 : Int).toNat x2 x4 (w (17 * a + 86) 9) 0 w ⟨(e_fr.refl w), hT, (fun i g1 g2 => by rw [show i = 0 by omega]; exact hx0), (fun i g1 g2 => by rw [show i = 0 by omega]; exact hy0), by omega, by omega, by omega⟩ (by omega))
  exact ⟨rfl, rfl, rfl, rfl, rfl, trivial⟩
theorem c_452_68 {d : Nat} {w : eW} (hT : e_Has kTy w) : e_Ok 20 elay kcode eI d 452 (0, [(0, (1, 268)), (1, (0, 0))], [], w) (fun r w' => r = [] ∧ e_fr kF68 w w' ∧ e_Has kTy w' ∧ (∀ k, 0 ≤ k → k < 1000 → w' 268 k = 0)) := by
  refine e_Ok.run (t' := (3, [(2, (0, 0)), (0, (1, 268)), (1, (0, 0))], [(1, 268)], w)) 3 rfl ?_
  refine e_Ok.alen rfl rfl rfl ?_
  refine e_Ok.run (t' := (5, [(3, (0, 1000)), (2, (0, 0)), (0, (1, 268)), (1, (0, 0))], [], w)) 1 rfl ?_
  have hL1 : ∀ (nn : Nat) (y2 : Int) (v1 : eW), e_fr kF68 w v1 ∧ e_Has kTy v1 ∧ (∀ i, 0 ≤ i → i < y2 → v1 268 i = 0) ∧ (0 ≤ y2 ∧ y2 ≤ 1000) → 1000 - y2 < nn → e_Ok 20 elay kcode eI d 452 (5, [(0, (1, 268)), (1, (0, 0)), (2, (0, y2)), (3, (0, 1000))], [], v1) (fun r w' => r = [] ∧ e_fr kF68 w w' ∧ e_Has kTy w' ∧ (∀ k, 0 ≤ k → k < 1000 → w' 268 k = 0)) := by
    intro nn
    induction nn with
    | zero => intro y2 v1 hj hm; obtain ⟨j3, j4, j5, j6⟩ := hj; exfalso; omega
    | succ nn ih2 =>
      intro y2 v1 hj hm
      obtain ⟨j3, j4, j5, j6⟩ := hj
      refine e_Ok.run (t' := (7, [(0, (1, 268)), (1, (0, 0)), (2, (0, y2)), (3, (0, 1000))], [(0, 1000), (0, y2)], v1)) 2 rfl ?_
      refine e_Ok.if2 rfl (fun h7 => ?_) (fun h7 => ?_)
      · replace h7 : (y2 : Int) ≥ 1000 := h7
        refine e_Ok.rets rfl rfl ?_
        exact ⟨rfl, j3, j4, fun k g1 g2 => j5 k g1 (by omega)⟩
      · replace h7 : (y2 : Int) < 1000 := by have q : ¬ ((y2 : Int) ≥ 1000) := h7; omega
        refine e_Ok.run (t' := (13, [(0, (1, 268)), (1, (0, 0)), (2, (0, y2)), (3, (0, 1000))], [(0, 0), (0, y2), (1, 268)], v1)) 3 rfl ?_
        refine e_Ok.ast rfl (el_o rfl) rfl rfl (by omega) ?_
        generalize hw8 : e_up v1 268 y2 0 = w8
        have f9 : e_fr kF68 w w8 := e_fr.up j3 hw8 (by unfold kF68; omega)
        have hT10 : e_Has kTy w8 := e_Has.ups j4 hw8 rfl
        refine e_Ok.inc (z := y2 + 1) rfl rfl (by omega) (by omega) ?_
        show e_Ok 20 elay kcode eI d 452 (17, [(2, (0, y2 + 1)), (0, (1, 268)), (1, (0, 0)), (3, (0, 1000))], [], w8) _
        refine e_Ok.run (t' := (5, [(2, (0, y2 + 1)), (0, (1, 268)), (1, (0, 0)), (3, (0, 1000))], [], w8)) 1 rfl ?_
        refine e_Ok.sub kAlk (e_sub_of rfl ?_) (ih2 (y2 + 1) w8 ⟨f9, hT10, (fun i g1 g2 => by rw [← hw8]; by_cases e : i = y2; (rw [e, e_up_eq]); (rw [e_up_ne _ _ (Or.inr e)]; exact j5 i g1 (by omega))), by omega⟩ (by omega))
        exact ⟨rfl, rfl, rfl, rfl, trivial⟩
  refine e_Ok.sub kAlk (e_sub_of rfl ?_) (hL1 (1000 + 1 : Int).toNat 0 w ⟨(e_fr.refl w), hT, (fun i g1 g2 => by omega), by omega⟩ (by omega))
  exact ⟨rfl, rfl, rfl, rfl, trivial⟩
theorem e_Ok.and {d M : Nat} {t : eS} {Q Q' : List eV → eW → Prop} (h : e_Ok 20 elay kcode eI d M t Q) (h' : e_Ok 20 elay kcode eI d M t Q') : e_Ok 20 elay kcode eI d M t (fun r v => Q r v ∧ Q' r v) := by
  obtain ⟨n, r, v, h1, h2⟩ := h
  obtain ⟨n', r', v', h3, h4⟩ := h'
  have e := e_go_one h1 h3
  have e1 : r = r' := congrArg Prod.fst e
  have e2 : v = v' := congrArg Prod.snd e
  exact ⟨n, r, v, h1, h2, by rw [e1, e2]; exact h4⟩
theorem c_10_pm {d : Nat} (hd : 22 ≤ d) {w : eW} (hT : e_Has kTy w) {a m : Int} (ga : 0 ≤ a ∧ a ≤ 3) (hm : w (17 * a + 86) 8 = m) (hx : kn1 (w (17 * a + 88) 0)) (hy : kn1 (w (17 * a + 89) 0)) : e_Ok 20 elay kcode eI d 10 (0, [(0, (1, 17 * a + 86))], [], w) (fun r w' => r = [] ∧ e_fr (kPm a m) w w' ∧ e_Has kTy w' ∧ aK w' a ∧ aP w' a) := by
  refine (e_Ok.and (c_10_p hd hT ga hx hy) (c_10_m hd hT ga hm hx hy)).imp (fun r v g => ?_)
  obtain ⟨⟨g1, -, g3, g4, g5⟩, -, g6, -⟩ := g
  exact ⟨g1, g6, g3, g4, g5⟩
section Db
variable {w w' : eW} {f : Int → Int} {m N t og : Int}
theorem aK.all {a : Int} (ga : 0 ≤ a ∧ a ≤ 3) {S : Int → Int → Prop} (fr : e_fr S w w') (hS : ∀ b c k, 0 ≤ b → b ≤ 3 → b ≠ a → S c k → c ≠ 17 * b + 88 ∧ c ≠ 17 * b + 89 ∧ ¬ (c = 17 * b + 86 ∧ k = 8)) (ka : ∀ b, 0 ≤ b → b ≤ 3 → aK w b) (h : aK w' a) : ∀ b, 0 ≤ b → b ≤ 3 → aK w' b := fun b g1 g2 => by
  by_cases e : b = a
  · rw [e]; exact h
  · exact (ka b g1 g2).eq (fun c k g => fr c k (fun g3 => by have z := hS b c k g1 g2 e g3; omega))
theorem aK.any {S : Int → Int → Prop} (fr : e_fr S w w') (hS : ∀ b c k, 0 ≤ b → b ≤ 3 → S c k → c ≠ 17 * b + 88 ∧ c ≠ 17 * b + 89 ∧ ¬ (c = 17 * b + 86 ∧ k = 8)) (ka : ∀ b, 0 ≤ b → b ≤ 3 → aK w b) : ∀ b, 0 ≤ b → b ≤ 3 → aK w' b := fun b g1 g2 => (ka b g1 g2).eq (fun c k g => fr c k (fun g3 => by have z := hS b c k g1 g2 g3; omega))
/-- how far the search has come: tail t, N nodes, from og -/
def BF (w : eW) (f : Int → Int) (m N t og : Int) : Prop := (1 ≤ t ∧ t ≤ 1000) ∧ (∀ i, 0 ≤ i → i < t → 0 ≤ w 267 i ∧ w 267 i < N) ∧ (w 267 0 = og ∧ w 268 og = 100) ∧ (∀ i, 1 ≤ i → i < t → (1 ≤ w 268 (w 267 i) ∧ w 268 (w 267 i) ≤ 2 * m) ∧ ∃ j, (0 ≤ j ∧ j < i) ∧ kln f (w 267 j) (w 267 i) (w 268 (w 267 i) - 1)) ∧ ∀ x, 0 ≤ x → x < N → w 268 x = -1 ∨ w 268 x = 0 ∨ ∃ i, (0 ≤ i ∧ i < t) ∧ w 267 i = x
theorem BF.pos (h : BF w f m N t og) {i : Int} (hi : 0 ≤ i ∧ i < t) : 1 ≤ w 268 (w 267 i) ∧ (i = 0 → w 268 (w 267 i) = 100) ∧ (1 ≤ i → w 268 (w 267 i) ≤ 2 * m) := by
  by_cases e : i = 0
  · rw [e, h.2.2.1.1, h.2.2.1.2]
    exact ⟨by omega, fun _ => rfl, fun g => by omega⟩
  · have z := (h.2.2.2.1 i (by omega) hi.2).1
    exact ⟨z.1, fun g => absurd g e, fun _ => z.2⟩
theorem BF.came (h : BF w f m N t og) (hm : m ≤ 6) {x : Int} (hx : 0 ≤ x ∧ x < N) : -1 ≤ w 268 x ∧ w 268 x ≤ 100 := by
  rcases h.2.2.2.2 x hx.1 hx.2 with g | g | ⟨i, hi, g⟩
  · omega
  · omega
  · have z := h.pos hi
    rw [g] at z
    by_cases e : i = 0
    · have := z.2.1 e; omega
    · have := z.2.2 (by omega); omega
theorem BF.eq (h : BF w f m N t og) (e : ∀ c k, (c = 267 ∨ c = 268) → w' c k = w c k) : BF w' f m N t og := by
  obtain ⟨h1, h2, h3, h4, h5⟩ := h
  have e7 : w' 267 = w 267 := funext (fun k => e 267 k (by omega))
  have e8 : w' 268 = w 268 := funext (fun k => e 268 k (by omega))
  unfold BF
  rw [e7, e8]
  exact ⟨h1, h2, h3, h4, h5⟩
/-- a node that was not come to is blocked, or not -/
theorem BF.blk (h : BF w f m N t og) {x : Int} (hx : 0 ≤ x ∧ x < N) (h0 : w 268 x = 0) (e7 : ∀ k, w' 267 k = w 267 k) (e8 : ∀ k, k ≠ x → w' 268 k = w 268 k) (e9 : w' 268 x = w 268 x ∨ w' 268 x = -1) : BF w' f m N t og := by
  have ne : ∀ i, 0 ≤ i → i < t → w 267 i ≠ x := fun i g1 g2 g3 => by
    have z := (h.pos ⟨g1, g2⟩).1
    rw [g3] at z
    omega
  obtain ⟨h1, h2, h3, h4, h5⟩ := h
  refine ⟨h1, fun i g1 g2 => by rw [e7]; exact h2 i g1 g2, ⟨by rw [e7]; exact h3.1, ?_⟩, fun i g1 g2 => ?_, fun y g1 g2 => ?_⟩
  · rw [e8 og (by have z := ne 0 (by omega) (by omega); rw [h3.1] at z; exact z)]
    exact h3.2
  · obtain ⟨z1, j, z2, z3⟩ := h4 i g1 g2
    rw [e7 i, e8 _ (ne i (by omega) g2)]
    exact ⟨z1, j, z2, by rw [e7]; exact z3⟩
  · by_cases e : y = x
    · rw [e]
      rcases e9 with g | g
      · right; left; rw [g]; exact h0
      · left; exact g
    · rw [e8 y e]
      rcases h5 y g1 g2 with g | g | ⟨i, hi, g⟩
      · exact Or.inl g
      · exact Or.inr (Or.inl g)
      · exact Or.inr (Or.inr ⟨i, hi, by rw [e7]; exact g⟩)
theorem BF.add (h : BF w f m N t og) {x s i : Int} {w1 : eW} (hx : 0 ≤ x ∧ x < N) (h0 : w 268 x < 1) (ht : t < 1000) (hs : 0 ≤ s ∧ s < 2 * m) (hi : 0 ≤ i ∧ i < t) (hl : kln f (w 267 i) x s) (k1 : e_up w 268 x (s + 1) = w1) (k2 : e_up w1 267 t x = w') : BF w' f m N (t + 1) og := by
  have ne : ∀ i, 0 ≤ i → i < t → w 267 i ≠ x := fun i g1 g2 g3 => by
    have z := (h.pos ⟨g1, g2⟩).1
    rw [g3] at z
    omega
  have e7 : ∀ k, k ≠ t → w' 267 k = w 267 k := fun k g => by rw [← k2, e_up_ne _ _ (by omega), ← k1, e_up_ne _ _ (by omega)]
  have e7t : w' 267 t = x := by rw [← k2, e_up_eq]
  have e8 : ∀ k, k ≠ x → w' 268 k = w 268 k := fun k g => by rw [← k2, e_up_ne _ _ (by omega), ← k1, e_up_ne _ _ (by omega)]
  have e8x : w' 268 x = s + 1 := by rw [← k2, e_up_ne _ _ (by omega), ← k1, e_up_eq]
  obtain ⟨h1, h2, h3, h4, h5⟩ := h
  refine ⟨by omega, fun i g1 g2 => ?_, ⟨by rw [e7 0 (by omega)]; exact h3.1, ?_⟩, fun i' g1 g2 => ?_, fun y g1 g2 => ?_⟩
  · by_cases e : i = t
    · rw [e, e7t]; exact hx
    · rw [e7 i e]; exact h2 i g1 (by omega)
  · rw [e8 og (by have z := ne 0 (by omega) (by omega); rw [h3.1] at z; exact z)]
    exact h3.2
  · by_cases e : i' = t
    · rw [e, e7t, e8x]
      exact ⟨by omega, i, by omega, by rw [e7 i (by omega), show s + 1 - 1 = s by omega]; exact hl⟩
    · obtain ⟨z1, j, z2, z3⟩ := h4 i' g1 (by omega)
      rw [e7 i' e, e8 _ (ne i' (by omega) (by omega))]
      exact ⟨z1, j, z2, by rw [e7 j (by omega)]; exact z3⟩
  · by_cases e : y = x
    · exact Or.inr (Or.inr ⟨t, by omega, by rw [e7t]; exact e.symm⟩)
    · rw [e8 y e]
      rcases h5 y g1 g2 with g | g | ⟨j, hj, g⟩
      · exact Or.inl g
      · exact Or.inr (Or.inl g)
      · exact Or.inr (Or.inr ⟨j, by omega, by rw [e7 j (by omega)]; exact g⟩)
theorem BF.start {w1 : eW} (ho : 0 ≤ og ∧ og < N) (h0 : ∀ k, 0 ≤ k → k < 1000 → w 268 k = 0) (hN : N ≤ 1000) (k1 : e_up w 268 og 100 = w1) (k2 : e_up w1 267 0 og = w') : BF w' f m N 1 og := by
  have e8 : ∀ k, k ≠ og → w' 268 k = w 268 k := fun k g => by rw [← k2, e_up_ne _ _ (by omega), ← k1, e_up_ne _ _ (by omega)]
  have e8o : w' 268 og = 100 := by rw [← k2, e_up_ne _ _ (by omega), ← k1, e_up_eq]
  have e7 : w' 267 0 = og := by rw [← k2, e_up_eq]
  refine ⟨by omega, fun i g1 g2 => by rw [show i = 0 by omega, e7]; exact ho, ⟨e7, e8o⟩, fun i g1 g2 => by omega, fun x g1 g2 => ?_⟩
  by_cases e : x = og
  · exact Or.inr (Or.inr ⟨0, by omega, by rw [e7]; exact e.symm⟩)
  · exact Or.inr (Or.inl (by rw [e8 x e]; exact h0 x g1 (by omega)))
theorem sr_nh {a m c k : Int} (ga : 0 ≤ a ∧ a ≤ 3) (hm : m ≤ 6) (h : kSr a m c k) : kNh c k := by
  unfold kSr at h
  rcases h with h | h | h | h | h
  · exact Or.inl (Or.inr (Or.inr (Or.inr (Or.inr (Or.inr (Or.inr (Or.inr (Or.inr (Or.inr (Or.inr (Or.inr (Or.inr (Or.inr (Or.inr (Or.inr (Or.inr ((by omega))))))))))))))))))
  · exact Or.inl (Or.inr (Or.inr (Or.inr (Or.inr (Or.inr (Or.inr (Or.inr (Or.inr (Or.inr (Or.inr (Or.inr (Or.inr (Or.inr (Or.inr (Or.inl (by omega))))))))))))))))
  · exact Or.inl (Or.inr (Or.inr (Or.inr (Or.inr (Or.inr (Or.inr (Or.inr (Or.inr (Or.inr (Or.inr (Or.inl (by omega))))))))))))
  · unfold kNh; omega
  · unfold kNh; omega
theorem aQ.sr {a m : Int} (ga : 0 ≤ a ∧ a ≤ 3) (hm : m ≤ 6) (fr : e_fr (kSr a m) w w') (hT : e_Has kTy w) (hT' : e_Has kTy w') (ha : aP w a → aP w' a) : aQ w w' := fun b g1 g2 h => by
  by_cases e : b = a
  · rw [e] at h ⊢
    exact ha h
  · have hjn := kn_joints hT (a := b) ⟨g1, g2⟩
    refine h.eq (fr _ _ (by unfold kSr; omega)) (fun c k q => ?_) (fun k g => ⟨fr _ _ (by unfold kSr; omega), fr _ _ (by unfold kSr; omega)⟩)
    rcases q with q | ⟨j, hj, rfl, rfl⟩
    · exact Kq.of (fr.mono (fun c k g => sr_nh ga hm g)) hT hT' c k q
    · exact fr _ _ (by unfold kSr; omega)
end Db
set_option maxHeartbeats 4000000 in
theorem c_104 {d : Nat} (hd : 24 ≤ d) {w : eW} (hT : e_Has kTy w) {a n m : Int} (hL : lyI w a n m) (ga : 0 ≤ a ∧ a ≤ 3) {cn s x : Int} (gc : 0 ≤ cn ∧ cn ≤ 4) (gs : 0 ≤ s ∧ s < 2 * m) (gx : 0 ≤ x ∧ x ≤ 999) (ka : ∀ b, 0 ≤ b → b ≤ 3 → aK w b) (hv : ∀ j, 0 ≤ j ∧ j < m → -100000 ≤ w (17 * a + j + 97) 7 ∧ w (17 * a + j + 97) 7 ≤ 100000) : e_Ok 20 elay kcode eI d 104 (0, [(0, (1, 262)), (1, (1, 9)), (2, (0, cn)), (3, (1, 250)), (4, (0, a)), (5, (0, s)), (6, (0, x))], [], w) (fun r w' => ∃ z : Int, r = [(0, z)] ∧ e_fr (kPs a m) w w' ∧ e_Has kTy w' ∧ (0 ≤ z ∧ z ≤ 1) ∧ (∀ b, 0 ≤ b → b ≤ 3 → aK w' b) ∧ (∀ j, 0 ≤ j → j ≤ 5 → w' (17 * a + j + 97) 7 = w (17 * a + j + 97) 7) ∧ (∀ k, k ≠ x → w' 268 k = w 268 k) ∧ (w' 268 x = w 268 x ∨ w' 268 x = -1)) := by
  obtain ⟨d, rfl⟩ : ∃ e, d = e + 1 := ⟨d - 1, by omega⟩
  have hm := hL.1.2.1
  have hm8 : w (17 * a + 86) 8 = m := hL.1.2.2.1
  have hn1 := hL.1.1
  have hw1 : w 262 1 = n := hL.1.2.2.2.1
  have hw2 := hL.1.2.2.2.2; unfold kn1 at hw2
  have hNk := hL.2.2.1
  refine e_Ok.run (t' := (3, [(0, (1, 262)), (1, (1, 9)), (2, (0, cn)), (3, (1, 250)), (4, (0, a)), (5, (0, s)), (6, (0, x))], [(0, a), (1, 9)], w)) 2 rfl ?_
  refine e_Ok.aald (z := 17 * a + 86) rfl (el_o rfl) rfl (by omega) (Eq.trans (e_Has.eq hT (k9 (by omega))) (by omega)) (by omega) ?_
  refine e_Ok.getr (z := 17 * a + 87) rfl (lA0 (a := a) (by omega) (by omega)) rfl rfl (Eq.trans (e_Has.eq hT (kA_0 (a := a) (by omega) (by omega))) (by omega)) (by omega) ?_
  refine e_Ok.run (t' := (10, [(0, (1, 262)), (1, (1, 9)), (2, (0, cn)), (3, (1, 250)), (4, (0, a)), (5, (0, s)), (6, (0, x))], [(0, 2), (0, s), (1, 17 * a + 87)], w)) 2 rfl ?_
  refine e_Ok.divn (fun z1 hz1 => ?_) rfl (by omega) (by omega)
  replace hz1 : z1 = s / 2 := hz1
  have z1r : 0 ≤ z1 ∧ z1 ≤ 5 := by omega
  refine e_Ok.aald (z := 17 * a + z1 + 97) rfl (lA1 (a := a) (by omega) (by omega)) rfl (by omega) (Eq.trans (e_Has.eq hT (kA87 (a := a) (by omega) (by omega) (by omega))) (by omega)) (by omega) ?_
  refine e_Ok.run (t' := (14, [(7, (1, 17 * a + z1 + 97)), (0, (1, 262)), (1, (1, 9)), (2, (0, cn)), (3, (1, 250)), (4, (0, a)), (5, (0, s)), (6, (0, x))], [], w)) 1 rfl ?_
  have hvz : -100000 ≤ w (17 * a + z1 + 97) 7 ∧ w (17 * a + z1 + 97) 7 ≤ 100000 := hv z1 (by omega)
  refine e_Ok.run (t' := (16, [(7, (1, 17 * a + z1 + 97)), (0, (1, 262)), (1, (1, 9)), (2, (0, cn)), (3, (1, 250)), (4, (0, a)), (5, (0, s)), (6, (0, x))], [(1, 17 * a + z1 + 97)], w)) 1 rfl ?_
  refine e_Ok.getf (z := w (17 * a + z1 + 97) 7) rfl (lJ (a := a) (j := z1) (by omega) (by omega) (by omega)) rfl rfl rfl (by omega) ?_
  refine e_Ok.run (t' := (25, [(9, (0, 1)), (8, (0, w (17 * a + z1 + 97) 7)), (7, (1, 17 * a + z1 + 97)), (0, (1, 262)), (1, (1, 9)), (2, (0, cn)), (3, (1, 250)), (4, (0, a)), (5, (0, s)), (6, (0, x))], [(1, 262)], w)) 4 rfl ?_
  refine e_Ok.getf (z := w 262 1) rfl (el_o rfl) rfl rfl rfl (by omega) ?_
  refine e_Ok.run (t' := (30, [(10, (0, w 262 1)), (9, (0, 1)), (8, (0, w (17 * a + z1 + 97) 7)), (7, (1, 17 * a + z1 + 97)), (0, (1, 262)), (1, (1, 9)), (2, (0, cn)), (3, (1, 250)), (4, (0, a)), (5, (0, s)), (6, (0, x))], [], w)) 1 rfl ?_
  have hL2 : ∀ (nn : Nat) (y9 : Int) (y10 : Int) (v1 : eW), e_fr (kPs a m) w v1 ∧ e_Has kTy v1 ∧ (∀ b, 0 ≤ b → b ≤ 3 → aK v1 b) ∧ (∀ j, 0 ≤ j → j ≤ 5 → j ≠ z1 → v1 (17 * a + j + 97) 7 = w (17 * a + j + 97) 7) ∧ (((∀ k, k ≠ x → v1 268 k = w 268 k) ∧ (v1 268 x = w 268 x ∨ v1 268 x = -1))) ∧ ((0 ≤ y9 ∧ y9 ≤ 1)) ∧ ((0 ≤ y10 ∧ y10 ≤ 16)) → y10 < nn → e_Ok 20 elay kcode eI (d + 1) 104 (30, [(0, (1, 262)), (1, (1, 9)), (2, (0, cn)), (3, (1, 250)), (4, (0, a)), (5, (0, s)), (6, (0, x)), (7, (1, 17 * a + z1 + 97)), (8, (0, w (17 * a + z1 + 97) 7)), (9, (0, y9)), (10, (0, y10))], [], v1) (fun r w' => ∃ z : Int, r = [(0, z)] ∧ e_fr (kPs a m) w w' ∧ e_Has kTy w' ∧ (0 ≤ z ∧ z ≤ 1) ∧ (∀ b, 0 ≤ b → b ≤ 3 → aK w' b) ∧ (∀ j, 0 ≤ j → j ≤ 5 → w' (17 * a + j + 97) 7 = w (17 * a + j + 97) 7) ∧ (∀ k, k ≠ x → w' 268 k = w 268 k) ∧ (w' 268 x = w 268 x ∨ w' 268 x = -1)) := by
    intro nn
    induction nn with
    | zero => intro y9 y10 v1 hj hm; obtain ⟨j4, j5, j6, j7, j8, j9, j10⟩ := hj; exfalso; omega
    | succ nn ih3 =>
      intro y9 y10 v1 hj hm
      obtain ⟨j4, j5, j6, j7, j8, j9, j10⟩ := hj
      refine e_Ok.run (t' := (32, [(0, (1, 262)), (1, (1, 9)), (2, (0, cn)), (3, (1, 250)), (4, (0, a)), (5, (0, s)), (6, (0, x)), (7, (1, 17 * a + z1 + 97)), (8, (0, w (17 * a + z1 + 97) 7)), (9, (0, y9)), (10, (0, y10))], [(0, y10)], v1)) 1 rfl ?_
      refine e_Ok.if1 rfl (fun h11 => ?_) (fun h11 => ?_)
      · replace h11 : (y10 : Int) ≤ 0 := h11
        refine e_Ok.run (t' := (127, [(0, (1, 262)), (1, (1, 9)), (2, (0, cn)), (3, (1, 250)), (4, (0, a)), (5, (0, s)), (6, (0, x)), (7, (1, 17 * a + z1 + 97)), (8, (0, w (17 * a + z1 + 97) 7)), (9, (0, y9)), (10, (0, y10))], [(0, w (17 * a + z1 + 97) 7), (1, 17 * a + z1 + 97)], v1)) 2 rfl ?_
        refine e_Ok.putf rfl (lJ (a := a) (j := z1) (by omega) (by omega) (by omega)) rfl rfl ?_
        generalize hw12 : e_up v1 (17 * a + z1 + 97) 7 (w (17 * a + z1 + 97) 7) = w12
        have f13 : e_fr (kPs a m) w w12 := e_fr.up j4 hw12 (by unfold kPs; omega)
        have hT14 : e_Has kTy w12 := e_Has.upr j5 hw12 (kJ_7 (a := a) (j := z1) (by omega) (by omega) (by omega)) (by omega)
        refine e_Ok.run (t' := (132, [(0, (1, 262)), (1, (1, 9)), (2, (0, cn)), (3, (1, 250)), (4, (0, a)), (5, (0, s)), (6, (0, x)), (7, (1, 17 * a + z1 + 97)), (8, (0, w (17 * a + z1 + 97) 7)), (9, (0, y9)), (10, (0, y10))], [(0, y9)], w12)) 1 rfl ?_
        refine e_Ok.retb rfl (by omega) ?_
        exact ⟨_, rfl, f13, hT14, by omega, (fun b g1 g2 => (j6 b g1 g2).up hw12 (by omega) (by omega) (by omega)), (fun j g1 g2 => by by_cases e : j = z1; (rw [e, ← hw12, e_up_eq]); (rw [← hw12, e_up_ne _ _ (by omega)]; exact j7 j g1 g2 e)), (fun k g => by rw [← hw12, e_up_ne _ _ (by omega)]; exact j8.1 k g), (by rw [← hw12, e_up_ne _ _ (by omega)]; exact j8.2)⟩
      · replace h11 : (y10 : Int) > 0 := by have q : ¬ ((y10 : Int) ≤ 0) := h11; omega
        refine e_Ok.run (t' := (37, [(0, (1, 262)), (1, (1, 9)), (2, (0, cn)), (3, (1, 250)), (4, (0, a)), (5, (0, s)), (6, (0, x)), (7, (1, 17 * a + z1 + 97)), (8, (0, w (17 * a + z1 + 97) 7)), (9, (0, y9)), (10, (0, y10))], [(0, y9)], v1)) 1 rfl ?_
        refine e_Ok.if1 rfl (fun h15 => ?_) (fun h15 => ?_)
        · replace h15 : (y9 : Int) = 0 := h15
          refine e_Ok.run (t' := (127, [(0, (1, 262)), (1, (1, 9)), (2, (0, cn)), (3, (1, 250)), (4, (0, a)), (5, (0, s)), (6, (0, x)), (7, (1, 17 * a + z1 + 97)), (8, (0, w (17 * a + z1 + 97) 7)), (9, (0, y9)), (10, (0, y10))], [(0, w (17 * a + z1 + 97) 7), (1, 17 * a + z1 + 97)], v1)) 2 rfl ?_
          refine e_Ok.putf rfl (lJ (a := a) (j := z1) (by omega) (by omega) (by omega)) rfl rfl ?_
          generalize hw16 : e_up v1 (17 * a + z1 + 97) 7 (w (17 * a + z1 + 97) 7) = w16
          have f17 : e_fr (kPs a m) w w16 := e_fr.up j4 hw16 (by unfold kPs; omega)
          have hT18 : e_Has kTy w16 := e_Has.upr j5 hw16 (kJ_7 (a := a) (j := z1) (by omega) (by omega) (by omega)) (by omega)
          refine e_Ok.run (t' := (132, [(0, (1, 262)), (1, (1, 9)), (2, (0, cn)), (3, (1, 250)), (4, (0, a)), (5, (0, s)), (6, (0, x)), (7, (1, 17 * a + z1 + 97)), (8, (0, w (17 * a + z1 + 97) 7)), (9, (0, y9)), (10, (0, y10))], [(0, y9)], w16)) 1 rfl ?_
          refine e_Ok.retb rfl (by omega) ?_
          exact ⟨_, rfl, f17, hT18, by omega, (fun b g1 g2 => (j6 b g1 g2).up hw16 (by omega) (by omega) (by omega)), (fun j g1 g2 => by by_cases e : j = z1; (rw [e, ← hw16, e_up_eq]); (rw [← hw16, e_up_ne _ _ (by omega)]; exact j7 j g1 g2 e)), (fun k g => by rw [← hw16, e_up_ne _ _ (by omega)]; exact j8.1 k g), (by rw [← hw16, e_up_ne _ _ (by omega)]; exact j8.2)⟩
        · replace h15 : (y9 : Int) ≠ 0 := by have q : ¬ ((y9 : Int) = 0) := h15; omega
          refine e_Ok.run (t' := (45, [(0, (1, 262)), (1, (1, 9)), (2, (0, cn)), (3, (1, 250)), (4, (0, a)), (5, (0, s)), (6, (0, x)), (7, (1, 17 * a + z1 + 97)), (8, (0, w (17 * a + z1 + 97) 7)), (9, (0, y9)), (10, (0, y10))], [(0, 2), (0, s), (1, 17 * a + z1 + 97)], v1)) 3 rfl ?_
          refine e_Ok.remn (fun z19 hz19 => ?_) rfl (by omega) (by omega)
          replace hz19 : z19 = s % 2 := hz19
          have z19r : 0 ≤ z19 ∧ z19 ≤ 1 := by omega
          refine e_Ok.if1 rfl (fun h20 => ?_) (fun h20 => ?_)
          · replace h20 : (z19 : Int) ≠ 0 := h20
            refine e_Ok.run (t' := (61, [(0, (1, 262)), (1, (1, 9)), (2, (0, cn)), (3, (1, 250)), (4, (0, a)), (5, (0, s)), (6, (0, x)), (7, (1, 17 * a + z1 + 97)), (8, (0, w (17 * a + z1 + 97) 7)), (9, (0, y9)), (10, (0, y10))], [(0, y10), (0, w (17 * a + z1 + 97) 7), (1, 17 * a + z1 + 97)], v1)) 2 rfl ?_
            refine e_Ok.sub' (z := w (17 * a + z1 + 97) 7 - y10) rfl (by omega) (by omega) ?_
            refine e_Ok.putf rfl (lJ (a := a) (j := z1) (by omega) (by omega) (by omega)) rfl rfl ?_
            generalize hw21 : e_up v1 (17 * a + z1 + 97) 7 (w (17 * a + z1 + 97) 7 - y10) = w21
            have f22 : e_fr (kPs a m) w w21 := e_fr.up j4 hw21 (by unfold kPs; omega)
            have hT23 : e_Has kTy w21 := e_Has.upr j5 hw21 (kJ_7 (a := a) (j := z1) (by omega) (by omega) (by omega)) (by omega)
            refine e_Ok.run (t' := (68, [(0, (1, 262)), (1, (1, 9)), (2, (0, cn)), (3, (1, 250)), (4, (0, a)), (5, (0, s)), (6, (0, x)), (7, (1, 17 * a + z1 + 97)), (8, (0, w (17 * a + z1 + 97) 7)), (9, (0, y9)), (10, (0, y10))], [(0, a), (1, 9)], w21)) 2 rfl ?_
            refine e_Ok.aald (z := 17 * a + 86) rfl (el_o rfl) rfl (by omega) (by rw [← hw21]; exact (e_up_ne _ _ (Or.inl (by omega))).trans ((j4 9 a (by unfold kPs; omega)).trans (Eq.trans (e_Has.eq hT (k9 (by omega))) (by omega)))) (by omega) ?_
            have kAw21 : ∀ b, 0 ≤ b → b ≤ 3 → aK w21 b := fun b g1 g2 => (j6 b g1 g2).up hw21 (by omega) (by omega) (by omega)
            have eMw21 : w21 (17 * a + 86) 8 = m := (f22 _ _ (by unfold kPs; omega)).trans hm8
            refine e_Ok.callV rfl (by omega) rfl (lA0 (a := a) (by omega) (by omega)) rfl rfl (c_10_pm (by omega) (a := a) hT23 ga eMw21 ((kAw21 a ga.1 ga.2).1 0 (by omega) (by omega)) ((kAw21 a ga.1 ga.2).2 0 (by omega) (by omega))) (fun r24 w25 h26 => ?_)
            obtain ⟨rfl, q27f, q27T, q27x, q27p⟩ := h26
            have f28 : e_fr (kPs a m) w w25 := e_fr.trans f22 (e_fr.mono q27f (fun c k q => by unfold kPm at q; unfold kPs; omega))
            have kBw25 := aK.all ga q27f (fun b c k g1 g2 g3 g4 => by unfold kPm at g4; omega) kAw21 q27x
            show e_Ok 20 elay kcode eI (d + 1) 104 (72, [(0, (1, 262)), (1, (1, 9)), (2, (0, cn)), (3, (1, 250)), (4, (0, a)), (5, (0, s)), (6, (0, x)), (7, (1, 17 * a + z1 + 97)), (8, (0, w (17 * a + z1 + 97) 7)), (9, (0, y9)), (10, (0, y10))], [], w25) _
            refine e_Ok.run (t' := (79, [(0, (1, 262)), (1, (1, 9)), (2, (0, cn)), (3, (1, 250)), (4, (0, a)), (5, (0, s)), (6, (0, x)), (7, (1, 17 * a + z1 + 97)), (8, (0, w (17 * a + z1 + 97) 7)), (9, (0, y9)), (10, (0, y10))], [(1, 262), (0, 0), (0, a), (0, cn), (1, 9), (1, 250)], w25)) 6 rfl ?_
            refine e_Ok.getf (z := w 262 2) rfl (el_o rfl) rfl rfl ((q27f 262 2 (by unfold kPm; omega)).trans (by rw [← hw21]; exact (e_up_ne _ _ (Or.inr (by omega))).trans ((j4 262 2 (by unfold kPs; omega)).trans rfl))) (by omega) ?_
            refine e_Ok.callV rfl (by omega) rfl rfl rfl rfl (c_171 (by omega) q27T (by omega) (by omega) (by omega) (by omega) kBw25) (fun r29 w30 h31 => ?_)
            obtain ⟨z32, rfl, q33f, q33T, q33r⟩ := h31
            have f34 : e_fr (kPs a m) w w30 := e_fr.trans f28 (e_fr.mono q33f (fun c k q => by unfold kTc at q; unfold kPs; omega))
            have kD := aK.any q33f (fun b c k g1 g2 g3 => by unfold kTc at g3; omega) kBw25
            have eD : ∀ c k, ¬ (c = 17 * a + z1 + 97 ∧ k = 7) → c ≠ 17 * a + 88 → c ≠ 17 * a + 89 → c ≠ 250 → w30 c k = v1 c k := fun c k g1 g2 g3 g4 => by rw [q33f c k (by unfold kTc; omega), q27f c k (by unfold kPm; omega), ← hw21, e_up_ne _ _ (by omega)]
            show e_Ok 20 elay kcode eI (d + 1) 104 (85, [(0, (1, 262)), (1, (1, 9)), (2, (0, cn)), (3, (1, 250)), (4, (0, a)), (5, (0, s)), (6, (0, x)), (7, (1, 17 * a + z1 + 97)), (8, (0, w (17 * a + z1 + 97) 7)), (9, (0, y9)), (10, (0, y10))], [(0, z32)], w30) _
            refine e_Ok.if1 rfl (fun h35 => ?_) (fun h35 => ?_)
            · replace h35 : (z32 : Int) ≠ 0 := h35
              refine e_Ok.run (t' := (97, [(9, (0, 0)), (0, (1, 262)), (1, (1, 9)), (2, (0, cn)), (3, (1, 250)), (4, (0, a)), (5, (0, s)), (6, (0, x)), (7, (1, 17 * a + z1 + 97)), (8, (0, w (17 * a + z1 + 97) 7)), (10, (0, y10))], [(0, 0)], w30)) 3 rfl ?_
              refine e_Ok.if1 rfl (fun h36 => ?_) (fun h36 => ?_)
              · replace h36 : (0 : Int) ≠ 0 := h36
                exfalso; omega
              · replace h36 : (0 : Int) = 0 := by have q : ¬ ((0 : Int) ≠ 0) := h36; omega
                refine e_Ok.run (t' := (103, [(9, (0, 0)), (0, (1, 262)), (1, (1, 9)), (2, (0, cn)), (3, (1, 250)), (4, (0, a)), (5, (0, s)), (6, (0, x)), (7, (1, 17 * a + z1 + 97)), (8, (0, w (17 * a + z1 + 97) 7)), (10, (0, y10))], [(1, 262), (0, y10)], w30)) 2 rfl ?_
                refine e_Ok.getf (z := w 262 1) rfl (el_o rfl) rfl rfl ((q33f 262 1 (by unfold kTc; omega)).trans ((q27f 262 1 (by unfold kPm; omega)).trans (by rw [← hw21]; exact (e_up_ne _ _ (Or.inr (by omega))).trans ((j4 262 1 (by unfold kPs; omega)).trans rfl)))) (by omega) ?_
                refine e_Ok.if2 rfl (fun h37 => ?_) (fun h37 => ?_)
                · replace h37 : (y10 : Int) ≠ w 262 1 := h37
                  refine e_Ok.inc (z := y10 - 1) rfl rfl (by omega) (by omega) ?_
                  show e_Ok 20 elay kcode eI (d + 1) 104 (120, [(10, (0, y10 - 1)), (9, (0, 0)), (0, (1, 262)), (1, (1, 9)), (2, (0, cn)), (3, (1, 250)), (4, (0, a)), (5, (0, s)), (6, (0, x)), (7, (1, 17 * a + z1 + 97)), (8, (0, w (17 * a + z1 + 97) 7))], [], w30) _
                  refine e_Ok.run (t' := (30, [(10, (0, y10 - 1)), (9, (0, 0)), (0, (1, 262)), (1, (1, 9)), (2, (0, cn)), (3, (1, 250)), (4, (0, a)), (5, (0, s)), (6, (0, x)), (7, (1, 17 * a + z1 + 97)), (8, (0, w (17 * a + z1 + 97) 7))], [], w30)) 1 rfl ?_
                  refine e_Ok.sub kAlk (e_sub_of rfl ?_) (ih3 0 (y10 - 1) w30 ⟨f34, q33T, kD, (fun j g1 g2 g3 => by rw [eD _ _ (by omega) (by omega) (by omega) (by omega)]; exact j7 j g1 g2 g3), ⟨fun k g => by rw [eD _ _ (by omega) (by omega) (by omega) (by omega)]; exact j8.1 k g, by rw [eD _ _ (by omega) (by omega) (by omega) (by omega)]; exact j8.2⟩, by omega, by omega⟩ (by omega))
                  exact ⟨rfl, rfl, rfl, rfl, rfl, rfl, rfl, rfl, rfl, rfl, rfl, trivial⟩
                · replace h37 : (y10 : Int) = w 262 1 := by have q : ¬ ((y10 : Int) ≠ w 262 1) := h37; omega
                  refine e_Ok.run (t' := (110, [(9, (0, 0)), (0, (1, 262)), (1, (1, 9)), (2, (0, cn)), (3, (1, 250)), (4, (0, a)), (5, (0, s)), (6, (0, x)), (7, (1, 17 * a + z1 + 97)), (8, (0, w (17 * a + z1 + 97) 7)), (10, (0, y10))], [(1, 262)], w30)) 1 rfl ?_
                  refine e_Ok.getr (z := 268) rfl (el_o rfl) rfl rfl ((q33f 262 9 (by unfold kTc; omega)).trans ((q27f 262 9 (by unfold kPm; omega)).trans (by rw [← hw21]; exact (e_up_ne _ _ (Or.inr (by omega))).trans ((j4 262 9 (by unfold kPs; omega)).trans (Eq.trans (e_Has.eq hT rfl) (by omega)))))) (by omega) ?_
                  refine e_Ok.run (t' := (116, [(9, (0, 0)), (0, (1, 262)), (1, (1, 9)), (2, (0, cn)), (3, (1, 250)), (4, (0, a)), (5, (0, s)), (6, (0, x)), (7, (1, 17 * a + z1 + 97)), (8, (0, w (17 * a + z1 + 97) 7)), (10, (0, y10))], [(0, (-1)), (0, x), (1, 268)], w30)) 2 rfl ?_
                  refine e_Ok.ast rfl (el_o rfl) rfl rfl (by omega) ?_
                  generalize hw38 : e_up w30 268 x (-1) = w38
                  have f40 : e_fr (kPs a m) w w38 := e_fr.up f34 hw38 (by unfold kPs; omega)
                  have hT41 : e_Has kTy w38 := e_Has.ups q33T hw38 rfl
                  refine e_Ok.inc (z := y10 - 1) rfl rfl (by omega) (by omega) ?_
                  show e_Ok 20 elay kcode eI (d + 1) 104 (120, [(10, (0, y10 - 1)), (9, (0, 0)), (0, (1, 262)), (1, (1, 9)), (2, (0, cn)), (3, (1, 250)), (4, (0, a)), (5, (0, s)), (6, (0, x)), (7, (1, 17 * a + z1 + 97)), (8, (0, w (17 * a + z1 + 97) 7))], [], w38) _
                  refine e_Ok.run (t' := (30, [(10, (0, y10 - 1)), (9, (0, 0)), (0, (1, 262)), (1, (1, 9)), (2, (0, cn)), (3, (1, 250)), (4, (0, a)), (5, (0, s)), (6, (0, x)), (7, (1, 17 * a + z1 + 97)), (8, (0, w (17 * a + z1 + 97) 7))], [], w38)) 1 rfl ?_
                  refine e_Ok.sub kAlk (e_sub_of rfl ?_) (ih3 0 (y10 - 1) w38 ⟨f40, hT41, (fun b g1 g2 => (kD b g1 g2).up hw38 (by omega) (by omega) (by omega)), (fun j g1 g2 g3 => by rw [← hw38, e_up_ne _ _ (by omega), eD _ _ (by omega) (by omega) (by omega) (by omega)]; exact j7 j g1 g2 g3), ⟨fun k g => by rw [← hw38, e_up_ne _ _ (by omega), eD _ _ (by omega) (by omega) (by omega) (by omega)]; exact j8.1 k g, Or.inr (by rw [← hw38, e_up_eq])⟩, by omega, by omega⟩ (by omega))
                  exact ⟨rfl, rfl, rfl, rfl, rfl, rfl, rfl, rfl, rfl, rfl, rfl, trivial⟩
            · replace h35 : (z32 : Int) = 0 := by have q : ¬ ((z32 : Int) ≠ 0) := h35; omega
              refine e_Ok.run (t' := (97, [(9, (0, 1)), (0, (1, 262)), (1, (1, 9)), (2, (0, cn)), (3, (1, 250)), (4, (0, a)), (5, (0, s)), (6, (0, x)), (7, (1, 17 * a + z1 + 97)), (8, (0, w (17 * a + z1 + 97) 7)), (10, (0, y10))], [(0, 1)], w30)) 4 rfl ?_
              refine e_Ok.if1 rfl (fun h42 => ?_) (fun h42 => ?_)
              · replace h42 : (1 : Int) ≠ 0 := h42
                refine e_Ok.inc (z := y10 - 1) rfl rfl (by omega) (by omega) ?_
                show e_Ok 20 elay kcode eI (d + 1) 104 (120, [(10, (0, y10 - 1)), (9, (0, 1)), (0, (1, 262)), (1, (1, 9)), (2, (0, cn)), (3, (1, 250)), (4, (0, a)), (5, (0, s)), (6, (0, x)), (7, (1, 17 * a + z1 + 97)), (8, (0, w (17 * a + z1 + 97) 7))], [], w30) _
                refine e_Ok.run (t' := (30, [(10, (0, y10 - 1)), (9, (0, 1)), (0, (1, 262)), (1, (1, 9)), (2, (0, cn)), (3, (1, 250)), (4, (0, a)), (5, (0, s)), (6, (0, x)), (7, (1, 17 * a + z1 + 97)), (8, (0, w (17 * a + z1 + 97) 7))], [], w30)) 1 rfl ?_
                refine e_Ok.sub kAlk (e_sub_of rfl ?_) (ih3 1 (y10 - 1) w30 ⟨f34, q33T, kD, (fun j g1 g2 g3 => by rw [eD _ _ (by omega) (by omega) (by omega) (by omega)]; exact j7 j g1 g2 g3), ⟨fun k g => by rw [eD _ _ (by omega) (by omega) (by omega) (by omega)]; exact j8.1 k g, by rw [eD _ _ (by omega) (by omega) (by omega) (by omega)]; exact j8.2⟩, by omega, by omega⟩ (by omega))
                exact ⟨rfl, rfl, rfl, rfl, rfl, rfl, rfl, rfl, rfl, rfl, rfl, trivial⟩
              · replace h42 : (1 : Int) = 0 := by have q : ¬ ((1 : Int) ≠ 0) := h42; omega
                exfalso; omega
          · replace h20 : (z19 : Int) = 0 := by have q : ¬ ((z19 : Int) ≠ 0) := h20; omega
            refine e_Ok.run (t' := (53, [(0, (1, 262)), (1, (1, 9)), (2, (0, cn)), (3, (1, 250)), (4, (0, a)), (5, (0, s)), (6, (0, x)), (7, (1, 17 * a + z1 + 97)), (8, (0, w (17 * a + z1 + 97) 7)), (9, (0, y9)), (10, (0, y10))], [(0, y10), (0, w (17 * a + z1 + 97) 7), (1, 17 * a + z1 + 97)], v1)) 2 rfl ?_
            refine e_Ok.add (z := w (17 * a + z1 + 97) 7 + y10) rfl (by omega) (by omega) ?_
            refine e_Ok.run (t' := (62, [(0, (1, 262)), (1, (1, 9)), (2, (0, cn)), (3, (1, 250)), (4, (0, a)), (5, (0, s)), (6, (0, x)), (7, (1, 17 * a + z1 + 97)), (8, (0, w (17 * a + z1 + 97) 7)), (9, (0, y9)), (10, (0, y10))], [(0, w (17 * a + z1 + 97) 7 + y10), (1, 17 * a + z1 + 97)], v1)) 1 rfl ?_
            refine e_Ok.putf rfl (lJ (a := a) (j := z1) (by omega) (by omega) (by omega)) rfl rfl ?_
            generalize hw43 : e_up v1 (17 * a + z1 + 97) 7 (w (17 * a + z1 + 97) 7 + y10) = w43
            have f44 : e_fr (kPs a m) w w43 := e_fr.up j4 hw43 (by unfold kPs; omega)
            have hT45 : e_Has kTy w43 := e_Has.upr j5 hw43 (kJ_7 (a := a) (j := z1) (by omega) (by omega) (by omega)) (by omega)
            refine e_Ok.run (t' := (68, [(0, (1, 262)), (1, (1, 9)), (2, (0, cn)), (3, (1, 250)), (4, (0, a)), (5, (0, s)), (6, (0, x)), (7, (1, 17 * a + z1 + 97)), (8, (0, w (17 * a + z1 + 97) 7)), (9, (0, y9)), (10, (0, y10))], [(0, a), (1, 9)], w43)) 2 rfl ?_
            refine e_Ok.aald (z := 17 * a + 86) rfl (el_o rfl) rfl (by omega) (by rw [← hw43]; exact (e_up_ne _ _ (Or.inl (by omega))).trans ((j4 9 a (by unfold kPs; omega)).trans (Eq.trans (e_Has.eq hT (k9 (by omega))) (by omega)))) (by omega) ?_
            have kAw43 : ∀ b, 0 ≤ b → b ≤ 3 → aK w43 b := fun b g1 g2 => (j6 b g1 g2).up hw43 (by omega) (by omega) (by omega)
            have eMw43 : w43 (17 * a + 86) 8 = m := (f44 _ _ (by unfold kPs; omega)).trans hm8
            refine e_Ok.callV rfl (by omega) rfl (lA0 (a := a) (by omega) (by omega)) rfl rfl (c_10_pm (by omega) (a := a) hT45 ga eMw43 ((kAw43 a ga.1 ga.2).1 0 (by omega) (by omega)) ((kAw43 a ga.1 ga.2).2 0 (by omega) (by omega))) (fun r46 w47 h48 => ?_)
            obtain ⟨rfl, q49f, q49T, q49x, q49p⟩ := h48
            have f50 : e_fr (kPs a m) w w47 := e_fr.trans f44 (e_fr.mono q49f (fun c k q => by unfold kPm at q; unfold kPs; omega))
            have kBw47 := aK.all ga q49f (fun b c k g1 g2 g3 g4 => by unfold kPm at g4; omega) kAw43 q49x
            show e_Ok 20 elay kcode eI (d + 1) 104 (72, [(0, (1, 262)), (1, (1, 9)), (2, (0, cn)), (3, (1, 250)), (4, (0, a)), (5, (0, s)), (6, (0, x)), (7, (1, 17 * a + z1 + 97)), (8, (0, w (17 * a + z1 + 97) 7)), (9, (0, y9)), (10, (0, y10))], [], w47) _
            refine e_Ok.run (t' := (79, [(0, (1, 262)), (1, (1, 9)), (2, (0, cn)), (3, (1, 250)), (4, (0, a)), (5, (0, s)), (6, (0, x)), (7, (1, 17 * a + z1 + 97)), (8, (0, w (17 * a + z1 + 97) 7)), (9, (0, y9)), (10, (0, y10))], [(1, 262), (0, 0), (0, a), (0, cn), (1, 9), (1, 250)], w47)) 6 rfl ?_
            refine e_Ok.getf (z := w 262 2) rfl (el_o rfl) rfl rfl ((q49f 262 2 (by unfold kPm; omega)).trans (by rw [← hw43]; exact (e_up_ne _ _ (Or.inr (by omega))).trans ((j4 262 2 (by unfold kPs; omega)).trans rfl))) (by omega) ?_
            refine e_Ok.callV rfl (by omega) rfl rfl rfl rfl (c_171 (by omega) q49T (by omega) (by omega) (by omega) (by omega) kBw47) (fun r51 w52 h53 => ?_)
            obtain ⟨z54, rfl, q55f, q55T, q55r⟩ := h53
            have f56 : e_fr (kPs a m) w w52 := e_fr.trans f50 (e_fr.mono q55f (fun c k q => by unfold kTc at q; unfold kPs; omega))
            have kD := aK.any q55f (fun b c k g1 g2 g3 => by unfold kTc at g3; omega) kBw47
            have eD : ∀ c k, ¬ (c = 17 * a + z1 + 97 ∧ k = 7) → c ≠ 17 * a + 88 → c ≠ 17 * a + 89 → c ≠ 250 → w52 c k = v1 c k := fun c k g1 g2 g3 g4 => by rw [q55f c k (by unfold kTc; omega), q49f c k (by unfold kPm; omega), ← hw43, e_up_ne _ _ (by omega)]
            show e_Ok 20 elay kcode eI (d + 1) 104 (85, [(0, (1, 262)), (1, (1, 9)), (2, (0, cn)), (3, (1, 250)), (4, (0, a)), (5, (0, s)), (6, (0, x)), (7, (1, 17 * a + z1 + 97)), (8, (0, w (17 * a + z1 + 97) 7)), (9, (0, y9)), (10, (0, y10))], [(0, z54)], w52) _
            refine e_Ok.if1 rfl (fun h57 => ?_) (fun h57 => ?_)
            · replace h57 : (z54 : Int) ≠ 0 := h57
              refine e_Ok.run (t' := (97, [(9, (0, 0)), (0, (1, 262)), (1, (1, 9)), (2, (0, cn)), (3, (1, 250)), (4, (0, a)), (5, (0, s)), (6, (0, x)), (7, (1, 17 * a + z1 + 97)), (8, (0, w (17 * a + z1 + 97) 7)), (10, (0, y10))], [(0, 0)], w52)) 3 rfl ?_
              refine e_Ok.if1 rfl (fun h58 => ?_) (fun h58 => ?_)
              · replace h58 : (0 : Int) ≠ 0 := h58
                exfalso; omega
              · replace h58 : (0 : Int) = 0 := by have q : ¬ ((0 : Int) ≠ 0) := h58; omega
                refine e_Ok.run (t' := (103, [(9, (0, 0)), (0, (1, 262)), (1, (1, 9)), (2, (0, cn)), (3, (1, 250)), (4, (0, a)), (5, (0, s)), (6, (0, x)), (7, (1, 17 * a + z1 + 97)), (8, (0, w (17 * a + z1 + 97) 7)), (10, (0, y10))], [(1, 262), (0, y10)], w52)) 2 rfl ?_
                refine e_Ok.getf (z := w 262 1) rfl (el_o rfl) rfl rfl ((q55f 262 1 (by unfold kTc; omega)).trans ((q49f 262 1 (by unfold kPm; omega)).trans (by rw [← hw43]; exact (e_up_ne _ _ (Or.inr (by omega))).trans ((j4 262 1 (by unfold kPs; omega)).trans rfl)))) (by omega) ?_
                refine e_Ok.if2 rfl (fun h59 => ?_) (fun h59 => ?_)
                · replace h59 : (y10 : Int) ≠ w 262 1 := h59
                  refine e_Ok.inc (z := y10 - 1) rfl rfl (by omega) (by omega) ?_
                  show e_Ok 20 elay kcode eI (d + 1) 104 (120, [(10, (0, y10 - 1)), (9, (0, 0)), (0, (1, 262)), (1, (1, 9)), (2, (0, cn)), (3, (1, 250)), (4, (0, a)), (5, (0, s)), (6, (0, x)), (7, (1, 17 * a + z1 + 97)), (8, (0, w (17 * a + z1 + 97) 7))], [], w52) _
                  refine e_Ok.run (t' := (30, [(10, (0, y10 - 1)), (9, (0, 0)), (0, (1, 262)), (1, (1, 9)), (2, (0, cn)), (3, (1, 250)), (4, (0, a)), (5, (0, s)), (6, (0, x)), (7, (1, 17 * a + z1 + 97)), (8, (0, w (17 * a + z1 + 97) 7))], [], w52)) 1 rfl ?_
                  refine e_Ok.sub kAlk (e_sub_of rfl ?_) (ih3 0 (y10 - 1) w52 ⟨f56, q55T, kD, (fun j g1 g2 g3 => by rw [eD _ _ (by omega) (by omega) (by omega) (by omega)]; exact j7 j g1 g2 g3), ⟨fun k g => by rw [eD _ _ (by omega) (by omega) (by omega) (by omega)]; exact j8.1 k g, by rw [eD _ _ (by omega) (by omega) (by omega) (by omega)]; exact j8.2⟩, by omega, by omega⟩ (by omega))
                  exact ⟨rfl, rfl, rfl, rfl, rfl, rfl, rfl, rfl, rfl, rfl, rfl, trivial⟩
                · replace h59 : (y10 : Int) = w 262 1 := by have q : ¬ ((y10 : Int) ≠ w 262 1) := h59; omega
                  refine e_Ok.run (t' := (110, [(9, (0, 0)), (0, (1, 262)), (1, (1, 9)), (2, (0, cn)), (3, (1, 250)), (4, (0, a)), (5, (0, s)), (6, (0, x)), (7, (1, 17 * a + z1 + 97)), (8, (0, w (17 * a + z1 + 97) 7)), (10, (0, y10))], [(1, 262)], w52)) 1 rfl ?_
                  refine e_Ok.getr (z := 268) rfl (el_o rfl) rfl rfl ((q55f 262 9 (by unfold kTc; omega)).trans ((q49f 262 9 (by unfold kPm; omega)).trans (by rw [← hw43]; exact (e_up_ne _ _ (Or.inr (by omega))).trans ((j4 262 9 (by unfold kPs; omega)).trans (Eq.trans (e_Has.eq hT rfl) (by omega)))))) (by omega) ?_
                  refine e_Ok.run (t' := (116, [(9, (0, 0)), (0, (1, 262)), (1, (1, 9)), (2, (0, cn)), (3, (1, 250)), (4, (0, a)), (5, (0, s)), (6, (0, x)), (7, (1, 17 * a + z1 + 97)), (8, (0, w (17 * a + z1 + 97) 7)), (10, (0, y10))], [(0, (-1)), (0, x), (1, 268)], w52)) 2 rfl ?_
                  refine e_Ok.ast rfl (el_o rfl) rfl rfl (by omega) ?_
                  generalize hw60 : e_up w52 268 x (-1) = w60
                  have f61 : e_fr (kPs a m) w w60 := e_fr.up f56 hw60 (by unfold kPs; omega)
                  have hT62 : e_Has kTy w60 := e_Has.ups q55T hw60 rfl
                  refine e_Ok.inc (z := y10 - 1) rfl rfl (by omega) (by omega) ?_
                  show e_Ok 20 elay kcode eI (d + 1) 104 (120, [(10, (0, y10 - 1)), (9, (0, 0)), (0, (1, 262)), (1, (1, 9)), (2, (0, cn)), (3, (1, 250)), (4, (0, a)), (5, (0, s)), (6, (0, x)), (7, (1, 17 * a + z1 + 97)), (8, (0, w (17 * a + z1 + 97) 7))], [], w60) _
                  refine e_Ok.run (t' := (30, [(10, (0, y10 - 1)), (9, (0, 0)), (0, (1, 262)), (1, (1, 9)), (2, (0, cn)), (3, (1, 250)), (4, (0, a)), (5, (0, s)), (6, (0, x)), (7, (1, 17 * a + z1 + 97)), (8, (0, w (17 * a + z1 + 97) 7))], [], w60)) 1 rfl ?_
                  refine e_Ok.sub kAlk (e_sub_of rfl ?_) (ih3 0 (y10 - 1) w60 ⟨f61, hT62, (fun b g1 g2 => (kD b g1 g2).up hw60 (by omega) (by omega) (by omega)), (fun j g1 g2 g3 => by rw [← hw60, e_up_ne _ _ (by omega), eD _ _ (by omega) (by omega) (by omega) (by omega)]; exact j7 j g1 g2 g3), ⟨fun k g => by rw [← hw60, e_up_ne _ _ (by omega), eD _ _ (by omega) (by omega) (by omega) (by omega)]; exact j8.1 k g, Or.inr (by rw [← hw60, e_up_eq])⟩, by omega, by omega⟩ (by omega))
                  exact ⟨rfl, rfl, rfl, rfl, rfl, rfl, rfl, rfl, rfl, rfl, rfl, trivial⟩
            · replace h57 : (z54 : Int) = 0 := by have q : ¬ ((z54 : Int) ≠ 0) := h57; omega
              refine e_Ok.run (t' := (97, [(9, (0, 1)), (0, (1, 262)), (1, (1, 9)), (2, (0, cn)), (3, (1, 250)), (4, (0, a)), (5, (0, s)), (6, (0, x)), (7, (1, 17 * a + z1 + 97)), (8, (0, w (17 * a + z1 + 97) 7)), (10, (0, y10))], [(0, 1)], w52)) 4 rfl ?_
              refine e_Ok.if1 rfl (fun h63 => ?_) (fun h63 => ?_)
              · replace h63 : (1 : Int) ≠ 0 := h63
                refine e_Ok.inc (z := y10 - 1) rfl rfl (by omega) (by omega) ?_
                show e_Ok 20 elay kcode eI (d + 1) 104 (120, [(10, (0, y10 - 1)), (9, (0, 1)), (0, (1, 262)), (1, (1, 9)), (2, (0, cn)), (3, (1, 250)), (4, (0, a)), (5, (0, s)), (6, (0, x)), (7, (1, 17 * a + z1 + 97)), (8, (0, w (17 * a + z1 + 97) 7))], [], w52) _
                refine e_Ok.run (t' := (30, [(10, (0, y10 - 1)), (9, (0, 1)), (0, (1, 262)), (1, (1, 9)), (2, (0, cn)), (3, (1, 250)), (4, (0, a)), (5, (0, s)), (6, (0, x)), (7, (1, 17 * a + z1 + 97)), (8, (0, w (17 * a + z1 + 97) 7))], [], w52)) 1 rfl ?_
                refine e_Ok.sub kAlk (e_sub_of rfl ?_) (ih3 1 (y10 - 1) w52 ⟨f56, q55T, kD, (fun j g1 g2 g3 => by rw [eD _ _ (by omega) (by omega) (by omega) (by omega)]; exact j7 j g1 g2 g3), ⟨fun k g => by rw [eD _ _ (by omega) (by omega) (by omega) (by omega)]; exact j8.1 k g, by rw [eD _ _ (by omega) (by omega) (by omega) (by omega)]; exact j8.2⟩, by omega, by omega⟩ (by omega))
                exact ⟨rfl, rfl, rfl, rfl, rfl, rfl, rfl, rfl, rfl, rfl, rfl, trivial⟩
              · replace h63 : (1 : Int) = 0 := by have q : ¬ ((1 : Int) ≠ 0) := h63; omega
                exfalso; omega
  refine e_Ok.sub kAlk (e_sub_of rfl ?_) (hL2 (16 + 1 : Int).toNat 1 (w 262 1) w ⟨(e_fr.refl w), hT, ka, (fun _ _ _ _ => rfl), ⟨fun _ _ => rfl, Or.inl rfl⟩, by omega, by omega⟩ (by omega))
  exact ⟨rfl, rfl, rfl, rfl, rfl, rfl, rfl, rfl, rfl, rfl, rfl, trivial⟩
end
