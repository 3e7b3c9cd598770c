noncomputable section
/-! the class: a joint is told -/
def kAj (a : Int) (c k : Int) : Prop := (c = 17 * a + 86 ∧ k = 8) ∨ (17 * a + 97 ≤ c ∧ c ≤ 17 * a + 102 ∧ 0 ≤ k ∧ k ≤ 6) ∨ ((c = 17 * a + 88 ∨ c = 17 * a + 89) ∧ 1 ≤ k)
theorem c_2 {d : Nat} (hd : 24 ≤ d) {w : eW} (hT : e_Has kTy w) {a n kd lo hi ln : Int} (ga : 0 ≤ a ∧ a ≤ 3) (hn : w (17 * a + 86) 8 = n) (gn : 0 ≤ n ∧ n ≤ 5) (kx : aK w a) (g_kd : -2147483648 ≤ kd ∧ kd ≤ 2147483647) (g_lo : -2147483648 ≤ lo ∧ lo ≤ 2147483647) (g_hi : -2147483648 ≤ hi ∧ hi ≤ 2147483647) (g_ln : -2147483648 ≤ ln ∧ ln ≤ 2147483647) : e_Ok 20 elay kcode eI d 2 (0, [(0, (1, 17 * a + 86)), (1, (0, kd)), (2, (0, lo)), (3, (0, hi)), (4, (0, ln))], [], w) (fun r w' => ∃ z : Int, r = [(0, z)] ∧ e_fr (kAj a) w w' ∧ e_Has kTy w' ∧ z = n ∧ (w' (17 * a + n + 97) 0 = kd ∧ w' (17 * a + n + 97) 1 = lo ∧ w' (17 * a + n + 97) 2 = hi ∧ w' (17 * a + n + 97) 3 = ln ∧ w' (17 * a + n + 97) 4 = 0 ∧ w' (17 * a + n + 97) 5 = 100 ∧ w' (17 * a + n + 97) 6 = 10) ∧ w' (17 * a + 86) 8 = n + 1 ∧ (∀ j k, 0 ≤ j → j ≤ 5 → j ≠ n → w' (17 * a + j + 97) k = w (17 * a + j + 97) k) ∧ aK w' a ∧ aP w' a) := by
  obtain ⟨d, rfl⟩ : ∃ e, d = e + 1 := ⟨d - 1, by omega⟩
  refine e_Ok.run (t' := (1, [(0, (1, 17 * a + 86)), (1, (0, kd)), (2, (0, lo)), (3, (0, hi)), (4, (0, ln))], [(1, 17 * a + 86)], w)) 1 rfl ?_
  refine e_Ok.getr (z := 17 * a + 87) rfl (lA0 (a := a) (by omega) (by omega)) rfl rfl (Eq.trans (e_Has.eq hT (kA_0 (a := a) (by omega) (by omega))) (by omega)) (by omega) ?_
  refine e_Ok.run (t' := (5, [(0, (1, 17 * a + 86)), (1, (0, kd)), (2, (0, lo)), (3, (0, hi)), (4, (0, ln))], [(1, 17 * a + 86), (1, 17 * a + 87)], w)) 1 rfl ?_
  refine e_Ok.getf (z := n) rfl (lA0 (a := a) (by omega) (by omega)) rfl rfl hn (by omega) ?_
  refine e_Ok.aald (z := 17 * a + n + 97) rfl (lA1 (a := a) (by omega) (by omega)) rfl (by omega) (Eq.trans (e_Has.eq hT (kA87 (a := a) (by omega) (by omega) (by omega))) (by omega)) (by omega) ?_
  refine e_Ok.run (t' := (14, [(5, (1, 17 * a + n + 97)), (0, (1, 17 * a + 86)), (1, (0, kd)), (2, (0, lo)), (3, (0, hi)), (4, (0, ln))], [(0, kd), (1, 17 * a + n + 97)], w)) 3 rfl ?_
  refine e_Ok.putf rfl (lJ (a := a) (j := n) (by omega) (by omega) (by omega)) rfl rfl ?_
  generalize hw1 : e_up w (17 * a + n + 97) 0 kd = w1
  have f2 : e_fr (kAj a) w w1 := e_fr.up (e_fr.refl w) hw1 (by unfold kAj; omega)
  have hT3 : e_Has kTy w1 := e_Has.upr hT hw1 (kJ_0 (a := a) (j := n) (by omega) (by omega) (by omega)) (by omega)
  refine e_Ok.run (t' := (20, [(5, (1, 17 * a + n + 97)), (0, (1, 17 * a + 86)), (1, (0, kd)), (2, (0, lo)), (3, (0, hi)), (4, (0, ln))], [(0, lo), (1, 17 * a + n + 97)], w1)) 2 rfl ?_
  refine e_Ok.putf rfl (lJ (a := a) (j := n) (by omega) (by omega) (by omega)) rfl rfl ?_
  generalize hw4 : e_up w1 (17 * a + n + 97) 1 lo = w4
  have f5 : e_fr (kAj a) w w4 := e_fr.up f2 hw4 (by unfold kAj; omega)
  have hT6 : e_Has kTy w4 := e_Has.upr hT3 hw4 (kJ_1 (a := a) (j := n) (by omega) (by omega) (by omega)) (by omega)
  refine e_Ok.run (t' := (26, [(5, (1, 17 * a + n + 97)), (0, (1, 17 * a + 86)), (1, (0, kd)), (2, (0, lo)), (3, (0, hi)), (4, (0, ln))], [(0, hi), (1, 17 * a + n + 97)], w4)) 2 rfl ?_
  refine e_Ok.putf rfl (lJ (a := a) (j := n) (by omega) (by omega) (by omega)) rfl rfl ?_
  generalize hw7 : e_up w4 (17 * a + n + 97) 2 hi = w7
  have f8 : e_fr (kAj a) w w7 := e_fr.up f5 hw7 (by unfold kAj; omega)
  have hT9 : e_Has kTy w7 := e_Has.upr hT6 hw7 (kJ_2 (a := a) (j := n) (by omega) (by omega) (by omega)) (by omega)
  refine e_Ok.run (t' := (33, [(5, (1, 17 * a + n + 97)), (0, (1, 17 * a + 86)), (1, (0, kd)), (2, (0, lo)), (3, (0, hi)), (4, (0, ln))], [(0, ln), (1, 17 * a + n + 97)], w7)) 2 rfl ?_
  refine e_Ok.putf rfl (lJ (a := a) (j := n) (by omega) (by omega) (by omega)) rfl rfl ?_
  generalize hw10 : e_up w7 (17 * a + n + 97) 3 ln = w10
  have f11 : e_fr (kAj a) w w10 := e_fr.up f8 hw10 (by unfold kAj; omega)
  have hT12 : e_Has kTy w10 := e_Has.upr hT9 hw10 (kJ_3 (a := a) (j := n) (by omega) (by omega) (by omega)) (by omega)
  refine e_Ok.run (t' := (39, [(5, (1, 17 * a + n + 97)), (0, (1, 17 * a + 86)), (1, (0, kd)), (2, (0, lo)), (3, (0, hi)), (4, (0, ln))], [(0, 0), (1, 17 * a + n + 97)], w10)) 2 rfl ?_
  refine e_Ok.putf rfl (lJ (a := a) (j := n) (by omega) (by omega) (by omega)) rfl rfl ?_
  generalize hw13 : e_up w10 (17 * a + n + 97) 4 0 = w13
  have f14 : e_fr (kAj a) w w13 := e_fr.up f11 hw13 (by unfold kAj; omega)
  have hT15 : e_Has kTy w13 := e_Has.upr hT12 hw13 (kJ_4 (a := a) (j := n) (by omega) (by omega) (by omega)) (by omega)
  refine e_Ok.run (t' := (46, [(5, (1, 17 * a + n + 97)), (0, (1, 17 * a + 86)), (1, (0, kd)), (2, (0, lo)), (3, (0, hi)), (4, (0, ln))], [(0, 100), (1, 17 * a + n + 97)], w13)) 2 rfl ?_
  refine e_Ok.putf rfl (lJ (a := a) (j := n) (by omega) (by omega) (by omega)) rfl rfl ?_
  generalize hw16 : e_up w13 (17 * a + n + 97) 5 100 = w16
  have f17 : e_fr (kAj a) w w16 := e_fr.up f14 hw16 (by unfold kAj; omega)
  have hT18 : e_Has kTy w16 := e_Has.upr hT15 hw16 (kJ_5 (a := a) (j := n) (by omega) (by omega) (by omega)) (by omega)
  refine e_Ok.run (t' := (53, [(5, (1, 17 * a + n + 97)), (0, (1, 17 * a + 86)), (1, (0, kd)), (2, (0, lo)), (3, (0, hi)), (4, (0, ln))], [(0, 10), (1, 17 * a + n + 97)], w16)) 2 rfl ?_
  refine e_Ok.putf rfl (lJ (a := a) (j := n) (by omega) (by omega) (by omega)) rfl rfl ?_
  generalize hw19 : e_up w16 (17 * a + n + 97) 6 10 = w19
  have f20 : e_fr (kAj a) w w19 := e_fr.up f17 hw19 (by unfold kAj; omega)
  have hT21 : e_Has kTy w19 := e_Has.upr hT18 hw19 (kJ_6 (a := a) (j := n) (by omega) (by omega) (by omega)) (by omega)
  refine e_Ok.run (t' := (58, [(5, (1, 17 * a + n + 97)), (0, (1, 17 * a + 86)), (1, (0, kd)), (2, (0, lo)), (3, (0, hi)), (4, (0, ln))], [(1, 17 * a + 86), (1, 17 * a + 86)], w19)) 2 rfl ?_
  refine e_Ok.getf (z := n) rfl (lA0 (a := a) (by omega) (by omega)) rfl rfl (by rw [← hw19]; exact (e_up_ne _ _ (Or.inr (by omega))).trans (by rw [← hw16]; exact (e_up_ne _ _ (Or.inr (by omega))).trans (by rw [← hw13]; exact (e_up_ne _ _ (Or.inr (by omega))).trans (by rw [← hw10]; exact (e_up_ne _ _ (Or.inr (by omega))).trans (by rw [← hw7]; exact (e_up_ne _ _ (Or.inr (by omega))).trans (by rw [← hw4]; exact (e_up_ne _ _ (Or.inr (by omega))).trans (by rw [← hw1]; exact (e_up_ne _ _ (Or.inr (by omega))).trans hn))))))) (by omega) ?_
  refine e_Ok.run (t' := (62, [(5, (1, 17 * a + n + 97)), (0, (1, 17 * a + 86)), (1, (0, kd)), (2, (0, lo)), (3, (0, hi)), (4, (0, ln))], [(0, 1), (0, n), (1, 17 * a + 86)], w19)) 1 rfl ?_
  refine e_Ok.add (z := n + 1) rfl (by omega) (by omega) ?_
  refine e_Ok.putf rfl (lA0 (a := a) (by omega) (by omega)) rfl rfl ?_
  generalize hw22 : e_up w19 (17 * a + 86) 8 (n + 1) = w22
  have f23 : e_fr (kAj a) w w22 := e_fr.up f20 hw22 (by unfold kAj; omega)
  have hT24 : e_Has kTy w22 := e_Has.upr hT21 hw22 (kA_8 (a := a) (by omega) (by omega)) (by omega)
  refine e_Ok.run (t' := (67, [(5, (1, 17 * a + n + 97)), (0, (1, 17 * a + 86)), (1, (0, kd)), (2, (0, lo)), (3, (0, hi)), (4, (0, ln))], [(1, 17 * a + 86)], w22)) 1 rfl ?_
  have f0 : w22 (17 * a + n + 97) 0 = kd := (by rw [← hw22]; exact (e_up_ne _ _ (Or.inr (by omega))).trans (by rw [← hw19]; exact (e_up_ne _ _ (Or.inr (by omega))).trans (by rw [← hw16]; exact (e_up_ne _ _ (Or.inr (by omega))).trans (by rw [← hw13]; exact (e_up_ne _ _ (Or.inr (by omega))).trans (by rw [← hw10]; exact (e_up_ne _ _ (Or.inr (by omega))).trans (by rw [← hw7]; exact (e_up_ne _ _ (Or.inr (by omega))).trans (by rw [← hw4]; exact (e_up_ne _ _ (Or.inr (by omega))).trans (by rw [← hw1]; exact e_up_eq _ _ _ _))))))))
  have f1 : w22 (17 * a + n + 97) 1 = lo := (by rw [← hw22]; exact (e_up_ne _ _ (Or.inr (by omega))).trans (by rw [← hw19]; exact (e_up_ne _ _ (Or.inr (by omega))).trans (by rw [← hw16]; exact (e_up_ne _ _ (Or.inr (by omega))).trans (by rw [← hw13]; exact (e_up_ne _ _ (Or.inr (by omega))).trans (by rw [← hw10]; exact (e_up_ne _ _ (Or.inr (by omega))).trans (by rw [← hw7]; exact (e_up_ne _ _ (Or.inr (by omega))).trans (by rw [← hw4]; exact e_up_eq _ _ _ _)))))))
  have f2 : w22 (17 * a + n + 97) 2 = hi := (by rw [← hw22]; exact (e_up_ne _ _ (Or.inr (by omega))).trans (by rw [← hw19]; exact (e_up_ne _ _ (Or.inr (by omega))).trans (by rw [← hw16]; exact (e_up_ne _ _ (Or.inr (by omega))).trans (by rw [← hw13]; exact (e_up_ne _ _ (Or.inr (by omega))).trans (by rw [← hw10]; exact (e_up_ne _ _ (Or.inr (by omega))).trans (by rw [← hw7]; exact e_up_eq _ _ _ _))))))
  have f3 : w22 (17 * a + n + 97) 3 = ln := (by rw [← hw22]; exact (e_up_ne _ _ (Or.inr (by omega))).trans (by rw [← hw19]; exact (e_up_ne _ _ (Or.inr (by omega))).trans (by rw [← hw16]; exact (e_up_ne _ _ (Or.inr (by omega))).trans (by rw [← hw13]; exact (e_up_ne _ _ (Or.inr (by omega))).trans (by rw [← hw10]; exact e_up_eq _ _ _ _)))))
  have f4 : w22 (17 * a + n + 97) 4 = 0 := (by rw [← hw22]; exact (e_up_ne _ _ (Or.inr (by omega))).trans (by rw [← hw19]; exact (e_up_ne _ _ (Or.inr (by omega))).trans (by rw [← hw16]; exact (e_up_ne _ _ (Or.inr (by omega))).trans (by rw [← hw13]; exact e_up_eq _ _ _ _))))
  have f5 : w22 (17 * a + n + 97) 5 = 100 := (by rw [← hw22]; exact (e_up_ne _ _ (Or.inr (by omega))).trans (by rw [← hw19]; exact (e_up_ne _ _ (Or.inr (by omega))).trans (by rw [← hw16]; exact e_up_eq _ _ _ _)))
  have f6 : w22 (17 * a + n + 97) 6 = 10 := (by rw [← hw22]; exact (e_up_ne _ _ (Or.inr (by omega))).trans (by rw [← hw19]; exact e_up_eq _ _ _ _))
  have f8 : w22 (17 * a + 86) 8 = n + 1 := (by rw [← hw22]; exact e_up_eq _ _ _ _)
  have fo : ∀ j k, 0 ≤ j → j ≤ 5 → j ≠ n → w22 (17 * a + j + 97) k = w (17 * a + j + 97) k := fun j k g1 g2 g3 => by rw [← hw22, e_up_ne _ _ (by omega), ← hw19, e_up_ne _ _ (by omega), ← hw16, e_up_ne _ _ (by omega), ← hw13, e_up_ne _ _ (by omega), ← hw10, e_up_ne _ _ (by omega), ← hw7, e_up_ne _ _ (by omega), ← hw4, e_up_ne _ _ (by omega), ← hw1, e_up_ne _ _ (by omega)]
  refine e_Ok.callV rfl (by omega) rfl (lA0 (a := a) (by omega) (by omega)) rfl rfl (c_10_p (by omega) (a := a) hT24 (by omega) (by rw [← hw22, e_up_ne _ _ (by omega), ← hw19, e_up_ne _ _ (by omega), ← hw16, e_up_ne _ _ (by omega), ← hw13, e_up_ne _ _ (by omega), ← hw10, e_up_ne _ _ (by omega), ← hw7, e_up_ne _ _ (by omega), ← hw4, e_up_ne _ _ (by omega), ← hw1, e_up_ne _ _ (by omega)]; exact kx.1 0 (by omega) (by omega)) (by rw [← hw22, e_up_ne _ _ (by omega), ← hw19, e_up_ne _ _ (by omega), ← hw16, e_up_ne _ _ (by omega), ← hw13, e_up_ne _ _ (by omega), ← hw10, e_up_ne _ _ (by omega), ← hw7, e_up_ne _ _ (by omega), ← hw4, e_up_ne _ _ (by omega), ← hw1, e_up_ne _ _ (by omega)]; exact kx.2 0 (by omega) (by omega))) (fun r25 w26 h27 => ?_)
  obtain ⟨rfl, q28f, q28T, q28x, q28p⟩ := h27
  have f29 : e_fr (kAj a) w w26 := e_fr.trans f23 (e_fr.mono q28f (fun c k q => by exact (by unfold kPl at q; unfold kAj; omega)))
  show e_Ok 20 elay kcode eI (d + 1) 2 (70, [(5, (1, 17 * a + n + 97)), (0, (1, 17 * a + 86)), (1, (0, kd)), (2, (0, lo)), (3, (0, hi)), (4, (0, ln))], [], w26) _
  refine e_Ok.run (t' := (71, [(5, (1, 17 * a + n + 97)), (0, (1, 17 * a + 86)), (1, (0, kd)), (2, (0, lo)), (3, (0, hi)), (4, (0, ln))], [(1, 17 * a + 86)], w26)) 1 rfl ?_
  refine e_Ok.getf (z := n + 1) rfl (lA0 (a := a) (by omega) (by omega)) rfl rfl ((q28f (17 * a + 86) 8 (by unfold kPl; omega)).trans (by rw [← hw22]; exact e_up_eq _ _ _ _)) (by omega) ?_
  refine e_Ok.run (t' := (75, [(5, (1, 17 * a + n + 97)), (0, (1, 17 * a + 86)), (1, (0, kd)), (2, (0, lo)), (3, (0, hi)), (4, (0, ln))], [(0, 1), (0, n + 1)], w26)) 1 rfl ?_
  refine e_Ok.sub' (z := n) rfl (by omega) (by omega) ?_
  refine e_Ok.rets rfl rfl ?_
  exact ⟨_, rfl, f29, q28T, by omega, ⟨(by rw [q28f _ _ (by unfold kPl; omega)]; exact f0), (by rw [q28f _ _ (by unfold kPl; omega)]; exact f1), (by rw [q28f _ _ (by unfold kPl; omega)]; exact f2), (by rw [q28f _ _ (by unfold kPl; omega)]; exact f3), (by rw [q28f _ _ (by unfold kPl; omega)]; exact f4), (by rw [q28f _ _ (by unfold kPl; omega)]; exact f5), (by rw [q28f _ _ (by unfold kPl; omega)]; exact f6)⟩, (by rw [q28f _ _ (by unfold kPl; omega)]; exact f8), (fun j k g1 g2 g3 => by rw [q28f _ _ (by unfold kPl; omega)]; exact fo j k g1 g2 g3), q28x, q28p⟩
end
