noncomputable section
def mLv (t c k : Int) : Prop := (c = 275 ∧ (k = 100 ∨ k = 102)) ∨ (c = 276 ∧ (k = 5 ∨ 25060 ≤ k ∨ (20868 ≤ k ∧ k ≤ 20875) ∨ (16 ≤ k ∧ k < 160 ∧ ((k - 16) % 36 = 0 ∨ (k - 16) % 36 = 2 ∨ (k - 16) % 36 = 6 ∨ (k - 16) % 36 = 9)) ∨ (416 ≤ k ∧ k < 20576 ∧ ((k - 416) % 1260 = 7)) ∨ k = 1260 * t + 416 ∨ k = 1260 * t + 418 ∨ k = 1260 * t + 419 ∨ (1260 * t + 428 ≤ k ∧ k ≤ 1260 * t + 430) ∨ (1260 * t + 436 ≤ k ∧ k ≤ 1260 * t + 1675)))
def mDe (c k : Int) : Prop := (c = 275 ∧ k = 102) ∨ c = 345
theorem c_362 {d : Nat} {w : eW} (hT : e_Has mTy w) {t : Int} (ht : 0 ≤ t ∧ t ≤ 15) (h97 : w 275 97 = 1260 * t + 416) {f z : Int} (hF : w 276 (1260 * t + 428) = f) (hf : 1 ≤ f ∧ f ≤ 20) (hz : 1260 * t + 2 * f + 434 = z) : e_Ok 20 elay ecode eI d 362 (0, [(0, (1, 275))], [], w) (fun r w' => r = [(0, z)] ∧ w = w') := by
  refine e_Ok.run (t' := (1, [(0, (1, 275))], [(1, 275)], w)) 1 rfl ?_
  refine e_Ok.getf (z := 1260 * t + 416) rfl (el_o rfl) rfl rfl h97 (by omega) ?_
  refine e_Ok.run (t' := (6, [(0, (1, 275))], [(0, 20), (0, 1260 * t + 416)], w)) 1 rfl ?_
  refine e_Ok.add (z := 1260 * t + 436) rfl (by omega) (by omega) ?_
  refine e_Ok.run (t' := (9, [(0, (1, 275))], [(1, 275), (0, 2), (0, 1260 * t + 436)], w)) 2 rfl ?_
  refine e_Ok.getr (z := 276) rfl (el_o rfl) rfl rfl (e_Has.eq hT rfl) (by omega) ?_
  refine e_Ok.run (t' := (13, [(0, (1, 275))], [(1, 275), (1, 276), (0, 2), (0, 1260 * t + 436)], w)) 1 rfl ?_
  refine e_Ok.getf (z := 1260 * t + 416) rfl (el_o rfl) rfl rfl h97 (by omega) ?_
  refine e_Ok.run (t' := (18, [(0, (1, 275))], [(0, 12), (0, 1260 * t + 416), (1, 276), (0, 2), (0, 1260 * t + 436)], w)) 1 rfl ?_
  refine e_Ok.add (z := 1260 * t + 428) rfl (by omega) (by omega) ?_
  refine e_Ok.ald (z := f) rfl (el_o rfl) rfl (by omega) hF (by omega) ?_
  refine e_Ok.run (t' := (21, [(0, (1, 275))], [(0, 1), (0, f), (0, 2), (0, 1260 * t + 436)], w)) 1 rfl ?_
  refine e_Ok.sub' (z := f - 1) rfl (by omega) (by omega) ?_
  refine e_Ok.mul (z := 2 * f - 2) rfl (by omega) (by omega) ?_
  refine e_Ok.add (z := 1260 * t + 2 * f + 434) rfl (by omega) (by omega) ?_
  refine e_Ok.rets rfl rfl ?_
  exact ⟨by rw [← hz], rfl⟩
theorem c_365 {d : Nat} (hd : 21 ≤ d) {w : eW} (hT : e_Has mTy w) {t : Int} (ht : 0 ≤ t ∧ t ≤ 15) (h97 : w 275 97 = 1260 * t + 416) {f z x : Int} (hF : w 276 (1260 * t + 428) = f) (hf : 1 ≤ f ∧ f ≤ 20) (hz : 1260 * t + 2 * f + 434 = z) : e_Ok 20 elay ecode eI d 365 (0, [(0, (1, 275)), (1, (0, x))], [], w) (fun r w' => r = [] ∧ e_up w 276 z x = w') := by
  obtain ⟨d, rfl⟩ : ∃ e, d = e + 1 := ⟨d - 1, by omega⟩
  refine e_Ok.run (t' := (1, [(0, (1, 275)), (1, (0, x))], [(1, 275)], w)) 1 rfl ?_
  refine e_Ok.getr (z := 276) rfl (el_o rfl) rfl rfl (e_Has.eq hT rfl) (by omega) ?_
  refine e_Ok.run (t' := (5, [(0, (1, 275)), (1, (0, x))], [(1, 275), (1, 276)], w)) 1 rfl ?_
  refine e_Ok.callV rfl (by omega) rfl rfl rfl rfl (c_362 hT (by omega) h97 (f := f) (z := 1260 * t + 2 * f + 434) hF (by omega) (by omega)) (fun r1 w2 h3 => ?_)
  obtain ⟨rfl, rfl⟩ := h3
  show e_Ok 20 elay ecode eI (d + 1) 365 (8, [(0, (1, 275)), (1, (0, x))], [(0, 1260 * t + 2 * f + 434), (1, 276)], w) _
  refine e_Ok.run (t' := (9, [(0, (1, 275)), (1, (0, x))], [(0, x), (0, 1260 * t + 2 * f + 434), (1, 276)], w)) 1 rfl ?_
  refine e_Ok.ast rfl (el_o rfl) rfl rfl (by omega) ?_
  generalize hw4 : e_up w 276 (1260 * t + 2 * f + 434) x = w4
  refine e_Ok.rets rfl rfl ?_
  exact ⟨rfl, by rw [← hz]; exact hw4⟩
theorem c_363 {d : Nat} {w : eW} (hT : e_Has mTy w) {e e1 x : Int} (he : w 275 102 = e) (hr : 0 ≤ e ∧ e ≤ 4199) (h1 : e + 1 = e1) : e_Ok 20 elay ecode eI d 363 (0, [(0, (1, 275)), (1, (0, x))], [], w) (fun r w' => r = [] ∧ e_up (e_up w 345 e x) 275 102 e1 = w') := by
  refine e_Ok.run (t' := (1, [(0, (1, 275)), (1, (0, x))], [(1, 275)], w)) 1 rfl ?_
  refine e_Ok.getr (z := 345) rfl (el_o rfl) rfl rfl (e_Has.eq hT rfl) (by omega) ?_
  refine e_Ok.run (t' := (5, [(0, (1, 275)), (1, (0, x))], [(1, 275), (1, 345)], w)) 1 rfl ?_
  refine e_Ok.getf (z := e) rfl (el_o rfl) rfl rfl he (by omega) ?_
  refine e_Ok.run (t' := (9, [(0, (1, 275)), (1, (0, x))], [(0, x), (0, e), (1, 345)], w)) 1 rfl ?_
  refine e_Ok.ast rfl (el_o rfl) rfl rfl (by omega) ?_
  generalize hw1 : e_up w 345 e x = w1
  refine e_Ok.run (t' := (12, [(0, (1, 275)), (1, (0, x))], [(1, 275), (1, 275)], w1)) 2 rfl ?_
  refine e_Ok.getf (z := e) rfl (el_o rfl) rfl rfl (by rw [← hw1]; exact (e_up_ne _ _ (Or.inl (by omega))).trans he) (by omega) ?_
  refine e_Ok.run (t' := (16, [(0, (1, 275)), (1, (0, x))], [(0, 1), (0, e), (1, 275)], w1)) 1 rfl ?_
  refine e_Ok.add (z := e + 1) rfl (by omega) (by omega) ?_
  refine e_Ok.putf rfl (el_o rfl) rfl rfl ?_
  generalize hw2 : e_up w1 275 102 (e + 1) = w2
  refine e_Ok.rets rfl rfl ?_
  exact ⟨rfl, by rw [← h1]; exact hw2⟩
theorem c_364 {d : Nat} {w : eW} (hT : e_Has mTy w) {e u : Int} (he : w 275 102 = e) (hr : 1 ≤ e ∧ e ≤ 4200) (hu : e - 1 = u) (hk : -2147483648 ≤ w 345 u ∧ w 345 u ≤ 2147483647) : e_Ok 20 elay ecode eI d 364 (0, [(0, (1, 275))], [], w) (fun r w' => r = [(0, w 345 u)] ∧ e_up w 275 102 u = w') := by
  subst hu
  have kk : ∀ i, e - 1 ≤ i → i ≤ e - 1 → -2147483648 ≤ w 345 i ∧ w 345 i ≤ 2147483647 := fun i h1 h2 => by rw [show i = e - 1 by omega]; exact hk
  refine e_Ok.run (t' := (2, [(0, (1, 275))], [(1, 275), (1, 275)], w)) 2 rfl ?_
  refine e_Ok.getf (z := e) rfl (el_o rfl) rfl rfl he (by omega) ?_
  refine e_Ok.run (t' := (6, [(0, (1, 275))], [(0, 1), (0, e), (1, 275)], w)) 1 rfl ?_
  refine e_Ok.sub' (z := e - 1) rfl (by omega) (by omega) ?_
  refine e_Ok.putf rfl (el_o rfl) rfl rfl ?_
  generalize hw1 : e_up w 275 102 (e - 1) = w1
  refine e_Ok.run (t' := (11, [(0, (1, 275))], [(1, 275)], w1)) 1 rfl ?_
  refine e_Ok.getr (z := 345) rfl (el_o rfl) rfl rfl (by rw [← hw1]; exact (e_up_ne _ _ (Or.inr (by omega))).trans (e_Has.eq hT rfl)) (by omega) ?_
  refine e_Ok.run (t' := (15, [(0, (1, 275))], [(1, 275), (1, 345)], w1)) 1 rfl ?_
  refine e_Ok.getf (z := e - 1) rfl (el_o rfl) rfl rfl (by rw [← hw1]; exact e_up_eq _ _ _ _) (by omega) ?_
  have h2 := (kk (e - 1) (by omega) (by omega))
  refine e_Ok.ald (z := w 345 (e - 1)) rfl (el_o rfl) rfl (by omega) (by rw [← hw1]; exact (e_up_ne _ _ (Or.inl (by omega))).trans rfl) (by omega) ?_
  refine e_Ok.rets rfl rfl ?_
  exact ⟨rfl, rfl⟩
theorem c_370 {d : Nat} {w : eW} (hT : e_Has mTy w) {t : Int} (ht : 0 ≤ t ∧ t ≤ 15) (h97 : w 275 97 = 1260 * t + 416) {m m1 x y z z1 : Int} (hP : w 276 (1260 * t + 429) = m) (hm : 0 ≤ m ∧ m ≤ 599) (hm1 : m + 1 = m1) (hz : 1260 * t + 2 * m + 476 = z) (hz1 : 1260 * t + 2 * m + 477 = z1) : e_Ok 20 elay ecode eI d 370 (0, [(0, (1, 275)), (1, (0, x)), (2, (0, y))], [], w) (fun r w' => r = [] ∧ e_up (e_up (e_up w 276 z x) 276 z1 y) 276 (1260 * t + 429) m1 = w') := by
  refine e_Ok.run (t' := (1, [(0, (1, 275)), (1, (0, x)), (2, (0, y))], [(1, 275)], w)) 1 rfl ?_
  refine e_Ok.getf (z := 1260 * t + 416) rfl (el_o rfl) rfl rfl h97 (by omega) ?_
  refine e_Ok.run (t' := (6, [(0, (1, 275)), (1, (0, x)), (2, (0, y))], [(0, 60), (0, 1260 * t + 416)], w)) 1 rfl ?_
  refine e_Ok.add (z := 1260 * t + 476) rfl (by omega) (by omega) ?_
  refine e_Ok.run (t' := (9, [(0, (1, 275)), (1, (0, x)), (2, (0, y))], [(1, 275), (0, 2), (0, 1260 * t + 476)], w)) 2 rfl ?_
  refine e_Ok.getr (z := 276) rfl (el_o rfl) rfl rfl (e_Has.eq hT rfl) (by omega) ?_
  refine e_Ok.run (t' := (13, [(0, (1, 275)), (1, (0, x)), (2, (0, y))], [(1, 275), (1, 276), (0, 2), (0, 1260 * t + 476)], w)) 1 rfl ?_
  refine e_Ok.getf (z := 1260 * t + 416) rfl (el_o rfl) rfl rfl h97 (by omega) ?_
  refine e_Ok.run (t' := (18, [(0, (1, 275)), (1, (0, x)), (2, (0, y))], [(0, 13), (0, 1260 * t + 416), (1, 276), (0, 2), (0, 1260 * t + 476)], w)) 1 rfl ?_
  refine e_Ok.add (z := 1260 * t + 429) rfl (by omega) (by omega) ?_
  refine e_Ok.ald (z := m) rfl (el_o rfl) rfl (by omega) hP (by omega) ?_
  refine e_Ok.mul (z := 2 * m) rfl (by omega) (by omega) ?_
  refine e_Ok.add (z := 1260 * t + 2 * m + 476) rfl (by omega) (by omega) ?_
  refine e_Ok.run (t' := (24, [(3, (0, 1260 * t + 2 * m + 476)), (0, (1, 275)), (1, (0, x)), (2, (0, y))], [(1, 275)], w)) 2 rfl ?_
  refine e_Ok.getr (z := 276) rfl (el_o rfl) rfl rfl (e_Has.eq hT rfl) (by omega) ?_
  refine e_Ok.run (t' := (29, [(3, (0, 1260 * t + 2 * m + 476)), (0, (1, 275)), (1, (0, x)), (2, (0, y))], [(0, x), (0, 1260 * t + 2 * m + 476), (1, 276)], w)) 2 rfl ?_
  refine e_Ok.ast rfl (el_o rfl) rfl rfl (by omega) ?_
  generalize hw1 : e_up w 276 (1260 * t + 2 * m + 476) x = w1
  refine e_Ok.run (t' := (31, [(3, (0, 1260 * t + 2 * m + 476)), (0, (1, 275)), (1, (0, x)), (2, (0, y))], [(1, 275)], w1)) 1 rfl ?_
  refine e_Ok.getr (z := 276) rfl (el_o rfl) rfl rfl (by rw [← hw1]; exact (e_up_ne _ _ (Or.inl (by omega))).trans (e_Has.eq hT rfl)) (by omega) ?_
  refine e_Ok.run (t' := (36, [(3, (0, 1260 * t + 2 * m + 476)), (0, (1, 275)), (1, (0, x)), (2, (0, y))], [(0, 1), (0, 1260 * t + 2 * m + 476), (1, 276)], w1)) 2 rfl ?_
  refine e_Ok.add (z := 1260 * t + 2 * m + 477) rfl (by omega) (by omega) ?_
  refine e_Ok.run (t' := (38, [(3, (0, 1260 * t + 2 * m + 476)), (0, (1, 275)), (1, (0, x)), (2, (0, y))], [(0, y), (0, 1260 * t + 2 * m + 477), (1, 276)], w1)) 1 rfl ?_
  refine e_Ok.ast rfl (el_o rfl) rfl rfl (by omega) ?_
  generalize hw2 : e_up w1 276 (1260 * t + 2 * m + 477) y = w2
  refine e_Ok.run (t' := (40, [(3, (0, 1260 * t + 2 * m + 476)), (0, (1, 275)), (1, (0, x)), (2, (0, y))], [(1, 275)], w2)) 1 rfl ?_
  refine e_Ok.getr (z := 276) rfl (el_o rfl) rfl rfl (by rw [← hw2]; exact (e_up_ne _ _ (Or.inl (by omega))).trans (by rw [← hw1]; exact (e_up_ne _ _ (Or.inl (by omega))).trans (e_Has.eq hT rfl))) (by omega) ?_
  refine e_Ok.run (t' := (44, [(3, (0, 1260 * t + 2 * m + 476)), (0, (1, 275)), (1, (0, x)), (2, (0, y))], [(1, 275), (1, 276)], w2)) 1 rfl ?_
  refine e_Ok.getf (z := 1260 * t + 416) rfl (el_o rfl) rfl rfl (by rw [← hw2]; exact (e_up_ne _ _ (Or.inl (by omega))).trans (by rw [← hw1]; exact (e_up_ne _ _ (Or.inl (by omega))).trans h97)) (by omega) ?_
  refine e_Ok.run (t' := (49, [(3, (0, 1260 * t + 2 * m + 476)), (0, (1, 275)), (1, (0, x)), (2, (0, y))], [(0, 13), (0, 1260 * t + 416), (1, 276)], w2)) 1 rfl ?_
  refine e_Ok.add (z := 1260 * t + 429) rfl (by omega) (by omega) ?_
  refine e_Ok.run (t' := (51, [(3, (0, 1260 * t + 2 * m + 476)), (0, (1, 275)), (1, (0, x)), (2, (0, y))], [(0, 1260 * t + 429), (1, 276), (0, 1260 * t + 429), (1, 276)], w2)) 1 rfl ?_
  refine e_Ok.ald (z := m) rfl (el_o rfl) rfl (by omega) (by rw [← hw2]; exact (e_up_ne _ _ (Or.inr (by omega))).trans (by rw [← hw1]; exact (e_up_ne _ _ (Or.inr (by omega))).trans hP)) (by omega) ?_
  refine e_Ok.run (t' := (53, [(3, (0, 1260 * t + 2 * m + 476)), (0, (1, 275)), (1, (0, x)), (2, (0, y))], [(0, 1), (0, m), (0, 1260 * t + 429), (1, 276)], w2)) 1 rfl ?_
  refine e_Ok.add (z := m + 1) rfl (by omega) (by omega) ?_
  refine e_Ok.ast rfl (el_o rfl) rfl rfl (by omega) ?_
  generalize hw3 : e_up w2 276 (1260 * t + 429) (m + 1) = w3
  refine e_Ok.rets rfl rfl ?_
  exact ⟨rfl, by rw [← hz, ← hz1, ← hm1, hw1, hw2]; exact hw3⟩
end
