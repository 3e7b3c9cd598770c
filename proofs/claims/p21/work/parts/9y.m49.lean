noncomputable section
def mRf (c k : Int) : Prop := c = 275 ∧ 88 ≤ k ∧ k ≤ 89
def mNm (c k : Int) : Prop := (341 ≤ c ∧ c ≤ 344) ∨ (c = 275 ∧ k = 94)
theorem mT_Rf {w w' : eW} (f : e_fr mRf w w') (h : e_Has mTy w) : e_Has mTy w' := h.fr (fun c k q => by obtain ⟨rfl, q⟩ := q; obtain rfl | rfl : k = 88 ∨ k = 89 := (by omega) <;> rfl) f
theorem hT_Rf {w w' : eW} (f : e_fr mRf w w') (h : e_Has hTy w) (h8 : 0 ≤ w' 275 88 ∧ w' 275 88 ≤ 7) (h9 : -2147483648 ≤ w' 275 89 ∧ w' 275 89 ≤ 2147483647) : e_Has hTy w' := fun c k hl => by
  by_cases q : mRf c k
  · obtain ⟨rfl, q⟩ := q
    obtain rfl | rfl : k = 88 ∨ k = 89 := by omega
    · exact h8
    · exact h9
  · rw [f c k q]
    exact h c k hl
theorem c_336 {d : Nat} {w : eW} (hT : e_Has mTy w) {n s o x : Int} (hn : w 275 78 = n) (hnr : 0 ≤ n ∧ n ≤ 9999) (hs : w 275 81 = s) (hsr : -2147483648 ≤ s ∧ s ≤ 2147483647) : e_Ok 20 elay ecode eI d 336 (0, [(0, (1, 275)), (1, (0, o)), (2, (0, x))], [], w) (fun r w' => r = [(0, n)] ∧ EM w w' n o x s) := by
  refine e_Ok.run (t' := (4, [(0, (1, 275)), (1, (0, o)), (2, (0, x))], [(1, 275), (0, 40000)], w)) 2 rfl ?_
  refine e_Ok.getf (z := n) rfl (el_o rfl) rfl rfl hn (by omega) ?_
  refine e_Ok.add (z := n + 40000) rfl (by omega) (by omega) ?_
  refine e_Ok.run (t' := (10, [(3, (0, n + 40000)), (0, (1, 275)), (1, (0, o)), (2, (0, x))], [(1, 275)], w)) 2 rfl ?_
  refine e_Ok.getr (z := 328) rfl (el_o rfl) rfl rfl (e_Has.eq hT rfl) (by omega) ?_
  refine e_Ok.run (t' := (15, [(3, (0, n + 40000)), (0, (1, 275)), (1, (0, o)), (2, (0, x))], [(0, o), (0, n + 40000), (1, 328)], w)) 2 rfl ?_
  refine e_Ok.ast rfl (el_o rfl) rfl rfl (by omega) ?_
  generalize hw1 : e_up w 328 (n + 40000) o = w1
  refine e_Ok.run (t' := (17, [(3, (0, n + 40000)), (0, (1, 275)), (1, (0, o)), (2, (0, x))], [(1, 275)], w1)) 1 rfl ?_
  refine e_Ok.getr (z := 329) rfl (el_o rfl) rfl rfl (by rw [← hw1]; exact (e_up_ne _ _ (Or.inl (by omega))).trans (e_Has.eq hT rfl)) (by omega) ?_
  refine e_Ok.run (t' := (22, [(3, (0, n + 40000)), (0, (1, 275)), (1, (0, o)), (2, (0, x))], [(0, x), (0, n + 40000), (1, 329)], w1)) 2 rfl ?_
  refine e_Ok.ast rfl (el_o rfl) rfl rfl (by omega) ?_
  generalize hw2 : e_up w1 329 (n + 40000) x = w2
  refine e_Ok.run (t' := (24, [(3, (0, n + 40000)), (0, (1, 275)), (1, (0, o)), (2, (0, x))], [(1, 275)], w2)) 1 rfl ?_
  refine e_Ok.getr (z := 330) rfl (el_o rfl) rfl rfl (by rw [← hw2]; exact (e_up_ne _ _ (Or.inl (by omega))).trans (by rw [← hw1]; exact (e_up_ne _ _ (Or.inl (by omega))).trans (e_Has.eq hT rfl))) (by omega) ?_
  refine e_Ok.run (t' := (29, [(3, (0, n + 40000)), (0, (1, 275)), (1, (0, o)), (2, (0, x))], [(1, 275), (0, n + 40000), (1, 330)], w2)) 2 rfl ?_
  refine e_Ok.getf (z := s) rfl (el_o rfl) rfl rfl (by rw [← hw2]; exact (e_up_ne _ _ (Or.inl (by omega))).trans (by rw [← hw1]; exact (e_up_ne _ _ (Or.inl (by omega))).trans hs)) (by omega) ?_
  refine e_Ok.ast rfl (el_o rfl) rfl rfl (by omega) ?_
  generalize hw3 : e_up w2 330 (n + 40000) s = w3
  refine e_Ok.run (t' := (35, [(3, (0, n + 40000)), (0, (1, 275)), (1, (0, o)), (2, (0, x))], [(1, 275), (1, 275)], w3)) 2 rfl ?_
  refine e_Ok.getf (z := n) rfl (el_o rfl) rfl rfl (by rw [← hw3]; exact (e_up_ne _ _ (Or.inl (by omega))).trans (by rw [← hw2]; exact (e_up_ne _ _ (Or.inl (by omega))).trans (by rw [← hw1]; exact (e_up_ne _ _ (Or.inl (by omega))).trans hn))) (by omega) ?_
  refine e_Ok.run (t' := (39, [(3, (0, n + 40000)), (0, (1, 275)), (1, (0, o)), (2, (0, x))], [(0, 1), (0, n), (1, 275)], w3)) 1 rfl ?_
  refine e_Ok.add (z := n + 1) rfl (by omega) (by omega) ?_
  refine e_Ok.putf rfl (el_o rfl) rfl rfl ?_
  generalize hw4 : e_up w3 275 78 (n + 1) = w4
  refine e_Ok.run (t' := (44, [(3, (0, n + 40000)), (0, (1, 275)), (1, (0, o)), (2, (0, x))], [(1, 275)], w4)) 1 rfl ?_
  refine e_Ok.getf (z := n + 1) rfl (el_o rfl) rfl rfl (by rw [← hw4]; exact e_up_eq _ _ _ _) (by omega) ?_
  refine e_Ok.run (t' := (48, [(3, (0, n + 40000)), (0, (1, 275)), (1, (0, o)), (2, (0, x))], [(0, 1), (0, n + 1)], w4)) 1 rfl ?_
  refine e_Ok.sub' (z := n) rfl (by omega) (by omega) ?_
  refine e_Ok.rets rfl rfl ?_
  exact ⟨rfl, (fun c k q => by rw [← hw4, ← hw3, ← hw2, ← hw1]; exact (e_up_ne _ _ (by omega)).trans ((e_up_ne _ _ (by omega)).trans ((e_up_ne _ _ (by omega)).trans (e_up_ne _ _ (by omega))))), (by rw [← hw4]; exact (e_up_ne _ _ (Or.inl (by omega))).trans (by rw [← hw3]; exact (e_up_ne _ _ (Or.inl (by omega))).trans (by rw [← hw2]; exact (e_up_ne _ _ (Or.inl (by omega))).trans (by rw [← hw1]; exact e_up_eq _ _ _ _)))), (by rw [← hw4]; exact (e_up_ne _ _ (Or.inl (by omega))).trans (by rw [← hw3]; exact (e_up_ne _ _ (Or.inl (by omega))).trans (by rw [← hw2]; exact e_up_eq _ _ _ _))), (by rw [← hw4]; exact (e_up_ne _ _ (Or.inl (by omega))).trans (by rw [← hw3]; exact e_up_eq _ _ _ _)), (by rw [← hw4]; exact e_up_eq _ _ _ _)⟩
theorem c_337 {d : Nat} {w : eW} (hT : e_Has mTy w) {n a : Int} (hn : w 275 78 = n) (hnr : 0 ≤ n ∧ n ≤ 10000) (ha : 0 ≤ a ∧ a ≤ 9999) : e_Ok 20 elay ecode eI d 337 (0, [(0, (1, 275)), (1, (0, a))], [], w) (fun r w' => r = [] ∧ e_up w 329 (a + 40000) n = w') := by
  refine e_Ok.run (t' := (1, [(0, (1, 275)), (1, (0, a))], [(1, 275)], w)) 1 rfl ?_
  refine e_Ok.getr (z := 329) rfl (el_o rfl) rfl rfl (e_Has.eq hT rfl) (by omega) ?_
  refine e_Ok.run (t' := (8, [(0, (1, 275)), (1, (0, a))], [(0, a), (0, 40000), (1, 329)], w)) 2 rfl ?_
  refine e_Ok.add (z := a + 40000) rfl (by omega) (by omega) ?_
  refine e_Ok.run (t' := (10, [(0, (1, 275)), (1, (0, a))], [(1, 275), (0, a + 40000), (1, 329)], w)) 1 rfl ?_
  refine e_Ok.getf (z := n) rfl (el_o rfl) rfl rfl hn (by omega) ?_
  refine e_Ok.ast rfl (el_o rfl) rfl rfl (by omega) ?_
  generalize hw1 : e_up w 329 (a + 40000) n = w1
  refine e_Ok.rets rfl rfl ?_
  exact ⟨rfl, rfl⟩
theorem c_331 {d : Nat} {w : eW} (hT : e_Has mTy w) {N b : Int} (ht : tkS w N) : e_Ok 20 elay ecode eI d 331 (0, [(0, (1, 275)), (1, (0, b))], [], w) (fun r w' => ∃ z : Int, r = [(0, z)] ∧ w = w' ∧ ((z = 1 ∧ w 275 84 = 3 ∧ w 275 85 = b) ∨ (z = 0 ∧ ¬ (w 275 84 = 3 ∧ w 275 85 = b)))) := by
  unfold tkS tkV at ht
  refine e_Ok.run (t' := (1, [(0, (1, 275)), (1, (0, b))], [(1, 275)], w)) 1 rfl ?_
  refine e_Ok.getf (z := w 275 84) rfl (el_o rfl) rfl rfl rfl (by omega) ?_
  refine e_Ok.run (t' := (5, [(0, (1, 275)), (1, (0, b))], [(0, 3), (0, w 275 84)], w)) 1 rfl ?_
  refine e_Ok.if2 rfl (fun h1 => ?_) (fun h1 => ?_)
  · replace h1 : (w 275 84 : Int) ≠ 3 := h1
    refine e_Ok.run (t' := (21, [(0, (1, 275)), (1, (0, b))], [(0, 0)], w)) 1 rfl ?_
    refine e_Ok.rets rfl rfl ?_
    exact ⟨_, rfl, rfl, Or.inr ⟨rfl, by omega⟩⟩
  · replace h1 : (w 275 84 : Int) = 3 := by have q : ¬ ((w 275 84 : Int) ≠ 3) := h1; omega
    refine e_Ok.run (t' := (9, [(0, (1, 275)), (1, (0, b))], [(1, 275)], w)) 1 rfl ?_
    refine e_Ok.getf (z := w 275 85) rfl (el_o rfl) rfl rfl rfl (by omega) ?_
    refine e_Ok.run (t' := (13, [(0, (1, 275)), (1, (0, b))], [(0, b), (0, w 275 85)], w)) 1 rfl ?_
    refine e_Ok.if2 rfl (fun h2 => ?_) (fun h2 => ?_)
    · replace h2 : (w 275 85 : Int) ≠ b := h2
      refine e_Ok.run (t' := (21, [(0, (1, 275)), (1, (0, b))], [(0, 0)], w)) 1 rfl ?_
      refine e_Ok.rets rfl rfl ?_
      exact ⟨_, rfl, rfl, Or.inr ⟨rfl, by omega⟩⟩
    · replace h2 : (w 275 85 : Int) = b := by have q : ¬ ((w 275 85 : Int) ≠ b) := h2; omega
      refine e_Ok.run (t' := (21, [(0, (1, 275)), (1, (0, b))], [(0, 1)], w)) 2 rfl ?_
      refine e_Ok.rets rfl rfl ?_
      exact ⟨_, rfl, rfl, Or.inl ⟨rfl, by omega, by omega⟩⟩
theorem c_332 {d : Nat} {w : eW} (hT : e_Has mTy w) {N b : Int} (ht : tkS w N) : e_Ok 20 elay ecode eI d 332 (0, [(0, (1, 275)), (1, (0, b))], [], w) (fun r w' => ∃ z : Int, r = [(0, z)] ∧ w = w' ∧ ((z = 1 ∧ w 275 84 = 4 ∧ w 275 85 = b) ∨ (z = 0 ∧ ¬ (w 275 84 = 4 ∧ w 275 85 = b)))) := by
  unfold tkS tkV at ht
  refine e_Ok.run (t' := (1, [(0, (1, 275)), (1, (0, b))], [(1, 275)], w)) 1 rfl ?_
  refine e_Ok.getf (z := w 275 84) rfl (el_o rfl) rfl rfl rfl (by omega) ?_
  refine e_Ok.run (t' := (5, [(0, (1, 275)), (1, (0, b))], [(0, 4), (0, w 275 84)], w)) 1 rfl ?_
  refine e_Ok.if2 rfl (fun h1 => ?_) (fun h1 => ?_)
  · replace h1 : (w 275 84 : Int) ≠ 4 := h1
    refine e_Ok.run (t' := (21, [(0, (1, 275)), (1, (0, b))], [(0, 0)], w)) 1 rfl ?_
    refine e_Ok.rets rfl rfl ?_
    exact ⟨_, rfl, rfl, Or.inr ⟨rfl, by omega⟩⟩
  · replace h1 : (w 275 84 : Int) = 4 := by have q : ¬ ((w 275 84 : Int) ≠ 4) := h1; omega
    refine e_Ok.run (t' := (9, [(0, (1, 275)), (1, (0, b))], [(1, 275)], w)) 1 rfl ?_
    refine e_Ok.getf (z := w 275 85) rfl (el_o rfl) rfl rfl rfl (by omega) ?_
    refine e_Ok.run (t' := (13, [(0, (1, 275)), (1, (0, b))], [(0, b), (0, w 275 85)], w)) 1 rfl ?_
    refine e_Ok.if2 rfl (fun h2 => ?_) (fun h2 => ?_)
    · replace h2 : (w 275 85 : Int) ≠ b := h2
      refine e_Ok.run (t' := (21, [(0, (1, 275)), (1, (0, b))], [(0, 0)], w)) 1 rfl ?_
      refine e_Ok.rets rfl rfl ?_
      exact ⟨_, rfl, rfl, Or.inr ⟨rfl, by omega⟩⟩
    · replace h2 : (w 275 85 : Int) = b := by have q : ¬ ((w 275 85 : Int) ≠ b) := h2; omega
      refine e_Ok.run (t' := (21, [(0, (1, 275)), (1, (0, b))], [(0, 1)], w)) 2 rfl ?_
      refine e_Ok.rets rfl rfl ?_
      exact ⟨_, rfl, rfl, Or.inl ⟨rfl, by omega, by omega⟩⟩
theorem c_333 {d : Nat} {w : eW} (hT : e_Has mTy w) (hH : e_Has hTy w) {N : Int} (hN : w 275 9 = N) (hNr : 0 ≤ N ∧ N ≤ 4000) (ht : tkS w N) {f : Int} (hf : 1 ≤ f ∧ f ≤ 3) : e_Ok 20 elay ecode eI d 333 (0, [(0, (1, 275)), (1, (0, f))], [], w) (fun r w' => r = [] ∧ ((w = w' ∧ w 275 88 ≠ 0) ∨ (w 275 88 = 0 ∧ e_fr mRf w w' ∧ e_Has mTy w' ∧ e_Has hTy w' ∧ 1 ≤ w' 275 88 ∧ w' 275 88 ≤ 3))) := by
  have ht0 := ht
  unfold tkS tkV at ht
  have hfk := e_Has.get hH (c := 275) (k := 88) (lo := 0) (hi := 7) rfl (by decide)
  refine e_Ok.run (t' := (1, [(0, (1, 275)), (1, (0, f))], [(1, 275)], w)) 1 rfl ?_
  have h1 := (e_Has.get hH (c := 275) (k := 88) (lo := 0) (hi := 7) rfl (by decide))
  refine e_Ok.getf (z := w 275 88) rfl (el_o rfl) rfl rfl rfl (by omega) ?_
  refine e_Ok.if1 rfl (fun h2 => ?_) (fun h2 => ?_)
  · replace h2 : (w 275 88 : Int) ≠ 0 := h2
    refine e_Ok.rets rfl rfl ?_
    exact ⟨rfl, Or.inl ⟨rfl, by omega⟩⟩
  · replace h2 : (w 275 88 : Int) = 0 := by have q : ¬ ((w 275 88 : Int) ≠ 0) := h2; omega
    refine e_Ok.run (t' := (9, [(0, (1, 275)), (1, (0, f))], [(1, 275), (1, 275)], w)) 2 rfl ?_
    refine e_Ok.getf (z := w 275 84) rfl (el_o rfl) rfl rfl rfl (by omega) ?_
    refine e_Ok.run (t' := (13, [(0, (1, 275)), (1, (0, f))], [(0, 5), (0, w 275 84), (1, 275)], w)) 1 rfl ?_
    refine e_Ok.if2 rfl (fun h3 => ?_) (fun h3 => ?_)
    · replace h3 : (w 275 84 : Int) ≠ 5 := h3
      refine e_Ok.run (t' := (21, [(0, (1, 275)), (1, (0, f))], [(0, f), (1, 275)], w)) 1 rfl ?_
      refine e_Ok.putf rfl (el_o rfl) rfl rfl ?_
      generalize hw4 : e_up w 275 88 f = w4
      have f5 : e_fr mRf w w4 := e_fr.up (e_fr.refl w) hw4 (by unfold mRf; omega)
      refine e_Ok.run (t' := (26, [(0, (1, 275)), (1, (0, f))], [(1, 275), (1, 275)], w4)) 2 rfl ?_
      refine e_Ok.getf (z := w 275 86) rfl (el_o rfl) rfl rfl (by rw [← hw4]; exact (e_up_ne _ _ (Or.inr (by omega))).trans rfl) (by omega) ?_
      refine e_Ok.putf rfl (el_o rfl) rfl rfl ?_
      generalize hw6 : e_up w4 275 89 (w 275 86) = w6
      have f7 : e_fr mRf w w6 := e_fr.up f5 hw6 (by unfold mRf; omega)
      refine e_Ok.rets rfl rfl ?_
      have e8 : w6 275 88 = f := (by rw [← hw6]; exact (e_up_ne _ _ (Or.inr (by omega))).trans (by rw [← hw4]; exact e_up_eq _ _ _ _))
      have e9 : w6 275 89 = w 275 86 := (by rw [← hw6]; exact e_up_eq _ _ _ _)
      exact ⟨rfl, Or.inr ⟨by omega, f7, mT_Rf f7 hT, hT_Rf f7 hH (by omega) (by omega), by omega⟩⟩
    · replace h3 : (w 275 84 : Int) = 5 := by have q : ¬ ((w 275 84 : Int) ≠ 5) := h3; omega
      refine e_Ok.run (t' := (21, [(0, (1, 275)), (1, (0, f))], [(0, 1), (1, 275)], w)) 2 rfl ?_
      refine e_Ok.putf rfl (el_o rfl) rfl rfl ?_
      generalize hw8 : e_up w 275 88 1 = w8
      have f9 : e_fr mRf w w8 := e_fr.up (e_fr.refl w) hw8 (by unfold mRf; omega)
      refine e_Ok.run (t' := (26, [(0, (1, 275)), (1, (0, f))], [(1, 275), (1, 275)], w8)) 2 rfl ?_
      refine e_Ok.getf (z := w 275 86) rfl (el_o rfl) rfl rfl (by rw [← hw8]; exact (e_up_ne _ _ (Or.inr (by omega))).trans rfl) (by omega) ?_
      refine e_Ok.putf rfl (el_o rfl) rfl rfl ?_
      generalize hw10 : e_up w8 275 89 (w 275 86) = w10
      have f11 : e_fr mRf w w10 := e_fr.up f9 hw10 (by unfold mRf; omega)
      refine e_Ok.rets rfl rfl ?_
      have e8 : w10 275 88 = 1 := (by rw [← hw10]; exact (e_up_ne _ _ (Or.inr (by omega))).trans (by rw [← hw8]; exact e_up_eq _ _ _ _))
      have e9 : w10 275 89 = w 275 86 := (by rw [← hw10]; exact e_up_eq _ _ _ _)
      exact ⟨rfl, Or.inr ⟨by omega, f11, mT_Rf f11 hT, hT_Rf f11 hH (by omega) (by omega), by omega⟩⟩
theorem c_334 {d : Nat} (hd : 27 ≤ d) {w : eW} (hT : e_Has mTy w) (hH : e_Has hTy w) {N : Int} (hN : w 275 9 = N) (hNr : 0 ≤ N ∧ N ≤ 4000) (ht : tkS w N) {b : Int} (hb : 0 ≤ b ∧ b ≤ 1) : e_Ok 20 elay ecode eI d 334 (0, [(0, (1, 275)), (1, (0, b))], [], w) (fun r w' => r = [] ∧ ((w = w' ∧ w 275 88 ≠ 0) ∨ (w 275 88 = 0 ∧ b = 1 ∧ e_fr mTq w w' ∧ tkS w' N ∧ w 275 87 ≤ w' 275 86) ∨ (w 275 88 = 0 ∧ b = 0 ∧ e_fr mRf w w' ∧ e_Has mTy w' ∧ e_Has hTy w' ∧ 1 ≤ w' 275 88 ∧ w' 275 88 ≤ 3))) := by
  obtain ⟨d, rfl⟩ : ∃ e, d = e + 1 := ⟨d - 1, by omega⟩
  have ht0 := ht
  unfold tkS tkV at ht
  have hfk := e_Has.get hH (c := 275) (k := 88) (lo := 0) (hi := 7) rfl (by decide)
  refine e_Ok.run (t' := (1, [(0, (1, 275)), (1, (0, b))], [(1, 275)], w)) 1 rfl ?_
  have h1 := (e_Has.get hH (c := 275) (k := 88) (lo := 0) (hi := 7) rfl (by decide))
  refine e_Ok.getf (z := w 275 88) rfl (el_o rfl) rfl rfl rfl (by omega) ?_
  refine e_Ok.if1 rfl (fun h2 => ?_) (fun h2 => ?_)
  · replace h2 : (w 275 88 : Int) = 0 := h2
    refine e_Ok.run (t' := (9, [(0, (1, 275)), (1, (0, b))], [(0, b)], w)) 1 rfl ?_
    refine e_Ok.if1 rfl (fun h3 => ?_) (fun h3 => ?_)
    · replace h3 : (b : Int) = 0 := h3
      refine e_Ok.run (t' := (21, [(0, (1, 275)), (1, (0, b))], [(0, 2), (1, 275)], w)) 2 rfl ?_
      refine e_Ok.callV rfl (by omega) rfl rfl rfl rfl (c_333 hT hH hN hNr ht0 (by omega)) (fun r4 w5 h6 => ?_)
      obtain ⟨rfl, q7⟩ := h6
      obtain ⟨-, q7x⟩ | ⟨-, q7, q7T, q7H, q7b⟩ := q7
      · exact absurd (by omega) q7x
      show e_Ok 20 elay ecode eI (d + 1) 334 (24, [(0, (1, 275)), (1, (0, b))], [], w5) _
      refine e_Ok.rets rfl rfl ?_
      exact ⟨rfl, Or.inr (Or.inr ⟨by omega, by omega, q7, q7T, q7H, q7b⟩)⟩
    · replace h3 : (b : Int) ≠ 0 := by have q : ¬ ((b : Int) = 0) := h3; omega
      refine e_Ok.run (t' := (13, [(0, (1, 275)), (1, (0, b))], [(1, 275)], w)) 1 rfl ?_
      refine e_Ok.callV rfl (by omega) rfl rfl rfl rfl (c_327 (by omega) hT hH hN hNr (t := w 275 87) rfl (by omega)) (fun r8 w9 h10 => ?_)
      obtain ⟨rfl, q11, q11s, q11t⟩ := h10
      show e_Ok 20 elay ecode eI (d + 1) 334 (16, [(0, (1, 275)), (1, (0, b))], [], w9) _
      refine e_Ok.run (t' := (24, [(0, (1, 275)), (1, (0, b))], [], w9)) 1 rfl ?_
      refine e_Ok.rets rfl rfl ?_
      exact ⟨rfl, Or.inr (Or.inl ⟨by omega, by omega, q11, q11s, q11t⟩)⟩
  · replace h2 : (w 275 88 : Int) ≠ 0 := by have q : ¬ ((w 275 88 : Int) = 0) := h2; omega
    refine e_Ok.rets rfl rfl ?_
    exact ⟨rfl, Or.inl ⟨rfl, by omega⟩⟩
theorem c_335 {d : Nat} (hd : 22 ≤ d) {w : eW} (hT : e_Has mTy w) (hH : e_Has hTy w) {N : Int} (hN : w 275 9 = N) (hNr : 0 ≤ N ∧ N ≤ 4000) (ht : tkS w N) {o : Int} (ho : w 275 83 = o) (hor : -1000 ≤ o ∧ o ≤ 1000) : e_Ok 20 elay ecode eI d 335 (0, [(0, (1, 275))], [], w) (fun r w' => r = [] ∧ w' 275 83 = o + 1 ∧ ((e_up w 275 83 (o + 1) = w' ∧ ¬ (w 275 88 = 0 ∧ o = 30)) ∨ (w 275 88 = 0 ∧ o = 30 ∧ ∃ v : eW, e_up v 275 83 (o + 1) = w' ∧ e_fr mRf w v ∧ e_Has mTy v ∧ e_Has hTy v ∧ 1 ≤ v 275 88 ∧ v 275 88 ≤ 3))) := by
  obtain ⟨d, rfl⟩ : ∃ e, d = e + 1 := ⟨d - 1, by omega⟩
  have ht0 := ht
  unfold tkS tkV at ht
  have hfk := e_Has.get hH (c := 275) (k := 88) (lo := 0) (hi := 7) rfl (by decide)
  refine e_Ok.run (t' := (1, [(0, (1, 275))], [(1, 275)], w)) 1 rfl ?_
  have h1 := (e_Has.get hH (c := 275) (k := 88) (lo := 0) (hi := 7) rfl (by decide))
  refine e_Ok.getf (z := w 275 88) rfl (el_o rfl) rfl rfl rfl (by omega) ?_
  refine e_Ok.if1 rfl (fun h2 => ?_) (fun h2 => ?_)
  · replace h2 : (w 275 88 : Int) ≠ 0 := h2
    refine e_Ok.run (t' := (23, [(0, (1, 275))], [(1, 275), (1, 275)], w)) 2 rfl ?_
    refine e_Ok.getf (z := o) rfl (el_o rfl) rfl rfl ho (by omega) ?_
    refine e_Ok.run (t' := (27, [(0, (1, 275))], [(0, 1), (0, o), (1, 275)], w)) 1 rfl ?_
    refine e_Ok.add (z := o + 1) rfl (by omega) (by omega) ?_
    refine e_Ok.putf rfl (el_o rfl) rfl rfl ?_
    generalize hw3 : e_up w 275 83 (o + 1) = w3
    refine e_Ok.rets rfl rfl ?_
    have e3 : w3 275 83 = o + 1 := (by rw [← hw3]; exact e_up_eq _ _ _ _)
    exact ⟨rfl, e3, Or.inl ⟨rfl, by omega⟩⟩
  · replace h2 : (w 275 88 : Int) = 0 := by have q : ¬ ((w 275 88 : Int) ≠ 0) := h2; omega
    refine e_Ok.run (t' := (8, [(0, (1, 275))], [(1, 275)], w)) 1 rfl ?_
    refine e_Ok.getf (z := o) rfl (el_o rfl) rfl rfl ho (by omega) ?_
    refine e_Ok.run (t' := (13, [(0, (1, 275))], [(0, 30), (0, o)], w)) 1 rfl ?_
    refine e_Ok.if2 rfl (fun h4 => ?_) (fun h4 => ?_)
    · replace h4 : (o : Int) ≠ 30 := h4
      refine e_Ok.run (t' := (23, [(0, (1, 275))], [(1, 275), (1, 275)], w)) 2 rfl ?_
      refine e_Ok.getf (z := o) rfl (el_o rfl) rfl rfl ho (by omega) ?_
      refine e_Ok.run (t' := (27, [(0, (1, 275))], [(0, 1), (0, o), (1, 275)], w)) 1 rfl ?_
      refine e_Ok.add (z := o + 1) rfl (by omega) (by omega) ?_
      refine e_Ok.putf rfl (el_o rfl) rfl rfl ?_
      generalize hw5 : e_up w 275 83 (o + 1) = w5
      refine e_Ok.rets rfl rfl ?_
      have e3 : w5 275 83 = o + 1 := (by rw [← hw5]; exact e_up_eq _ _ _ _)
      exact ⟨rfl, e3, Or.inl ⟨rfl, by omega⟩⟩
    · replace h4 : (o : Int) = 30 := by have q : ¬ ((o : Int) ≠ 30) := h4; omega
      refine e_Ok.run (t' := (18, [(0, (1, 275))], [(0, 3), (1, 275)], w)) 2 rfl ?_
      refine e_Ok.callV rfl (by omega) rfl rfl rfl rfl (c_333 hT hH hN hNr ht0 (by omega)) (fun r6 w7 h8 => ?_)
      obtain ⟨rfl, q9⟩ := h8
      obtain ⟨-, q9x⟩ | ⟨-, q9, q9T, q9H, q9b⟩ := q9
      · exact absurd (by omega) q9x
      show e_Ok 20 elay ecode eI (d + 1) 335 (21, [(0, (1, 275))], [], w7) _
      refine e_Ok.run (t' := (23, [(0, (1, 275))], [(1, 275), (1, 275)], w7)) 2 rfl ?_
      refine e_Ok.getf (z := o) rfl (el_o rfl) rfl rfl ((q9 275 83 (by unfold mRf; omega)).trans ho) (by omega) ?_
      refine e_Ok.run (t' := (27, [(0, (1, 275))], [(0, 1), (0, o), (1, 275)], w7)) 1 rfl ?_
      refine e_Ok.add (z := o + 1) rfl (by omega) (by omega) ?_
      refine e_Ok.putf rfl (el_o rfl) rfl rfl ?_
      generalize hw10 : e_up w7 275 83 (o + 1) = w10
      refine e_Ok.rets rfl rfl ?_
      have e3 : w10 275 83 = o + 1 := (by rw [← hw10]; exact e_up_eq _ _ _ _)
      exact ⟨rfl, e3, Or.inr ⟨by omega, by omega, _, hw10, q9, q9T, q9H, q9b⟩⟩
theorem mT_Nm {w w' : eW} (f : e_fr mNm w w') (h : e_Has mTy w) : e_Has mTy w' := mT_S (f.mono (fun c k q => by unfold mNm at q; unfold mS; omega)) h
theorem nm_none {c k : Int} (q : mNm c k) : hTy c k = (1, 0) := by
  rcases q with q | ⟨rfl, rfl⟩
  · obtain rfl | rfl | rfl | rfl : c = 341 ∨ c = 342 ∨ c = 343 ∨ c = 344 := by omega
    all_goals rfl
  · rfl
theorem hT_Nm {w w' : eW} (f : e_fr mNm w w') (h : e_Has hTy w) : e_Has hTy w' := h.fr (fun c k q => nm_none q) f
set_option maxHeartbeats 4000000 in
theorem c_338 {d : Nat} (hd : 29 ≤ d) {w : eW} (hT : e_Has mTy w) (hH : e_Has hTy w) {N : Int} (hN : w 275 9 = N) (hNr : 0 ≤ N ∧ N ≤ 4000) (ht : tkS w N) {mm f x : Int} (hm : w 275 94 = mm) (hmr : 0 ≤ mm ∧ mm ≤ 4099) (hf : 0 ≤ f ∧ f ≤ 4) (hx : 0 ≤ x ∧ x ≤ 10000) : e_Ok 20 elay ecode eI d 338 (0, [(0, (1, 275)), (1, (0, f)), (2, (0, x))], [], w) (fun r w' => r = [] ∧ ((w = w' ∧ w 275 88 ≠ 0) ∨ (w 275 88 = 0 ∧ w 275 84 ≠ 1 ∧ e_fr mRf w w' ∧ e_Has mTy w' ∧ e_Has hTy w' ∧ 1 ≤ w' 275 88 ∧ w' 275 88 ≤ 3) ∨ (w 275 88 = 0 ∧ w 275 84 = 1 ∧ ∃ v : eW, e_fr mNm w v ∧ e_Has mTy v ∧ e_Has hTy v ∧ (v 341 mm = f ∧ v 342 mm = w 275 86 ∧ v 343 mm = w 275 87 - w 275 86 ∧ v 344 mm = x ∧ v 275 94 = mm + 1) ∧ (∀ c k, ¬ (((341 ≤ c ∧ c ≤ 344) ∧ k = mm) ∨ (c = 275 ∧ k = 94)) → v c k = w c k) ∧ e_fr mTq v w' ∧ tkS w' N ∧ w 275 87 ≤ w' 275 86))) := by
  obtain ⟨d, rfl⟩ : ∃ e, d = e + 1 := ⟨d - 1, by omega⟩
  have ht0 := ht
  unfold tkS tkV at ht
  have hfk := e_Has.get hH (c := 275) (k := 88) (lo := 0) (hi := 7) rfl (by decide)
  refine e_Ok.run (t' := (1, [(0, (1, 275)), (1, (0, f)), (2, (0, x))], [(1, 275)], w)) 1 rfl ?_
  have h1 := (e_Has.get hH (c := 275) (k := 88) (lo := 0) (hi := 7) rfl (by decide))
  refine e_Ok.getf (z := w 275 88) rfl (el_o rfl) rfl rfl rfl (by omega) ?_
  refine e_Ok.if1 rfl (fun h2 => ?_) (fun h2 => ?_)
  · replace h2 : (w 275 88 : Int) ≠ 0 := h2
    refine e_Ok.run (t' := (78, [(0, (1, 275)), (1, (0, f)), (2, (0, x))], [(1, 275), (1, 275)], w)) 2 rfl ?_
    refine e_Ok.getf (z := w 275 84) rfl (el_o rfl) rfl rfl rfl (by omega) ?_
    refine e_Ok.run (t' := (82, [(0, (1, 275)), (1, (0, f)), (2, (0, x))], [(0, 1), (0, w 275 84), (1, 275)], w)) 1 rfl ?_
    refine e_Ok.if2 rfl (fun h3 => ?_) (fun h3 => ?_)
    · replace h3 : (w 275 84 : Int) ≠ 1 := h3
      refine e_Ok.run (t' := (90, [(0, (1, 275)), (1, (0, f)), (2, (0, x))], [(0, 0), (1, 275)], w)) 1 rfl ?_
      have hfr : e_fr mNm w w := e_fr.refl w
      have hwT : e_Has mTy w := mT_Nm hfr hT
      have hwH : e_Has hTy w := hT_Nm hfr hH
      have hwt : tkS w N := by unfold tkS; rw [hfr 275 86 (by unfold mNm; omega), hfr 275 87 (by unfold mNm; omega), hfr 275 84 (by unfold mNm; omega), hfr 275 85 (by unfold mNm; omega)]; exact ht0
      have hw88 : w 275 88 = w 275 88 := hfr 275 88 (by unfold mNm; omega)
      have hw87 : w 275 87 = w 275 87 := hfr 275 87 (by unfold mNm; omega)
      refine e_Ok.callV rfl (by omega) rfl rfl rfl rfl (c_334 (by omega) hwT hwH (Eq.trans (hfr 275 9 (by unfold mNm; omega)) hN) hNr hwt (by omega)) (fun r4 w5 h6 => ?_)
      obtain ⟨rfl, q7⟩ := h6
      show e_Ok 20 elay ecode eI (d + 1) 338 (93, [(0, (1, 275)), (1, (0, f)), (2, (0, x))], [], w5) _
      refine e_Ok.rets rfl rfl ?_
      obtain ⟨q7a, q7b⟩ | ⟨-, q7b, -⟩ | ⟨q7a, -, q7b⟩ := q7
      · exact ⟨rfl, Or.inl ⟨q7a, by omega⟩⟩
      · exact absurd q7b (by decide)
      · exact ⟨rfl, Or.inr (Or.inl ⟨q7a, by omega, q7b⟩)⟩
    · replace h3 : (w 275 84 : Int) = 1 := by have q : ¬ ((w 275 84 : Int) ≠ 1) := h3; omega
      refine e_Ok.run (t' := (90, [(0, (1, 275)), (1, (0, f)), (2, (0, x))], [(0, 1), (1, 275)], w)) 2 rfl ?_
      have hfr : e_fr mNm w w := e_fr.refl w
      have hwT : e_Has mTy w := mT_Nm hfr hT
      have hwH : e_Has hTy w := hT_Nm hfr hH
      have hwt : tkS w N := by unfold tkS; rw [hfr 275 86 (by unfold mNm; omega), hfr 275 87 (by unfold mNm; omega), hfr 275 84 (by unfold mNm; omega), hfr 275 85 (by unfold mNm; omega)]; exact ht0
      have hw88 : w 275 88 = w 275 88 := hfr 275 88 (by unfold mNm; omega)
      have hw87 : w 275 87 = w 275 87 := hfr 275 87 (by unfold mNm; omega)
      refine e_Ok.callV rfl (by omega) rfl rfl rfl rfl (c_334 (by omega) hwT hwH (Eq.trans (hfr 275 9 (by unfold mNm; omega)) hN) hNr hwt (by omega)) (fun r8 w9 h10 => ?_)
      obtain ⟨rfl, q11⟩ := h10
      show e_Ok 20 elay ecode eI (d + 1) 338 (93, [(0, (1, 275)), (1, (0, f)), (2, (0, x))], [], w9) _
      refine e_Ok.rets rfl rfl ?_
      obtain ⟨q11a, q11b⟩ | ⟨q11a, -⟩ | ⟨q11a, -⟩ := q11
      · exact ⟨rfl, Or.inl ⟨q11a, by omega⟩⟩
      · exact absurd q11a (by omega)
      · exact absurd q11a (by omega)
  · replace h2 : (w 275 88 : Int) = 0 := by have q : ¬ ((w 275 88 : Int) ≠ 0) := h2; omega
    refine e_Ok.run (t' := (8, [(0, (1, 275)), (1, (0, f)), (2, (0, x))], [(1, 275)], w)) 1 rfl ?_
    refine e_Ok.getf (z := w 275 84) rfl (el_o rfl) rfl rfl rfl (by omega) ?_
    refine e_Ok.run (t' := (12, [(0, (1, 275)), (1, (0, f)), (2, (0, x))], [(0, 1), (0, w 275 84)], w)) 1 rfl ?_
    refine e_Ok.if2 rfl (fun h12 => ?_) (fun h12 => ?_)
    · replace h12 : (w 275 84 : Int) ≠ 1 := h12
      refine e_Ok.run (t' := (78, [(0, (1, 275)), (1, (0, f)), (2, (0, x))], [(1, 275), (1, 275)], w)) 2 rfl ?_
      refine e_Ok.getf (z := w 275 84) rfl (el_o rfl) rfl rfl rfl (by omega) ?_
      refine e_Ok.run (t' := (82, [(0, (1, 275)), (1, (0, f)), (2, (0, x))], [(0, 1), (0, w 275 84), (1, 275)], w)) 1 rfl ?_
      refine e_Ok.if2 rfl (fun h13 => ?_) (fun h13 => ?_)
      · replace h13 : (w 275 84 : Int) ≠ 1 := h13
        refine e_Ok.run (t' := (90, [(0, (1, 275)), (1, (0, f)), (2, (0, x))], [(0, 0), (1, 275)], w)) 1 rfl ?_
        have hfr : e_fr mNm w w := e_fr.refl w
        have hwT : e_Has mTy w := mT_Nm hfr hT
        have hwH : e_Has hTy w := hT_Nm hfr hH
        have hwt : tkS w N := by unfold tkS; rw [hfr 275 86 (by unfold mNm; omega), hfr 275 87 (by unfold mNm; omega), hfr 275 84 (by unfold mNm; omega), hfr 275 85 (by unfold mNm; omega)]; exact ht0
        have hw88 : w 275 88 = w 275 88 := hfr 275 88 (by unfold mNm; omega)
        have hw87 : w 275 87 = w 275 87 := hfr 275 87 (by unfold mNm; omega)
        refine e_Ok.callV rfl (by omega) rfl rfl rfl rfl (c_334 (by omega) hwT hwH (Eq.trans (hfr 275 9 (by unfold mNm; omega)) hN) hNr hwt (by omega)) (fun r14 w15 h16 => ?_)
        obtain ⟨rfl, q17⟩ := h16
        show e_Ok 20 elay ecode eI (d + 1) 338 (93, [(0, (1, 275)), (1, (0, f)), (2, (0, x))], [], w15) _
        refine e_Ok.rets rfl rfl ?_
        obtain ⟨q17a, q17b⟩ | ⟨-, q17b, -⟩ | ⟨q17a, -, q17b⟩ := q17
        · exact ⟨rfl, Or.inl ⟨q17a, by omega⟩⟩
        · exact absurd q17b (by decide)
        · exact ⟨rfl, Or.inr (Or.inl ⟨q17a, by omega, q17b⟩)⟩
      · replace h13 : (w 275 84 : Int) = 1 := by have q : ¬ ((w 275 84 : Int) ≠ 1) := h13; omega
        refine e_Ok.run (t' := (90, [(0, (1, 275)), (1, (0, f)), (2, (0, x))], [(0, 1), (1, 275)], w)) 2 rfl ?_
        have hfr : e_fr mNm w w := e_fr.refl w
        have hwT : e_Has mTy w := mT_Nm hfr hT
        have hwH : e_Has hTy w := hT_Nm hfr hH
        have hwt : tkS w N := by unfold tkS; rw [hfr 275 86 (by unfold mNm; omega), hfr 275 87 (by unfold mNm; omega), hfr 275 84 (by unfold mNm; omega), hfr 275 85 (by unfold mNm; omega)]; exact ht0
        have hw88 : w 275 88 = w 275 88 := hfr 275 88 (by unfold mNm; omega)
        have hw87 : w 275 87 = w 275 87 := hfr 275 87 (by unfold mNm; omega)
        refine e_Ok.callV rfl (by omega) rfl rfl rfl rfl (c_334 (by omega) hwT hwH (Eq.trans (hfr 275 9 (by unfold mNm; omega)) hN) hNr hwt (by omega)) (fun r18 w19 h20 => ?_)
        obtain ⟨rfl, q21⟩ := h20
        show e_Ok 20 elay ecode eI (d + 1) 338 (93, [(0, (1, 275)), (1, (0, f)), (2, (0, x))], [], w19) _
        refine e_Ok.rets rfl rfl ?_
        obtain ⟨q21a, q21b⟩ | ⟨q21a, -⟩ | ⟨q21a, -⟩ := q21
        · exact ⟨rfl, Or.inl ⟨q21a, by omega⟩⟩
        · exact absurd q21a (by omega)
        · exact absurd q21a (by omega)
    · replace h12 : (w 275 84 : Int) = 1 := by have q : ¬ ((w 275 84 : Int) ≠ 1) := h12; omega
      refine e_Ok.run (t' := (16, [(0, (1, 275)), (1, (0, f)), (2, (0, x))], [(1, 275)], w)) 1 rfl ?_
      refine e_Ok.getr (z := 341) rfl (el_o rfl) rfl rfl (e_Has.eq hT rfl) (by omega) ?_
      refine e_Ok.run (t' := (20, [(0, (1, 275)), (1, (0, f)), (2, (0, x))], [(1, 275), (1, 341)], w)) 1 rfl ?_
      refine e_Ok.getf (z := mm) rfl (el_o rfl) rfl rfl hm (by omega) ?_
      refine e_Ok.run (t' := (24, [(0, (1, 275)), (1, (0, f)), (2, (0, x))], [(0, f), (0, mm), (1, 341)], w)) 1 rfl ?_
      refine e_Ok.ast rfl (el_o rfl) rfl rfl (by omega) ?_
      generalize hw22 : e_up w 341 mm f = w22
      have f23 : e_fr mNm w w22 := e_fr.up (e_fr.refl w) hw22 (by unfold mNm; omega)
      refine e_Ok.run (t' := (26, [(0, (1, 275)), (1, (0, f)), (2, (0, x))], [(1, 275)], w22)) 1 rfl ?_
      refine e_Ok.getr (z := 342) rfl (el_o rfl) rfl rfl (by rw [← hw22]; exact (e_up_ne _ _ (Or.inl (by omega))).trans (e_Has.eq hT rfl)) (by omega) ?_
      refine e_Ok.run (t' := (30, [(0, (1, 275)), (1, (0, f)), (2, (0, x))], [(1, 275), (1, 342)], w22)) 1 rfl ?_
      refine e_Ok.getf (z := mm) rfl (el_o rfl) rfl rfl (by rw [← hw22]; exact (e_up_ne _ _ (Or.inl (by omega))).trans hm) (by omega) ?_
      refine e_Ok.run (t' := (34, [(0, (1, 275)), (1, (0, f)), (2, (0, x))], [(1, 275), (0, mm), (1, 342)], w22)) 1 rfl ?_
      refine e_Ok.getf (z := w 275 86) rfl (el_o rfl) rfl rfl (by rw [← hw22]; exact (e_up_ne _ _ (Or.inl (by omega))).trans rfl) (by omega) ?_
      refine e_Ok.ast rfl (el_o rfl) rfl rfl (by omega) ?_
      generalize hw24 : e_up w22 342 mm (w 275 86) = w24
      have f25 : e_fr mNm w w24 := e_fr.up f23 hw24 (by unfold mNm; omega)
      refine e_Ok.run (t' := (39, [(0, (1, 275)), (1, (0, f)), (2, (0, x))], [(1, 275)], w24)) 1 rfl ?_
      refine e_Ok.getr (z := 343) rfl (el_o rfl) rfl rfl (by rw [← hw24]; exact (e_up_ne _ _ (Or.inl (by omega))).trans (by rw [← hw22]; exact (e_up_ne _ _ (Or.inl (by omega))).trans (e_Has.eq hT rfl))) (by omega) ?_
      refine e_Ok.run (t' := (43, [(0, (1, 275)), (1, (0, f)), (2, (0, x))], [(1, 275), (1, 343)], w24)) 1 rfl ?_
      refine e_Ok.getf (z := mm) rfl (el_o rfl) rfl rfl (by rw [← hw24]; exact (e_up_ne _ _ (Or.inl (by omega))).trans (by rw [← hw22]; exact (e_up_ne _ _ (Or.inl (by omega))).trans hm)) (by omega) ?_
      refine e_Ok.run (t' := (47, [(0, (1, 275)), (1, (0, f)), (2, (0, x))], [(1, 275), (0, mm), (1, 343)], w24)) 1 rfl ?_
      refine e_Ok.getf (z := w 275 87) rfl (el_o rfl) rfl rfl (by rw [← hw24]; exact (e_up_ne _ _ (Or.inl (by omega))).trans (by rw [← hw22]; exact (e_up_ne _ _ (Or.inl (by omega))).trans rfl)) (by omega) ?_
      refine e_Ok.run (t' := (51, [(0, (1, 275)), (1, (0, f)), (2, (0, x))], [(1, 275), (0, w 275 87), (0, mm), (1, 343)], w24)) 1 rfl ?_
      refine e_Ok.getf (z := w 275 86) rfl (el_o rfl) rfl rfl (by rw [← hw24]; exact (e_up_ne _ _ (Or.inl (by omega))).trans (by rw [← hw22]; exact (e_up_ne _ _ (Or.inl (by omega))).trans rfl)) (by omega) ?_
      refine e_Ok.sub' (z := w 275 87 - w 275 86) rfl (by omega) (by omega) ?_
      refine e_Ok.ast rfl (el_o rfl) rfl rfl (by omega) ?_
      generalize hw26 : e_up w24 343 mm (w 275 87 - w 275 86) = w26
      have f27 : e_fr mNm w w26 := e_fr.up f25 hw26 (by unfold mNm; omega)
      refine e_Ok.run (t' := (57, [(0, (1, 275)), (1, (0, f)), (2, (0, x))], [(1, 275)], w26)) 1 rfl ?_
      refine e_Ok.getr (z := 344) rfl (el_o rfl) rfl rfl (by rw [← hw26]; exact (e_up_ne _ _ (Or.inl (by omega))).trans (by rw [← hw24]; exact (e_up_ne _ _ (Or.inl (by omega))).trans (by rw [← hw22]; exact (e_up_ne _ _ (Or.inl (by omega))).trans (e_Has.eq hT rfl)))) (by omega) ?_
      refine e_Ok.run (t' := (61, [(0, (1, 275)), (1, (0, f)), (2, (0, x))], [(1, 275), (1, 344)], w26)) 1 rfl ?_
      refine e_Ok.getf (z := mm) rfl (el_o rfl) rfl rfl (by rw [← hw26]; exact (e_up_ne _ _ (Or.inl (by omega))).trans (by rw [← hw24]; exact (e_up_ne _ _ (Or.inl (by omega))).trans (by rw [← hw22]; exact (e_up_ne _ _ (Or.inl (by omega))).trans hm))) (by omega) ?_
      refine e_Ok.run (t' := (65, [(0, (1, 275)), (1, (0, f)), (2, (0, x))], [(0, x), (0, mm), (1, 344)], w26)) 1 rfl ?_
      refine e_Ok.ast rfl (el_o rfl) rfl rfl (by omega) ?_
      generalize hw28 : e_up w26 344 mm x = w28
      have f29 : e_fr mNm w w28 := e_fr.up f27 hw28 (by unfold mNm; omega)
      refine e_Ok.run (t' := (68, [(0, (1, 275)), (1, (0, f)), (2, (0, x))], [(1, 275), (1, 275)], w28)) 2 rfl ?_
      refine e_Ok.getf (z := mm) rfl (el_o rfl) rfl rfl (by rw [← hw28]; exact (e_up_ne _ _ (Or.inl (by omega))).trans (by rw [← hw26]; exact (e_up_ne _ _ (Or.inl (by omega))).trans (by rw [← hw24]; exact (e_up_ne _ _ (Or.inl (by omega))).trans (by rw [← hw22]; exact (e_up_ne _ _ (Or.inl (by omega))).trans hm)))) (by omega) ?_
      refine e_Ok.run (t' := (72, [(0, (1, 275)), (1, (0, f)), (2, (0, x))], [(0, 1), (0, mm), (1, 275)], w28)) 1 rfl ?_
      refine e_Ok.add (z := mm + 1) rfl (by omega) (by omega) ?_
      refine e_Ok.putf rfl (el_o rfl) rfl rfl ?_
      generalize hw30 : e_up w28 275 94 (mm + 1) = w30
      have f31 : e_fr mNm w w30 := e_fr.up f29 hw30 (by unfold mNm; omega)
      refine e_Ok.run (t' := (78, [(0, (1, 275)), (1, (0, f)), (2, (0, x))], [(1, 275), (1, 275)], w30)) 2 rfl ?_
      refine e_Ok.getf (z := w 275 84) rfl (el_o rfl) rfl rfl (by rw [← hw30]; exact (e_up_ne _ _ (Or.inr (by omega))).trans (by rw [← hw28]; exact (e_up_ne _ _ (Or.inl (by omega))).trans (by rw [← hw26]; exact (e_up_ne _ _ (Or.inl (by omega))).trans (by rw [← hw24]; exact (e_up_ne _ _ (Or.inl (by omega))).trans (by rw [← hw22]; exact (e_up_ne _ _ (Or.inl (by omega))).trans rfl))))) (by omega) ?_
      refine e_Ok.run (t' := (82, [(0, (1, 275)), (1, (0, f)), (2, (0, x))], [(0, 1), (0, w 275 84), (1, 275)], w30)) 1 rfl ?_
      refine e_Ok.if2 rfl (fun h32 => ?_) (fun h32 => ?_)
      · replace h32 : (w 275 84 : Int) ≠ 1 := h32
        exfalso; omega
      · replace h32 : (w 275 84 : Int) = 1 := by have q : ¬ ((w 275 84 : Int) ≠ 1) := h32; omega
        refine e_Ok.run (t' := (90, [(0, (1, 275)), (1, (0, f)), (2, (0, x))], [(0, 1), (1, 275)], w30)) 2 rfl ?_
        have hfr : e_fr mNm w w30 := f31
        have hwT : e_Has mTy w30 := mT_Nm hfr hT
        have hwH : e_Has hTy w30 := hT_Nm hfr hH
        have hwt : tkS w30 N := by unfold tkS; rw [hfr 275 86 (by unfold mNm; omega), hfr 275 87 (by unfold mNm; omega), hfr 275 84 (by unfold mNm; omega), hfr 275 85 (by unfold mNm; omega)]; exact ht0
        have hw88 : w30 275 88 = w 275 88 := hfr 275 88 (by unfold mNm; omega)
        have hw87 : w30 275 87 = w 275 87 := hfr 275 87 (by unfold mNm; omega)
        refine e_Ok.callV rfl (by omega) rfl rfl rfl rfl (c_334 (by omega) hwT hwH (Eq.trans (hfr 275 9 (by unfold mNm; omega)) hN) hNr hwt (by omega)) (fun r33 w34 h35 => ?_)
        obtain ⟨rfl, q36⟩ := h35
        show e_Ok 20 elay ecode eI (d + 1) 338 (93, [(0, (1, 275)), (1, (0, f)), (2, (0, x))], [], w34) _
        refine e_Ok.rets rfl rfl ?_
        obtain ⟨-, q36b⟩ | ⟨q36a, q36b, q36c, q36d, q36e⟩ | ⟨q36a, q36b, -⟩ := q36
        · exact absurd q36b (by omega)
        · exact ⟨rfl, Or.inr (Or.inr ⟨by omega, by omega, w30, hfr, hwT, hwH, ⟨(by rw [← hw30]; exact (e_up_ne _ _ (Or.inl (by omega))).trans (by rw [← hw28]; exact (e_up_ne _ _ (Or.inl (by omega))).trans (by rw [← hw26]; exact (e_up_ne _ _ (Or.inl (by omega))).trans (by rw [← hw24]; exact (e_up_ne _ _ (Or.inl (by omega))).trans (by rw [← hw22]; exact e_up_eq _ _ _ _))))), (by rw [← hw30]; exact (e_up_ne _ _ (Or.inl (by omega))).trans (by rw [← hw28]; exact (e_up_ne _ _ (Or.inl (by omega))).trans (by rw [← hw26]; exact (e_up_ne _ _ (Or.inl (by omega))).trans (by rw [← hw24]; exact e_up_eq _ _ _ _)))), (by rw [← hw30]; exact (e_up_ne _ _ (Or.inl (by omega))).trans (by rw [← hw28]; exact (e_up_ne _ _ (Or.inl (by omega))).trans (by rw [← hw26]; exact e_up_eq _ _ _ _))), (by rw [← hw30]; exact (e_up_ne _ _ (Or.inl (by omega))).trans (by rw [← hw28]; exact e_up_eq _ _ _ _)), (by rw [← hw30]; exact e_up_eq _ _ _ _)⟩, (fun c k q => (by rw [← hw30, ← hw28, ← hw26, ← hw24, ← hw22]; exact (e_up_ne _ _ (by omega)).trans ((e_up_ne _ _ (by omega)).trans ((e_up_ne _ _ (by omega)).trans ((e_up_ne _ _ (by omega)).trans ((e_up_ne _ _ (by omega)))))))), q36c, q36d, by omega⟩)⟩
        · exact absurd q36b (by decide)
end
