noncomputable section
def mSo (R c k : Int) : Prop := c = 278 ∧ (R + 1) % 100 = 0 ∧ 33060 * ((R + 1) / 100) - 33060 ≤ k ∧ k < 33060 * ((R + 1) / 100)
def mWr (R E c k : Int) : Prop := (c = 275 ∧ k = 5) ∨ mKw R E c k ∨ (c = 279 ∧ 4 * R ≤ k ∧ k ≤ 4 * R + 3) ∨ mSo R c k
/-- the row R of the book is written -/
def wrR (w w' : eW) (R E x a b c : Int) : Prop := w' 275 5 = R + 1 ∧ (w' 279 (4 * R) = x ∧ w' 279 (4 * R + 1) = a ∧ w' 279 (4 * R + 2) = b ∧ w' 279 (4 * R + 3) = c) ∧ e_fr (mWr R E) w w' ∧
  ((x = 10 ∧ ((E + w 276 (36 * a + 19) ≤ 200000 ∧ w' 355 R = E ∧ w' 356 R = E + w 276 (36 * a + 19) ∧ (∀ j, 0 ≤ j → j < w 276 (36 * a + 19) → w' 354 (E + j) = w 353 j)) ∨ (200000 < E + w 276 (36 * a + 19) ∧ w' 355 R = -1 ∧ w' 356 R = E))) ∨ (x ≠ 10 ∧ w' 355 R = -1 ∧ w' 356 R = E)) ∧
  ((R + 1) % 100 = 0 → ∀ k, 0 ≤ k → k < 33060 → w' 278 (33060 * ((R + 1) / 100) - 33060 + k) = w 276 k)
theorem kw_T {w w' : eW} {R E : Int} (h : e_Has mTy w) (hF : e_fr (mKw R E) w w') : e_Has mTy w' := fun c k hl => by
  by_cases e : c = 354 ∨ c = 355 ∨ c = 356
  · rcases e with e | e | e <;> (rw [e] at hl; exact absurd hl (by show ¬ ((1 : Int) ≤ 0); decide))
  · rw [hF c k (by unfold mKw; omega)]
    exact h c k hl
theorem no_97_0 {R : Int} {E : Int} {k : Int} : ¬ mKw R E 275 k := by unfold mKw; omega
theorem no_97_1 {R : Int} {k : Int} : ¬ mSo R 355 k := by unfold mSo; omega
theorem no_97_2 {R : Int} {k : Int} : ¬ mSo R 356 k := by unfold mSo; omega
theorem no_97_3 {R : Int} {k : Int} : ¬ mSo R 275 k := by unfold mSo; omega
theorem no_97_4 {R : Int} {k : Int} : ¬ mSo R 279 k := by unfold mSo; omega
theorem no_97_5 {R : Int} {k : Int} : ¬ mSo R 276 k := by unfold mSo; omega
theorem no_97_6 {R : Int} {E : Int} {k : Int} : ¬ mKw R E 276 k := by unfold mKw; omega
theorem no_97_7 {R : Int} {k : Int} : ¬ mSo R 354 k := by unfold mSo; omega
set_option maxHeartbeats 4000000 in
theorem c_423 {d : Nat} (hd : 22 ≤ d) {w : eW} (hT : e_Has mTy w) {R E x a b c : Int} (hR : w 275 5 = R) (hRr : 0 ≤ R ∧ R ≤ 1999) (hAg : w 275 6 = 0) (hE0 : R = 0 → E = 0) (hE : 1 ≤ R → w 356 (R - 1) = E) (hEr : 0 ≤ E ∧ E ≤ 200000) (hx : 0 ≤ x ∧ x ≤ 11) (hw10 : x = 10 → (0 ≤ a ∧ a ≤ 3) ∧ 0 ≤ w 276 (36 * a + 19) ∧ ∀ i, 0 ≤ i → i ≤ w 276 (36 * a + 19) - 1 → -2147483648 ≤ w 353 i ∧ w 353 i ≤ 2147483647) : e_Ok 20 elay ecode eI d 423 (0, [(0, (1, 275)), (1, (0, x)), (2, (0, a)), (3, (0, b)), (4, (0, c))], [], w) (fun r w' => r = [] ∧ wrR w w' R E x a b c) := by
  obtain ⟨d, rfl⟩ : ∃ e, d = e + 1 := ⟨d - 1, by omega⟩
  have hk276 : ∀ i, 0 ≤ i → i ≤ 33059 → -2147483648 ≤ w 276 i ∧ w 276 i ≤ 2147483647 := fun i _ _ => e_Has.now hT i
  refine e_Ok.run (t' := (1, [(0, (1, 275)), (1, (0, x)), (2, (0, a)), (3, (0, b)), (4, (0, c))], [(1, 275)], w)) 1 rfl ?_
  refine e_Ok.getf (z := 0) rfl (el_o rfl) rfl rfl hAg (by omega) ?_
  refine e_Ok.if1 rfl (fun h1 => ?_) (fun h1 => ?_)
  · replace h1 : (0 : Int) = 0 := h1
    refine e_Ok.run (t' := (12, [(0, (1, 275)), (1, (0, x)), (2, (0, a)), (3, (0, b)), (4, (0, c))], [(0, 10), (0, x), (1, 275)], w)) 3 rfl ?_
    refine e_Ok.if2 rfl (fun h2 => ?_) (fun h2 => ?_)
    · replace h2 : (x : Int) ≠ 10 := h2
      refine e_Ok.run (t' := (33, [(0, (1, 275)), (1, (0, x)), (2, (0, a)), (3, (0, b)), (4, (0, c))], [(0, 10), (0, x), (0, 0), (1, 275)], w)) 3 rfl ?_
      refine e_Ok.if2 rfl (fun h3 => ?_) (fun h3 => ?_)
      · replace h3 : (x : Int) ≠ 10 := h3
        refine e_Ok.run (t' := (41, [(0, (1, 275)), (1, (0, x)), (2, (0, a)), (3, (0, b)), (4, (0, c))], [(0, 0), (0, 0), (1, 275)], w)) 1 rfl ?_
        refine e_Ok.callV rfl (by omega) rfl rfl rfl rfl (c_420 hT (R := R) (E := E) hR (by omega) hE0 hE hEr (by omega) (by omega) (fun e => by omega)) (fun r4 w5 h6 => ?_)
        obtain ⟨rfl, q7, q7k⟩ := h6
        have f8 : e_fr (mWr R E) w w5 := e_fr.trans (e_fr.refl w) (e_fr.mono q7 (fun c k q => by exact Or.inr (Or.inl q)))
        have q7T : e_Has mTy w5 := kw_T hT q7
        show e_Ok 20 elay ecode eI (d + 1) 423 (44, [(0, (1, 275)), (1, (0, x)), (2, (0, a)), (3, (0, b)), (4, (0, c))], [], w5) _
        refine e_Ok.run (t' := (45, [(0, (1, 275)), (1, (0, x)), (2, (0, a)), (3, (0, b)), (4, (0, c))], [(1, 275)], w5)) 1 rfl ?_
        refine e_Ok.getr (z := 279) rfl (el_o rfl) rfl rfl ((q7 275 4 (by first | exact no_97_0 | (unfold mKw; omega))).trans (e_Has.eq hT rfl)) (by omega) ?_
        refine e_Ok.run (t' := (50, [(0, (1, 275)), (1, (0, x)), (2, (0, a)), (3, (0, b)), (4, (0, c))], [(1, 275), (0, 4), (1, 279)], w5)) 2 rfl ?_
        refine e_Ok.getf (z := R) rfl (el_o rfl) rfl rfl ((q7 275 5 (by first | exact no_97_0 | (unfold mKw; omega))).trans hR) (by omega) ?_
        refine e_Ok.mul (z := 4 * R) rfl (by omega) (by omega) ?_
        refine e_Ok.run (t' := (55, [(0, (1, 275)), (1, (0, x)), (2, (0, a)), (3, (0, b)), (4, (0, c))], [(0, x), (0, 4 * R), (1, 279)], w5)) 1 rfl ?_
        refine e_Ok.ast rfl (el_o rfl) rfl rfl (by omega) ?_
        generalize hw9 : e_up w5 279 (4 * R) x = w9
        have f10 : e_fr (mWr R E) w w9 := e_fr.up f8 hw9 (by unfold mWr mKw mSo; omega)
        have hT11 : e_Has mTy w9 := e_Has.ups q7T hw9 rfl
        refine e_Ok.run (t' := (57, [(0, (1, 275)), (1, (0, x)), (2, (0, a)), (3, (0, b)), (4, (0, c))], [(1, 275)], w9)) 1 rfl ?_
        refine e_Ok.getr (z := 279) rfl (el_o rfl) rfl rfl (by rw [← hw9]; exact (e_up_ne _ _ (Or.inl (by omega))).trans ((q7 275 4 (by first | exact no_97_0 | (unfold mKw; omega))).trans (e_Has.eq hT rfl))) (by omega) ?_
        refine e_Ok.run (t' := (62, [(0, (1, 275)), (1, (0, x)), (2, (0, a)), (3, (0, b)), (4, (0, c))], [(1, 275), (0, 4), (1, 279)], w9)) 2 rfl ?_
        refine e_Ok.getf (z := R) rfl (el_o rfl) rfl rfl (by rw [← hw9]; exact (e_up_ne _ _ (Or.inl (by omega))).trans ((q7 275 5 (by first | exact no_97_0 | (unfold mKw; omega))).trans hR)) (by omega) ?_
        refine e_Ok.mul (z := 4 * R) rfl (by omega) (by omega) ?_
        refine e_Ok.run (t' := (67, [(0, (1, 275)), (1, (0, x)), (2, (0, a)), (3, (0, b)), (4, (0, c))], [(0, 1), (0, 4 * R), (1, 279)], w9)) 1 rfl ?_
        refine e_Ok.add (z := 4 * R + 1) rfl (by omega) (by omega) ?_
        refine e_Ok.run (t' := (69, [(0, (1, 275)), (1, (0, x)), (2, (0, a)), (3, (0, b)), (4, (0, c))], [(0, a), (0, 4 * R + 1), (1, 279)], w9)) 1 rfl ?_
        refine e_Ok.ast rfl (el_o rfl) rfl rfl (by omega) ?_
        generalize hw12 : e_up w9 279 (4 * R + 1) a = w12
        have f13 : e_fr (mWr R E) w w12 := e_fr.up f10 hw12 (by unfold mWr mKw mSo; omega)
        have hT14 : e_Has mTy w12 := e_Has.ups hT11 hw12 rfl
        refine e_Ok.run (t' := (71, [(0, (1, 275)), (1, (0, x)), (2, (0, a)), (3, (0, b)), (4, (0, c))], [(1, 275)], w12)) 1 rfl ?_
        refine e_Ok.getr (z := 279) rfl (el_o rfl) rfl rfl (by rw [← hw12]; exact (e_up_ne _ _ (Or.inl (by omega))).trans (by rw [← hw9]; exact (e_up_ne _ _ (Or.inl (by omega))).trans ((q7 275 4 (by first | exact no_97_0 | (unfold mKw; omega))).trans (e_Has.eq hT rfl)))) (by omega) ?_
        refine e_Ok.run (t' := (76, [(0, (1, 275)), (1, (0, x)), (2, (0, a)), (3, (0, b)), (4, (0, c))], [(1, 275), (0, 4), (1, 279)], w12)) 2 rfl ?_
        refine e_Ok.getf (z := R) rfl (el_o rfl) rfl rfl (by rw [← hw12]; exact (e_up_ne _ _ (Or.inl (by omega))).trans (by rw [← hw9]; exact (e_up_ne _ _ (Or.inl (by omega))).trans ((q7 275 5 (by first | exact no_97_0 | (unfold mKw; omega))).trans hR))) (by omega) ?_
        refine e_Ok.mul (z := 4 * R) rfl (by omega) (by omega) ?_
        refine e_Ok.run (t' := (81, [(0, (1, 275)), (1, (0, x)), (2, (0, a)), (3, (0, b)), (4, (0, c))], [(0, 2), (0, 4 * R), (1, 279)], w12)) 1 rfl ?_
        refine e_Ok.add (z := 4 * R + 2) rfl (by omega) (by omega) ?_
        refine e_Ok.run (t' := (83, [(0, (1, 275)), (1, (0, x)), (2, (0, a)), (3, (0, b)), (4, (0, c))], [(0, b), (0, 4 * R + 2), (1, 279)], w12)) 1 rfl ?_
        refine e_Ok.ast rfl (el_o rfl) rfl rfl (by omega) ?_
        generalize hw15 : e_up w12 279 (4 * R + 2) b = w15
        have f16 : e_fr (mWr R E) w w15 := e_fr.up f13 hw15 (by unfold mWr mKw mSo; omega)
        have hT17 : e_Has mTy w15 := e_Has.ups hT14 hw15 rfl
        refine e_Ok.run (t' := (85, [(0, (1, 275)), (1, (0, x)), (2, (0, a)), (3, (0, b)), (4, (0, c))], [(1, 275)], w15)) 1 rfl ?_
        refine e_Ok.getr (z := 279) rfl (el_o rfl) rfl rfl (by rw [← hw15]; exact (e_up_ne _ _ (Or.inl (by omega))).trans (by rw [← hw12]; exact (e_up_ne _ _ (Or.inl (by omega))).trans (by rw [← hw9]; exact (e_up_ne _ _ (Or.inl (by omega))).trans ((q7 275 4 (by first | exact no_97_0 | (unfold mKw; omega))).trans (e_Has.eq hT rfl))))) (by omega) ?_
        refine e_Ok.run (t' := (90, [(0, (1, 275)), (1, (0, x)), (2, (0, a)), (3, (0, b)), (4, (0, c))], [(1, 275), (0, 4), (1, 279)], w15)) 2 rfl ?_
        refine e_Ok.getf (z := R) rfl (el_o rfl) rfl rfl (by rw [← hw15]; exact (e_up_ne _ _ (Or.inl (by omega))).trans (by rw [← hw12]; exact (e_up_ne _ _ (Or.inl (by omega))).trans (by rw [← hw9]; exact (e_up_ne _ _ (Or.inl (by omega))).trans ((q7 275 5 (by first | exact no_97_0 | (unfold mKw; omega))).trans hR)))) (by omega) ?_
        refine e_Ok.mul (z := 4 * R) rfl (by omega) (by omega) ?_
        refine e_Ok.run (t' := (95, [(0, (1, 275)), (1, (0, x)), (2, (0, a)), (3, (0, b)), (4, (0, c))], [(0, 3), (0, 4 * R), (1, 279)], w15)) 1 rfl ?_
        refine e_Ok.add (z := 4 * R + 3) rfl (by omega) (by omega) ?_
        refine e_Ok.run (t' := (98, [(0, (1, 275)), (1, (0, x)), (2, (0, a)), (3, (0, b)), (4, (0, c))], [(0, c), (0, 4 * R + 3), (1, 279)], w15)) 1 rfl ?_
        refine e_Ok.ast rfl (el_o rfl) rfl rfl (by omega) ?_
        generalize hw18 : e_up w15 279 (4 * R + 3) c = w18
        have f19 : e_fr (mWr R E) w w18 := e_fr.up f16 hw18 (by unfold mWr mKw mSo; omega)
        have hT20 : e_Has mTy w18 := e_Has.ups hT17 hw18 rfl
        refine e_Ok.run (t' := (101, [(0, (1, 275)), (1, (0, x)), (2, (0, a)), (3, (0, b)), (4, (0, c))], [(1, 275), (1, 275)], w18)) 2 rfl ?_
        refine e_Ok.getf (z := R) rfl (el_o rfl) rfl rfl (by rw [← hw18]; exact (e_up_ne _ _ (Or.inl (by omega))).trans (by rw [← hw15]; exact (e_up_ne _ _ (Or.inl (by omega))).trans (by rw [← hw12]; exact (e_up_ne _ _ (Or.inl (by omega))).trans (by rw [← hw9]; exact (e_up_ne _ _ (Or.inl (by omega))).trans ((q7 275 5 (by first | exact no_97_0 | (unfold mKw; omega))).trans hR))))) (by omega) ?_
        refine e_Ok.run (t' := (105, [(0, (1, 275)), (1, (0, x)), (2, (0, a)), (3, (0, b)), (4, (0, c))], [(0, 1), (0, R), (1, 275)], w18)) 1 rfl ?_
        refine e_Ok.add (z := R + 1) rfl (by omega) (by omega) ?_
        refine e_Ok.putf rfl (el_o rfl) rfl rfl ?_
        generalize hw21 : e_up w18 275 5 (R + 1) = w21
        have f22 : e_fr (mWr R E) w w21 := e_fr.up f19 hw21 (by unfold mWr mKw mSo; omega)
        have hT23 : e_Has mTy w21 := e_Has.ups hT20 hw21 rfl
        refine e_Ok.run (t' := (110, [(0, (1, 275)), (1, (0, x)), (2, (0, a)), (3, (0, b)), (4, (0, c))], [(1, 275)], w21)) 1 rfl ?_
        refine e_Ok.getf (z := R + 1) rfl (el_o rfl) rfl rfl (by rw [← hw21]; exact e_up_eq _ _ _ _) (by omega) ?_
        refine e_Ok.run (t' := (115, [(0, (1, 275)), (1, (0, x)), (2, (0, a)), (3, (0, b)), (4, (0, c))], [(0, 100), (0, R + 1)], w21)) 1 rfl ?_
        refine e_Ok.remn (fun z24 hz24 => ?_) rfl (by omega) (by omega)
        replace hz24 : z24 = (R + 1) % 100 := hz24
        have z24r : 0 ≤ z24 ∧ z24 ≤ 99 := by omega
        refine e_Ok.if1 rfl (fun h25 => ?_) (fun h25 => ?_)
        · replace h25 : (z24 : Int) ≠ 0 := h25
          refine e_Ok.rets rfl rfl ?_
          have e5 : w21 355 R = w5 355 R := (by rw [← hw21]; exact (e_up_ne _ _ (Or.inl (by omega))).trans (by rw [← hw18]; exact (e_up_ne _ _ (Or.inl (by omega))).trans (by rw [← hw15]; exact (e_up_ne _ _ (Or.inl (by omega))).trans (by rw [← hw12]; exact (e_up_ne _ _ (Or.inl (by omega))).trans (by rw [← hw9]; exact (e_up_ne _ _ (Or.inl (by omega))).trans rfl)))))
          have e6 : w21 356 R = w5 356 R := (by rw [← hw21]; exact (e_up_ne _ _ (Or.inl (by omega))).trans (by rw [← hw18]; exact (e_up_ne _ _ (Or.inl (by omega))).trans (by rw [← hw15]; exact (e_up_ne _ _ (Or.inl (by omega))).trans (by rw [← hw12]; exact (e_up_ne _ _ (Or.inl (by omega))).trans (by rw [← hw9]; exact (e_up_ne _ _ (Or.inl (by omega))).trans rfl)))))
          exact ⟨rfl, (by rw [← hw21]; exact e_up_eq _ _ _ _), ⟨(by rw [← hw21]; exact (e_up_ne _ _ (Or.inl (by omega))).trans (by rw [← hw18]; exact (e_up_ne _ _ (Or.inr (by omega))).trans (by rw [← hw15]; exact (e_up_ne _ _ (Or.inr (by omega))).trans (by rw [← hw12]; exact (e_up_ne _ _ (Or.inr (by omega))).trans (by rw [← hw9]; exact e_up_eq _ _ _ _))))), (by rw [← hw21]; exact (e_up_ne _ _ (Or.inl (by omega))).trans (by rw [← hw18]; exact (e_up_ne _ _ (Or.inr (by omega))).trans (by rw [← hw15]; exact (e_up_ne _ _ (Or.inr (by omega))).trans (by rw [← hw12]; exact e_up_eq _ _ _ _)))), (by rw [← hw21]; exact (e_up_ne _ _ (Or.inl (by omega))).trans (by rw [← hw18]; exact (e_up_ne _ _ (Or.inr (by omega))).trans (by rw [← hw15]; exact e_up_eq _ _ _ _))), (by rw [← hw21]; exact (e_up_ne _ _ (Or.inl (by omega))).trans (by rw [← hw18]; exact e_up_eq _ _ _ _))⟩, f22, Or.inr ⟨by omega, q7k.elim (fun h => absurd h.1 (by decide)) (fun h => ⟨e5.trans h.2.1, e6.trans h.2.2⟩)⟩, (fun e => by exfalso; omega)⟩
        · replace h25 : (z24 : Int) = 0 := by have q : ¬ ((z24 : Int) ≠ 0) := h25; omega
          refine e_Ok.run (t' := (122, [(0, (1, 275)), (1, (0, x)), (2, (0, a)), (3, (0, b)), (4, (0, c))], [(1, 275), (0, 33060)], w21)) 2 rfl ?_
          refine e_Ok.getf (z := R + 1) rfl (el_o rfl) rfl rfl (by rw [← hw21]; exact e_up_eq _ _ _ _) (by omega) ?_
          refine e_Ok.run (t' := (127, [(0, (1, 275)), (1, (0, x)), (2, (0, a)), (3, (0, b)), (4, (0, c))], [(0, 100), (0, R + 1), (0, 33060)], w21)) 1 rfl ?_
          refine e_Ok.divn (fun z26 hz26 => ?_) rfl (by omega) (by omega)
          replace hz26 : z26 = (R + 1) / 100 := hz26
          have z26r : 0 ≤ z26 ∧ z26 ≤ 20 := by omega
          refine e_Ok.run (t' := (129, [(0, (1, 275)), (1, (0, x)), (2, (0, a)), (3, (0, b)), (4, (0, c))], [(0, 1), (0, z26), (0, 33060)], w21)) 1 rfl ?_
          refine e_Ok.sub' (z := z26 - 1) rfl (by omega) (by omega) ?_
          refine e_Ok.mul (z := 33060 * z26 - 33060) rfl (by omega) (by omega) ?_
          refine e_Ok.run (t' := (136, [(6, (0, 0)), (5, (0, 33060 * z26 - 33060)), (0, (1, 275)), (1, (0, x)), (2, (0, a)), (3, (0, b)), (4, (0, c))], [], w21)) 3 rfl ?_
          have hL27 : ∀ (nn : Nat) (y6 : Int) (v1 : eW), e_fr (mWr R E) w v1 ∧ e_Has mTy v1 ∧ (0 ≤ y6 ∧ y6 ≤ 33060) ∧ e_fr (mSo R) w21 v1 ∧ (∀ j, 0 ≤ j → j < y6 → v1 278 (33060 * ((R + 1) / 100) - 33060 + j) = w 276 j) → 33061 - y6 < nn → e_Ok 20 elay ecode eI (d + 1) 423 (136, [(0, (1, 275)), (5, (0, 33060 * z26 - 33060)), (6, (0, y6))], [], v1) (fun r w' => r = [] ∧ wrR w w' R E x a b c) := by
            intro nn
            induction nn with
            | zero => intro y6 v1 hj hm; obtain ⟨j29, j30, j31, j32, j33⟩ := hj; exfalso; omega
            | succ nn ih28 =>
              intro y6 v1 hj hm
              obtain ⟨j29, j30, j31, j32, j33⟩ := hj
              refine e_Ok.run (t' := (140, [(0, (1, 275)), (5, (0, 33060 * z26 - 33060)), (6, (0, y6))], [(0, 33060), (0, y6)], v1)) 2 rfl ?_
              refine e_Ok.if2 rfl (fun h34 => ?_) (fun h34 => ?_)
              · replace h34 : (y6 : Int) ≥ 33060 := h34
                refine e_Ok.rets rfl rfl ?_
                have e5 : v1 355 R = w5 355 R := ((j32 355 R (by first | exact no_97_1 | (unfold mSo; omega))).trans (by rw [← hw21]; exact (e_up_ne _ _ (Or.inl (by omega))).trans (by rw [← hw18]; exact (e_up_ne _ _ (Or.inl (by omega))).trans (by rw [← hw15]; exact (e_up_ne _ _ (Or.inl (by omega))).trans (by rw [← hw12]; exact (e_up_ne _ _ (Or.inl (by omega))).trans (by rw [← hw9]; exact (e_up_ne _ _ (Or.inl (by omega))).trans rfl))))))
                have e6 : v1 356 R = w5 356 R := ((j32 356 R (by first | exact no_97_2 | (unfold mSo; omega))).trans (by rw [← hw21]; exact (e_up_ne _ _ (Or.inl (by omega))).trans (by rw [← hw18]; exact (e_up_ne _ _ (Or.inl (by omega))).trans (by rw [← hw15]; exact (e_up_ne _ _ (Or.inl (by omega))).trans (by rw [← hw12]; exact (e_up_ne _ _ (Or.inl (by omega))).trans (by rw [← hw9]; exact (e_up_ne _ _ (Or.inl (by omega))).trans rfl))))))
                exact ⟨rfl, ((j32 275 5 (by first | exact no_97_3 | (unfold mSo; omega))).trans (by rw [← hw21]; exact e_up_eq _ _ _ _)), ⟨((j32 279 (4 * R) (by first | exact no_97_4 | (unfold mSo; omega))).trans (by rw [← hw21]; exact (e_up_ne _ _ (Or.inl (by omega))).trans (by rw [← hw18]; exact (e_up_ne _ _ (Or.inr (by omega))).trans (by rw [← hw15]; exact (e_up_ne _ _ (Or.inr (by omega))).trans (by rw [← hw12]; exact (e_up_ne _ _ (Or.inr (by omega))).trans (by rw [← hw9]; exact e_up_eq _ _ _ _)))))), ((j32 279 (4 * R + 1) (by first | exact no_97_4 | (unfold mSo; omega))).trans (by rw [← hw21]; exact (e_up_ne _ _ (Or.inl (by omega))).trans (by rw [← hw18]; exact (e_up_ne _ _ (Or.inr (by omega))).trans (by rw [← hw15]; exact (e_up_ne _ _ (Or.inr (by omega))).trans (by rw [← hw12]; exact e_up_eq _ _ _ _))))), ((j32 279 (4 * R + 2) (by first | exact no_97_4 | (unfold mSo; omega))).trans (by rw [← hw21]; exact (e_up_ne _ _ (Or.inl (by omega))).trans (by rw [← hw18]; exact (e_up_ne _ _ (Or.inr (by omega))).trans (by rw [← hw15]; exact e_up_eq _ _ _ _)))), ((j32 279 (4 * R + 3) (by first | exact no_97_4 | (unfold mSo; omega))).trans (by rw [← hw21]; exact (e_up_ne _ _ (Or.inl (by omega))).trans (by rw [← hw18]; exact e_up_eq _ _ _ _)))⟩, j29, Or.inr ⟨by omega, q7k.elim (fun h => absurd h.1 (by decide)) (fun h => ⟨e5.trans h.2.1, e6.trans h.2.2⟩)⟩, (fun _ k g1 g2 => j33 k g1 (by omega))⟩
              · replace h34 : (y6 : Int) < 33060 := by have q : ¬ ((y6 : Int) ≥ 33060) := h34; omega
                refine e_Ok.run (t' := (144, [(0, (1, 275)), (5, (0, 33060 * z26 - 33060)), (6, (0, y6))], [(1, 275)], v1)) 1 rfl ?_
                refine e_Ok.getr (z := 278) rfl (el_o rfl) rfl rfl ((j32 275 2 (by first | exact no_97_3 | (unfold mSo; omega))).trans (by rw [← hw21]; exact (e_up_ne _ _ (Or.inr (by omega))).trans (by rw [← hw18]; exact (e_up_ne _ _ (Or.inl (by omega))).trans (by rw [← hw15]; exact (e_up_ne _ _ (Or.inl (by omega))).trans (by rw [← hw12]; exact (e_up_ne _ _ (Or.inl (by omega))).trans (by rw [← hw9]; exact (e_up_ne _ _ (Or.inl (by omega))).trans ((q7 275 2 (by first | exact no_97_0 | (unfold mKw; omega))).trans (e_Has.eq hT rfl)))))))) (by omega) ?_
                refine e_Ok.run (t' := (151, [(0, (1, 275)), (5, (0, 33060 * z26 - 33060)), (6, (0, y6))], [(0, y6), (0, 33060 * z26 - 33060), (1, 278)], v1)) 2 rfl ?_
                refine e_Ok.add (z := 33060 * z26 + y6 - 33060) rfl (by omega) (by omega) ?_
                refine e_Ok.run (t' := (153, [(0, (1, 275)), (5, (0, 33060 * z26 - 33060)), (6, (0, y6))], [(1, 275), (0, 33060 * z26 + y6 - 33060), (1, 278)], v1)) 1 rfl ?_
                refine e_Ok.getr (z := 276) rfl (el_o rfl) rfl rfl ((j32 275 0 (by first | exact no_97_3 | (unfold mSo; omega))).trans (by rw [← hw21]; exact (e_up_ne _ _ (Or.inr (by omega))).trans (by rw [← hw18]; exact (e_up_ne _ _ (Or.inl (by omega))).trans (by rw [← hw15]; exact (e_up_ne _ _ (Or.inl (by omega))).trans (by rw [← hw12]; exact (e_up_ne _ _ (Or.inl (by omega))).trans (by rw [← hw9]; exact (e_up_ne _ _ (Or.inl (by omega))).trans ((q7 275 0 (by first | exact no_97_0 | (unfold mKw; omega))).trans (e_Has.eq hT rfl)))))))) (by omega) ?_
                refine e_Ok.run (t' := (158, [(0, (1, 275)), (5, (0, 33060 * z26 - 33060)), (6, (0, y6))], [(0, y6), (1, 276), (0, 33060 * z26 + y6 - 33060), (1, 278)], v1)) 1 rfl ?_
                have h35 := (hk276 y6 (by omega) (by omega))
                refine e_Ok.ald (z := w 276 y6) rfl (el_o rfl) rfl (by omega) ((j32 276 y6 (by first | exact no_97_5 | (unfold mSo; omega))).trans (by rw [← hw21]; exact (e_up_ne _ _ (Or.inl (by omega))).trans (by rw [← hw18]; exact (e_up_ne _ _ (Or.inl (by omega))).trans (by rw [← hw15]; exact (e_up_ne _ _ (Or.inl (by omega))).trans (by rw [← hw12]; exact (e_up_ne _ _ (Or.inl (by omega))).trans (by rw [← hw9]; exact (e_up_ne _ _ (Or.inl (by omega))).trans ((q7 276 y6 (by first | exact no_97_6 | (unfold mKw; omega))).trans rfl))))))) (by omega) ?_
                refine e_Ok.ast rfl (el_o rfl) rfl rfl (by omega) ?_
                generalize hw36 : e_up v1 278 (33060 * z26 + y6 - 33060) (w 276 y6) = w36
                have f37 : e_fr (mWr R E) w w36 := e_fr.up j29 hw36 (by unfold mWr mKw mSo; omega)
                have hT38 : e_Has mTy w36 := e_Has.ups j30 hw36 rfl
                refine e_Ok.inc (z := y6 + 1) rfl rfl (by omega) (by omega) ?_
                show e_Ok 20 elay ecode eI (d + 1) 423 (163, [(6, (0, y6 + 1)), (0, (1, 275)), (5, (0, 33060 * z26 - 33060))], [], w36) _
                refine e_Ok.run (t' := (136, [(6, (0, y6 + 1)), (0, (1, 275)), (5, (0, 33060 * z26 - 33060))], [], w36)) 1 rfl ?_
                refine e_Ok.sub eAlk (e_sub_of rfl ?_) (ih28 (y6 + 1) w36 ⟨f37, hT38, by omega, (e_fr.up j32 hw36 (by unfold mSo; omega)), (fun j g1 g2 => Decidable.byCases (p := j = y6) (fun e => by rw [e, show 33060 * ((R + 1) / 100) - 33060 + y6 = 33060 * z26 + y6 - 33060 by omega, ← hw36]; exact e_up_eq _ _ _ _) (fun e => Eq.trans (show w36 278 (33060 * ((R + 1) / 100) - 33060 + j) = v1 278 (33060 * ((R + 1) / 100) - 33060 + j) from by rw [← hw36]; exact e_up_ne _ _ (Or.inr (by omega))) (j33 j g1 (by omega))))⟩ (by omega))
                exact ⟨rfl, rfl, rfl, trivial⟩
          refine e_Ok.sub eAlk (e_sub_of rfl ?_) (hL27 (33061 + 1 : Int).toNat 0 w21 ⟨f22, hT23, by omega, (e_fr.refl w21), (fun j g1 g2 => by omega)⟩ (by omega))
          exact ⟨rfl, rfl, rfl, trivial⟩
      · replace h3 : (x : Int) = 10 := by have q : ¬ ((x : Int) ≠ 10) := h3; omega
        refine e_Ok.run (t' := (41, [(0, (1, 275)), (1, (0, x)), (2, (0, a)), (3, (0, b)), (4, (0, c))], [(0, 1), (0, 0), (1, 275)], w)) 2 rfl ?_
        refine e_Ok.callV rfl (by omega) rfl rfl rfl rfl (c_420 hT (R := R) (E := E) hR (by omega) hE0 hE hEr (by omega) (by omega) (fun _ i g1 g2 => by omega)) (fun r40 w41 h42 => ?_)
        obtain ⟨rfl, q43, q43k⟩ := h42
        have f44 : e_fr (mWr R E) w w41 := e_fr.trans (e_fr.refl w) (e_fr.mono q43 (fun c k q => by exact Or.inr (Or.inl q)))
        have q43T : e_Has mTy w41 := kw_T hT q43
        show e_Ok 20 elay ecode eI (d + 1) 423 (44, [(0, (1, 275)), (1, (0, x)), (2, (0, a)), (3, (0, b)), (4, (0, c))], [], w41) _
        refine e_Ok.run (t' := (45, [(0, (1, 275)), (1, (0, x)), (2, (0, a)), (3, (0, b)), (4, (0, c))], [(1, 275)], w41)) 1 rfl ?_
        refine e_Ok.getr (z := 279) rfl (el_o rfl) rfl rfl ((q43 275 4 (by first | exact no_97_0 | (unfold mKw; omega))).trans (e_Has.eq hT rfl)) (by omega) ?_
        refine e_Ok.run (t' := (50, [(0, (1, 275)), (1, (0, x)), (2, (0, a)), (3, (0, b)), (4, (0, c))], [(1, 275), (0, 4), (1, 279)], w41)) 2 rfl ?_
        refine e_Ok.getf (z := R) rfl (el_o rfl) rfl rfl ((q43 275 5 (by first | exact no_97_0 | (unfold mKw; omega))).trans hR) (by omega) ?_
        refine e_Ok.mul (z := 4 * R) rfl (by omega) (by omega) ?_
        refine e_Ok.run (t' := (55, [(0, (1, 275)), (1, (0, x)), (2, (0, a)), (3, (0, b)), (4, (0, c))], [(0, x), (0, 4 * R), (1, 279)], w41)) 1 rfl ?_
        refine e_Ok.ast rfl (el_o rfl) rfl rfl (by omega) ?_
        generalize hw45 : e_up w41 279 (4 * R) x = w45
        have f46 : e_fr (mWr R E) w w45 := e_fr.up f44 hw45 (by unfold mWr mKw mSo; omega)
        have hT47 : e_Has mTy w45 := e_Has.ups q43T hw45 rfl
        refine e_Ok.run (t' := (57, [(0, (1, 275)), (1, (0, x)), (2, (0, a)), (3, (0, b)), (4, (0, c))], [(1, 275)], w45)) 1 rfl ?_
        refine e_Ok.getr (z := 279) rfl (el_o rfl) rfl rfl (by rw [← hw45]; exact (e_up_ne _ _ (Or.inl (by omega))).trans ((q43 275 4 (by first | exact no_97_0 | (unfold mKw; omega))).trans (e_Has.eq hT rfl))) (by omega) ?_
        refine e_Ok.run (t' := (62, [(0, (1, 275)), (1, (0, x)), (2, (0, a)), (3, (0, b)), (4, (0, c))], [(1, 275), (0, 4), (1, 279)], w45)) 2 rfl ?_
        refine e_Ok.getf (z := R) rfl (el_o rfl) rfl rfl (by rw [← hw45]; exact (e_up_ne _ _ (Or.inl (by omega))).trans ((q43 275 5 (by first | exact no_97_0 | (unfold mKw; omega))).trans hR)) (by omega) ?_
        refine e_Ok.mul (z := 4 * R) rfl (by omega) (by omega) ?_
        refine e_Ok.run (t' := (67, [(0, (1, 275)), (1, (0, x)), (2, (0, a)), (3, (0, b)), (4, (0, c))], [(0, 1), (0, 4 * R), (1, 279)], w45)) 1 rfl ?_
        refine e_Ok.add (z := 4 * R + 1) rfl (by omega) (by omega) ?_
        refine e_Ok.run (t' := (69, [(0, (1, 275)), (1, (0, x)), (2, (0, a)), (3, (0, b)), (4, (0, c))], [(0, a), (0, 4 * R + 1), (1, 279)], w45)) 1 rfl ?_
        refine e_Ok.ast rfl (el_o rfl) rfl rfl (by omega) ?_
        generalize hw48 : e_up w45 279 (4 * R + 1) a = w48
        have f49 : e_fr (mWr R E) w w48 := e_fr.up f46 hw48 (by unfold mWr mKw mSo; omega)
        have hT50 : e_Has mTy w48 := e_Has.ups hT47 hw48 rfl
        refine e_Ok.run (t' := (71, [(0, (1, 275)), (1, (0, x)), (2, (0, a)), (3, (0, b)), (4, (0, c))], [(1, 275)], w48)) 1 rfl ?_
        refine e_Ok.getr (z := 279) rfl (el_o rfl) rfl rfl (by rw [← hw48]; exact (e_up_ne _ _ (Or.inl (by omega))).trans (by rw [← hw45]; exact (e_up_ne _ _ (Or.inl (by omega))).trans ((q43 275 4 (by first | exact no_97_0 | (unfold mKw; omega))).trans (e_Has.eq hT rfl)))) (by omega) ?_
        refine e_Ok.run (t' := (76, [(0, (1, 275)), (1, (0, x)), (2, (0, a)), (3, (0, b)), (4, (0, c))], [(1, 275), (0, 4), (1, 279)], w48)) 2 rfl ?_
        refine e_Ok.getf (z := R) rfl (el_o rfl) rfl rfl (by rw [← hw48]; exact (e_up_ne _ _ (Or.inl (by omega))).trans (by rw [← hw45]; exact (e_up_ne _ _ (Or.inl (by omega))).trans ((q43 275 5 (by first | exact no_97_0 | (unfold mKw; omega))).trans hR))) (by omega) ?_
        refine e_Ok.mul (z := 4 * R) rfl (by omega) (by omega) ?_
        refine e_Ok.run (t' := (81, [(0, (1, 275)), (1, (0, x)), (2, (0, a)), (3, (0, b)), (4, (0, c))], [(0, 2), (0, 4 * R), (1, 279)], w48)) 1 rfl ?_
        refine e_Ok.add (z := 4 * R + 2) rfl (by omega) (by omega) ?_
        refine e_Ok.run (t' := (83, [(0, (1, 275)), (1, (0, x)), (2, (0, a)), (3, (0, b)), (4, (0, c))], [(0, b), (0, 4 * R + 2), (1, 279)], w48)) 1 rfl ?_
        refine e_Ok.ast rfl (el_o rfl) rfl rfl (by omega) ?_
        generalize hw51 : e_up w48 279 (4 * R + 2) b = w51
        have f52 : e_fr (mWr R E) w w51 := e_fr.up f49 hw51 (by unfold mWr mKw mSo; omega)
        have hT53 : e_Has mTy w51 := e_Has.ups hT50 hw51 rfl
        refine e_Ok.run (t' := (85, [(0, (1, 275)), (1, (0, x)), (2, (0, a)), (3, (0, b)), (4, (0, c))], [(1, 275)], w51)) 1 rfl ?_
        refine e_Ok.getr (z := 279) rfl (el_o rfl) rfl rfl (by rw [← hw51]; exact (e_up_ne _ _ (Or.inl (by omega))).trans (by rw [← hw48]; exact (e_up_ne _ _ (Or.inl (by omega))).trans (by rw [← hw45]; exact (e_up_ne _ _ (Or.inl (by omega))).trans ((q43 275 4 (by first | exact no_97_0 | (unfold mKw; omega))).trans (e_Has.eq hT rfl))))) (by omega) ?_
        refine e_Ok.run (t' := (90, [(0, (1, 275)), (1, (0, x)), (2, (0, a)), (3, (0, b)), (4, (0, c))], [(1, 275), (0, 4), (1, 279)], w51)) 2 rfl ?_
        refine e_Ok.getf (z := R) rfl (el_o rfl) rfl rfl (by rw [← hw51]; exact (e_up_ne _ _ (Or.inl (by omega))).trans (by rw [← hw48]; exact (e_up_ne _ _ (Or.inl (by omega))).trans (by rw [← hw45]; exact (e_up_ne _ _ (Or.inl (by omega))).trans ((q43 275 5 (by first | exact no_97_0 | (unfold mKw; omega))).trans hR)))) (by omega) ?_
        refine e_Ok.mul (z := 4 * R) rfl (by omega) (by omega) ?_
        refine e_Ok.run (t' := (95, [(0, (1, 275)), (1, (0, x)), (2, (0, a)), (3, (0, b)), (4, (0, c))], [(0, 3), (0, 4 * R), (1, 279)], w51)) 1 rfl ?_
        refine e_Ok.add (z := 4 * R + 3) rfl (by omega) (by omega) ?_
        refine e_Ok.run (t' := (98, [(0, (1, 275)), (1, (0, x)), (2, (0, a)), (3, (0, b)), (4, (0, c))], [(0, c), (0, 4 * R + 3), (1, 279)], w51)) 1 rfl ?_
        refine e_Ok.ast rfl (el_o rfl) rfl rfl (by omega) ?_
        generalize hw54 : e_up w51 279 (4 * R + 3) c = w54
        have f55 : e_fr (mWr R E) w w54 := e_fr.up f52 hw54 (by unfold mWr mKw mSo; omega)
        have hT56 : e_Has mTy w54 := e_Has.ups hT53 hw54 rfl
        refine e_Ok.run (t' := (101, [(0, (1, 275)), (1, (0, x)), (2, (0, a)), (3, (0, b)), (4, (0, c))], [(1, 275), (1, 275)], w54)) 2 rfl ?_
        refine e_Ok.getf (z := R) rfl (el_o rfl) rfl rfl (by rw [← hw54]; exact (e_up_ne _ _ (Or.inl (by omega))).trans (by rw [← hw51]; exact (e_up_ne _ _ (Or.inl (by omega))).trans (by rw [← hw48]; exact (e_up_ne _ _ (Or.inl (by omega))).trans (by rw [← hw45]; exact (e_up_ne _ _ (Or.inl (by omega))).trans ((q43 275 5 (by first | exact no_97_0 | (unfold mKw; omega))).trans hR))))) (by omega) ?_
        refine e_Ok.run (t' := (105, [(0, (1, 275)), (1, (0, x)), (2, (0, a)), (3, (0, b)), (4, (0, c))], [(0, 1), (0, R), (1, 275)], w54)) 1 rfl ?_
        refine e_Ok.add (z := R + 1) rfl (by omega) (by omega) ?_
        refine e_Ok.putf rfl (el_o rfl) rfl rfl ?_
        generalize hw57 : e_up w54 275 5 (R + 1) = w57
        have f58 : e_fr (mWr R E) w w57 := e_fr.up f55 hw57 (by unfold mWr mKw mSo; omega)
        have hT59 : e_Has mTy w57 := e_Has.ups hT56 hw57 rfl
        refine e_Ok.run (t' := (110, [(0, (1, 275)), (1, (0, x)), (2, (0, a)), (3, (0, b)), (4, (0, c))], [(1, 275)], w57)) 1 rfl ?_
        refine e_Ok.getf (z := R + 1) rfl (el_o rfl) rfl rfl (by rw [← hw57]; exact e_up_eq _ _ _ _) (by omega) ?_
        refine e_Ok.run (t' := (115, [(0, (1, 275)), (1, (0, x)), (2, (0, a)), (3, (0, b)), (4, (0, c))], [(0, 100), (0, R + 1)], w57)) 1 rfl ?_
        refine e_Ok.remn (fun z60 hz60 => ?_) rfl (by omega) (by omega)
        replace hz60 : z60 = (R + 1) % 100 := hz60
        have z60r : 0 ≤ z60 ∧ z60 ≤ 99 := by omega
        refine e_Ok.if1 rfl (fun h61 => ?_) (fun h61 => ?_)
        · replace h61 : (z60 : Int) ≠ 0 := h61
          refine e_Ok.rets rfl rfl ?_
          exfalso; omega
        · replace h61 : (z60 : Int) = 0 := by have q : ¬ ((z60 : Int) ≠ 0) := h61; omega
          refine e_Ok.run (t' := (122, [(0, (1, 275)), (1, (0, x)), (2, (0, a)), (3, (0, b)), (4, (0, c))], [(1, 275), (0, 33060)], w57)) 2 rfl ?_
          refine e_Ok.getf (z := R + 1) rfl (el_o rfl) rfl rfl (by rw [← hw57]; exact e_up_eq _ _ _ _) (by omega) ?_
          refine e_Ok.run (t' := (127, [(0, (1, 275)), (1, (0, x)), (2, (0, a)), (3, (0, b)), (4, (0, c))], [(0, 100), (0, R + 1), (0, 33060)], w57)) 1 rfl ?_
          refine e_Ok.divn (fun z62 hz62 => ?_) rfl (by omega) (by omega)
          replace hz62 : z62 = (R + 1) / 100 := hz62
          have z62r : 0 ≤ z62 ∧ z62 ≤ 20 := by omega
          refine e_Ok.run (t' := (129, [(0, (1, 275)), (1, (0, x)), (2, (0, a)), (3, (0, b)), (4, (0, c))], [(0, 1), (0, z62), (0, 33060)], w57)) 1 rfl ?_
          refine e_Ok.sub' (z := z62 - 1) rfl (by omega) (by omega) ?_
          refine e_Ok.mul (z := 33060 * z62 - 33060) rfl (by omega) (by omega) ?_
          refine e_Ok.run (t' := (136, [(6, (0, 0)), (5, (0, 33060 * z62 - 33060)), (0, (1, 275)), (1, (0, x)), (2, (0, a)), (3, (0, b)), (4, (0, c))], [], w57)) 3 rfl ?_
          have hL63 : ∀ (nn : Nat) (y6 : Int) (v1 : eW), e_fr (mWr R E) w v1 ∧ e_Has mTy v1 ∧ (0 ≤ y6 ∧ y6 ≤ 33060) ∧ e_fr (mSo R) w57 v1 ∧ (∀ j, 0 ≤ j → j < y6 → v1 278 (33060 * ((R + 1) / 100) - 33060 + j) = w 276 j) → 33061 - y6 < nn → e_Ok 20 elay ecode eI (d + 1) 423 (136, [(0, (1, 275)), (5, (0, 33060 * z62 - 33060)), (6, (0, y6))], [], v1) (fun r w' => r = [] ∧ wrR w w' R E x a b c) := by
            intro nn
            induction nn with
            | zero => intro y6 v1 hj hm; obtain ⟨j65, j66, j67, j68, j69⟩ := hj; exfalso; omega
            | succ nn ih64 =>
              intro y6 v1 hj hm
              obtain ⟨j65, j66, j67, j68, j69⟩ := hj
              refine e_Ok.run (t' := (140, [(0, (1, 275)), (5, (0, 33060 * z62 - 33060)), (6, (0, y6))], [(0, 33060), (0, y6)], v1)) 2 rfl ?_
              refine e_Ok.if2 rfl (fun h70 => ?_) (fun h70 => ?_)
              · replace h70 : (y6 : Int) ≥ 33060 := h70
                refine e_Ok.rets rfl rfl ?_
                exfalso; omega
              · replace h70 : (y6 : Int) < 33060 := by have q : ¬ ((y6 : Int) ≥ 33060) := h70; omega
                refine e_Ok.run (t' := (144, [(0, (1, 275)), (5, (0, 33060 * z62 - 33060)), (6, (0, y6))], [(1, 275)], v1)) 1 rfl ?_
                refine e_Ok.getr (z := 278) rfl (el_o rfl) rfl rfl ((j68 275 2 (by first | exact no_97_3 | (unfold mSo; omega))).trans (by rw [← hw57]; exact (e_up_ne _ _ (Or.inr (by omega))).trans (by rw [← hw54]; exact (e_up_ne _ _ (Or.inl (by omega))).trans (by rw [← hw51]; exact (e_up_ne _ _ (Or.inl (by omega))).trans (by rw [← hw48]; exact (e_up_ne _ _ (Or.inl (by omega))).trans (by rw [← hw45]; exact (e_up_ne _ _ (Or.inl (by omega))).trans ((q43 275 2 (by first | exact no_97_0 | (unfold mKw; omega))).trans (e_Has.eq hT rfl)))))))) (by omega) ?_
                refine e_Ok.run (t' := (151, [(0, (1, 275)), (5, (0, 33060 * z62 - 33060)), (6, (0, y6))], [(0, y6), (0, 33060 * z62 - 33060), (1, 278)], v1)) 2 rfl ?_
                refine e_Ok.add (z := 33060 * z62 + y6 - 33060) rfl (by omega) (by omega) ?_
                refine e_Ok.run (t' := (153, [(0, (1, 275)), (5, (0, 33060 * z62 - 33060)), (6, (0, y6))], [(1, 275), (0, 33060 * z62 + y6 - 33060), (1, 278)], v1)) 1 rfl ?_
                refine e_Ok.getr (z := 276) rfl (el_o rfl) rfl rfl ((j68 275 0 (by first | exact no_97_3 | (unfold mSo; omega))).trans (by rw [← hw57]; exact (e_up_ne _ _ (Or.inr (by omega))).trans (by rw [← hw54]; exact (e_up_ne _ _ (Or.inl (by omega))).trans (by rw [← hw51]; exact (e_up_ne _ _ (Or.inl (by omega))).trans (by rw [← hw48]; exact (e_up_ne _ _ (Or.inl (by omega))).trans (by rw [← hw45]; exact (e_up_ne _ _ (Or.inl (by omega))).trans ((q43 275 0 (by first | exact no_97_0 | (unfold mKw; omega))).trans (e_Has.eq hT rfl)))))))) (by omega) ?_
                refine e_Ok.run (t' := (158, [(0, (1, 275)), (5, (0, 33060 * z62 - 33060)), (6, (0, y6))], [(0, y6), (1, 276), (0, 33060 * z62 + y6 - 33060), (1, 278)], v1)) 1 rfl ?_
                have h71 := (hk276 y6 (by omega) (by omega))
                refine e_Ok.ald (z := w 276 y6) rfl (el_o rfl) rfl (by omega) ((j68 276 y6 (by first | exact no_97_5 | (unfold mSo; omega))).trans (by rw [← hw57]; exact (e_up_ne _ _ (Or.inl (by omega))).trans (by rw [← hw54]; exact (e_up_ne _ _ (Or.inl (by omega))).trans (by rw [← hw51]; exact (e_up_ne _ _ (Or.inl (by omega))).trans (by rw [← hw48]; exact (e_up_ne _ _ (Or.inl (by omega))).trans (by rw [← hw45]; exact (e_up_ne _ _ (Or.inl (by omega))).trans ((q43 276 y6 (by first | exact no_97_6 | (unfold mKw; omega))).trans rfl))))))) (by omega) ?_
                refine e_Ok.ast rfl (el_o rfl) rfl rfl (by omega) ?_
                generalize hw72 : e_up v1 278 (33060 * z62 + y6 - 33060) (w 276 y6) = w72
                have f73 : e_fr (mWr R E) w w72 := e_fr.up j65 hw72 (by unfold mWr mKw mSo; omega)
                have hT74 : e_Has mTy w72 := e_Has.ups j66 hw72 rfl
                refine e_Ok.inc (z := y6 + 1) rfl rfl (by omega) (by omega) ?_
                show e_Ok 20 elay ecode eI (d + 1) 423 (163, [(6, (0, y6 + 1)), (0, (1, 275)), (5, (0, 33060 * z62 - 33060))], [], w72) _
                refine e_Ok.run (t' := (136, [(6, (0, y6 + 1)), (0, (1, 275)), (5, (0, 33060 * z62 - 33060))], [], w72)) 1 rfl ?_
                refine e_Ok.sub eAlk (e_sub_of rfl ?_) (ih64 (y6 + 1) w72 ⟨f73, hT74, by omega, (e_fr.up j68 hw72 (by unfold mSo; omega)), (fun j g1 g2 => Decidable.byCases (p := j = y6) (fun e => by rw [e, show 33060 * ((R + 1) / 100) - 33060 + y6 = 33060 * z62 + y6 - 33060 by omega, ← hw72]; exact e_up_eq _ _ _ _) (fun e => Eq.trans (show w72 278 (33060 * ((R + 1) / 100) - 33060 + j) = v1 278 (33060 * ((R + 1) / 100) - 33060 + j) from by rw [← hw72]; exact e_up_ne _ _ (Or.inr (by omega))) (j69 j g1 (by omega))))⟩ (by omega))
                exact ⟨rfl, rfl, rfl, trivial⟩
          refine e_Ok.sub eAlk (e_sub_of rfl ?_) (hL63 (33061 + 1 : Int).toNat 0 w57 ⟨f58, hT59, by omega, (e_fr.refl w57), (fun j g1 g2 => by omega)⟩ (by omega))
          exact ⟨rfl, rfl, rfl, trivial⟩
    · replace h2 : (x : Int) = 10 := by have q : ¬ ((x : Int) ≠ 10) := h2; omega
      have hw := hw10 (by omega)
      have hws := e_Has.get hT (nR_WAY_SIZE (a := a) (by omega)) (by decide)
      refine e_Ok.run (t' := (16, [(0, (1, 275)), (1, (0, x)), (2, (0, a)), (3, (0, b)), (4, (0, c))], [(1, 275), (1, 275)], w)) 1 rfl ?_
      refine e_Ok.getr (z := 276) rfl (el_o rfl) rfl rfl (e_Has.eq hT rfl) (by omega) ?_
      refine e_Ok.run (t' := (20, [(0, (1, 275)), (1, (0, x)), (2, (0, a)), (3, (0, b)), (4, (0, c))], [(0, a), (1, 276), (1, 275)], w)) 1 rfl ?_
      refine e_Ok.callS rfl (by omega) rfl rfl (c_268 (by omega)) (fun r75 w76 h77 => ?_)
      obtain ⟨rfl, rfl⟩ := h77
      show e_Ok 20 elay ecode eI (d + 1) 423 (23, [(0, (1, 275)), (1, (0, x)), (2, (0, a)), (3, (0, b)), (4, (0, c))], [(0, 36 * a + 16), (1, 276), (1, 275)], w) _
      refine e_Ok.run (t' := (24, [(0, (1, 275)), (1, (0, x)), (2, (0, a)), (3, (0, b)), (4, (0, c))], [(0, 3), (0, 36 * a + 16), (1, 276), (1, 275)], w)) 1 rfl ?_
      refine e_Ok.add (z := 36 * a + 19) rfl (by omega) (by omega) ?_
      refine e_Ok.ald (z := w 276 (36 * a + 19)) rfl (el_o rfl) rfl (by omega) rfl (by omega) ?_
      refine e_Ok.run (t' := (33, [(0, (1, 275)), (1, (0, x)), (2, (0, a)), (3, (0, b)), (4, (0, c))], [(0, 10), (0, x), (0, w 276 (36 * a + 19)), (1, 275)], w)) 3 rfl ?_
      refine e_Ok.if2 rfl (fun h78 => ?_) (fun h78 => ?_)
      · replace h78 : (x : Int) ≠ 10 := h78
        exfalso; omega
      · replace h78 : (x : Int) = 10 := by have q : ¬ ((x : Int) ≠ 10) := h78; omega
        refine e_Ok.run (t' := (41, [(0, (1, 275)), (1, (0, x)), (2, (0, a)), (3, (0, b)), (4, (0, c))], [(0, 1), (0, w 276 (36 * a + 19)), (1, 275)], w)) 2 rfl ?_
        refine e_Ok.callV rfl (by omega) rfl rfl rfl rfl (c_420 hT (R := R) (E := E) hR (by omega) hE0 hE hEr (by omega) (by omega) (fun _ => (hw10 (by omega)).2.2)) (fun r79 w80 h81 => ?_)
        obtain ⟨rfl, q82, q82k⟩ := h81
        have f83 : e_fr (mWr R E) w w80 := e_fr.trans (e_fr.refl w) (e_fr.mono q82 (fun c k q => by exact Or.inr (Or.inl q)))
        have q82T : e_Has mTy w80 := kw_T hT q82
        show e_Ok 20 elay ecode eI (d + 1) 423 (44, [(0, (1, 275)), (1, (0, x)), (2, (0, a)), (3, (0, b)), (4, (0, c))], [], w80) _
        refine e_Ok.run (t' := (45, [(0, (1, 275)), (1, (0, x)), (2, (0, a)), (3, (0, b)), (4, (0, c))], [(1, 275)], w80)) 1 rfl ?_
        refine e_Ok.getr (z := 279) rfl (el_o rfl) rfl rfl ((q82 275 4 (by first | exact no_97_0 | (unfold mKw; omega))).trans (e_Has.eq hT rfl)) (by omega) ?_
        refine e_Ok.run (t' := (50, [(0, (1, 275)), (1, (0, x)), (2, (0, a)), (3, (0, b)), (4, (0, c))], [(1, 275), (0, 4), (1, 279)], w80)) 2 rfl ?_
        refine e_Ok.getf (z := R) rfl (el_o rfl) rfl rfl ((q82 275 5 (by first | exact no_97_0 | (unfold mKw; omega))).trans hR) (by omega) ?_
        refine e_Ok.mul (z := 4 * R) rfl (by omega) (by omega) ?_
        refine e_Ok.run (t' := (55, [(0, (1, 275)), (1, (0, x)), (2, (0, a)), (3, (0, b)), (4, (0, c))], [(0, x), (0, 4 * R), (1, 279)], w80)) 1 rfl ?_
        refine e_Ok.ast rfl (el_o rfl) rfl rfl (by omega) ?_
        generalize hw84 : e_up w80 279 (4 * R) x = w84
        have f85 : e_fr (mWr R E) w w84 := e_fr.up f83 hw84 (by unfold mWr mKw mSo; omega)
        have hT86 : e_Has mTy w84 := e_Has.ups q82T hw84 rfl
        refine e_Ok.run (t' := (57, [(0, (1, 275)), (1, (0, x)), (2, (0, a)), (3, (0, b)), (4, (0, c))], [(1, 275)], w84)) 1 rfl ?_
        refine e_Ok.getr (z := 279) rfl (el_o rfl) rfl rfl (by rw [← hw84]; exact (e_up_ne _ _ (Or.inl (by omega))).trans ((q82 275 4 (by first | exact no_97_0 | (unfold mKw; omega))).trans (e_Has.eq hT rfl))) (by omega) ?_
        refine e_Ok.run (t' := (62, [(0, (1, 275)), (1, (0, x)), (2, (0, a)), (3, (0, b)), (4, (0, c))], [(1, 275), (0, 4), (1, 279)], w84)) 2 rfl ?_
        refine e_Ok.getf (z := R) rfl (el_o rfl) rfl rfl (by rw [← hw84]; exact (e_up_ne _ _ (Or.inl (by omega))).trans ((q82 275 5 (by first | exact no_97_0 | (unfold mKw; omega))).trans hR)) (by omega) ?_
        refine e_Ok.mul (z := 4 * R) rfl (by omega) (by omega) ?_
        refine e_Ok.run (t' := (67, [(0, (1, 275)), (1, (0, x)), (2, (0, a)), (3, (0, b)), (4, (0, c))], [(0, 1), (0, 4 * R), (1, 279)], w84)) 1 rfl ?_
        refine e_Ok.add (z := 4 * R + 1) rfl (by omega) (by omega) ?_
        refine e_Ok.run (t' := (69, [(0, (1, 275)), (1, (0, x)), (2, (0, a)), (3, (0, b)), (4, (0, c))], [(0, a), (0, 4 * R + 1), (1, 279)], w84)) 1 rfl ?_
        refine e_Ok.ast rfl (el_o rfl) rfl rfl (by omega) ?_
        generalize hw87 : e_up w84 279 (4 * R + 1) a = w87
        have f88 : e_fr (mWr R E) w w87 := e_fr.up f85 hw87 (by unfold mWr mKw mSo; omega)
        have hT89 : e_Has mTy w87 := e_Has.ups hT86 hw87 rfl
        refine e_Ok.run (t' := (71, [(0, (1, 275)), (1, (0, x)), (2, (0, a)), (3, (0, b)), (4, (0, c))], [(1, 275)], w87)) 1 rfl ?_
        refine e_Ok.getr (z := 279) rfl (el_o rfl) rfl rfl (by rw [← hw87]; exact (e_up_ne _ _ (Or.inl (by omega))).trans (by rw [← hw84]; exact (e_up_ne _ _ (Or.inl (by omega))).trans ((q82 275 4 (by first | exact no_97_0 | (unfold mKw; omega))).trans (e_Has.eq hT rfl)))) (by omega) ?_
        refine e_Ok.run (t' := (76, [(0, (1, 275)), (1, (0, x)), (2, (0, a)), (3, (0, b)), (4, (0, c))], [(1, 275), (0, 4), (1, 279)], w87)) 2 rfl ?_
        refine e_Ok.getf (z := R) rfl (el_o rfl) rfl rfl (by rw [← hw87]; exact (e_up_ne _ _ (Or.inl (by omega))).trans (by rw [← hw84]; exact (e_up_ne _ _ (Or.inl (by omega))).trans ((q82 275 5 (by first | exact no_97_0 | (unfold mKw; omega))).trans hR))) (by omega) ?_
        refine e_Ok.mul (z := 4 * R) rfl (by omega) (by omega) ?_
        refine e_Ok.run (t' := (81, [(0, (1, 275)), (1, (0, x)), (2, (0, a)), (3, (0, b)), (4, (0, c))], [(0, 2), (0, 4 * R), (1, 279)], w87)) 1 rfl ?_
        refine e_Ok.add (z := 4 * R + 2) rfl (by omega) (by omega) ?_
        refine e_Ok.run (t' := (83, [(0, (1, 275)), (1, (0, x)), (2, (0, a)), (3, (0, b)), (4, (0, c))], [(0, b), (0, 4 * R + 2), (1, 279)], w87)) 1 rfl ?_
        refine e_Ok.ast rfl (el_o rfl) rfl rfl (by omega) ?_
        generalize hw90 : e_up w87 279 (4 * R + 2) b = w90
        have f91 : e_fr (mWr R E) w w90 := e_fr.up f88 hw90 (by unfold mWr mKw mSo; omega)
        have hT92 : e_Has mTy w90 := e_Has.ups hT89 hw90 rfl
        refine e_Ok.run (t' := (85, [(0, (1, 275)), (1, (0, x)), (2, (0, a)), (3, (0, b)), (4, (0, c))], [(1, 275)], w90)) 1 rfl ?_
        refine e_Ok.getr (z := 279) rfl (el_o rfl) rfl rfl (by rw [← hw90]; exact (e_up_ne _ _ (Or.inl (by omega))).trans (by rw [← hw87]; exact (e_up_ne _ _ (Or.inl (by omega))).trans (by rw [← hw84]; exact (e_up_ne _ _ (Or.inl (by omega))).trans ((q82 275 4 (by first | exact no_97_0 | (unfold mKw; omega))).trans (e_Has.eq hT rfl))))) (by omega) ?_
        refine e_Ok.run (t' := (90, [(0, (1, 275)), (1, (0, x)), (2, (0, a)), (3, (0, b)), (4, (0, c))], [(1, 275), (0, 4), (1, 279)], w90)) 2 rfl ?_
        refine e_Ok.getf (z := R) rfl (el_o rfl) rfl rfl (by rw [← hw90]; exact (e_up_ne _ _ (Or.inl (by omega))).trans (by rw [← hw87]; exact (e_up_ne _ _ (Or.inl (by omega))).trans (by rw [← hw84]; exact (e_up_ne _ _ (Or.inl (by omega))).trans ((q82 275 5 (by first | exact no_97_0 | (unfold mKw; omega))).trans hR)))) (by omega) ?_
        refine e_Ok.mul (z := 4 * R) rfl (by omega) (by omega) ?_
        refine e_Ok.run (t' := (95, [(0, (1, 275)), (1, (0, x)), (2, (0, a)), (3, (0, b)), (4, (0, c))], [(0, 3), (0, 4 * R), (1, 279)], w90)) 1 rfl ?_
        refine e_Ok.add (z := 4 * R + 3) rfl (by omega) (by omega) ?_
        refine e_Ok.run (t' := (98, [(0, (1, 275)), (1, (0, x)), (2, (0, a)), (3, (0, b)), (4, (0, c))], [(0, c), (0, 4 * R + 3), (1, 279)], w90)) 1 rfl ?_
        refine e_Ok.ast rfl (el_o rfl) rfl rfl (by omega) ?_
        generalize hw93 : e_up w90 279 (4 * R + 3) c = w93
        have f94 : e_fr (mWr R E) w w93 := e_fr.up f91 hw93 (by unfold mWr mKw mSo; omega)
        have hT95 : e_Has mTy w93 := e_Has.ups hT92 hw93 rfl
        refine e_Ok.run (t' := (101, [(0, (1, 275)), (1, (0, x)), (2, (0, a)), (3, (0, b)), (4, (0, c))], [(1, 275), (1, 275)], w93)) 2 rfl ?_
        refine e_Ok.getf (z := R) rfl (el_o rfl) rfl rfl (by rw [← hw93]; exact (e_up_ne _ _ (Or.inl (by omega))).trans (by rw [← hw90]; exact (e_up_ne _ _ (Or.inl (by omega))).trans (by rw [← hw87]; exact (e_up_ne _ _ (Or.inl (by omega))).trans (by rw [← hw84]; exact (e_up_ne _ _ (Or.inl (by omega))).trans ((q82 275 5 (by first | exact no_97_0 | (unfold mKw; omega))).trans hR))))) (by omega) ?_
        refine e_Ok.run (t' := (105, [(0, (1, 275)), (1, (0, x)), (2, (0, a)), (3, (0, b)), (4, (0, c))], [(0, 1), (0, R), (1, 275)], w93)) 1 rfl ?_
        refine e_Ok.add (z := R + 1) rfl (by omega) (by omega) ?_
        refine e_Ok.putf rfl (el_o rfl) rfl rfl ?_
        generalize hw101 : e_up w93 275 5 (R + 1) = w101
        have f103 : e_fr (mWr R E) w w101 := e_fr.up f94 hw101 (by unfold mWr mKw mSo; omega)
        have hT104 : e_Has mTy w101 := e_Has.ups hT95 hw101 rfl
        refine e_Ok.run (t' := (110, [(0, (1, 275)), (1, (0, x)), (2, (0, a)), (3, (0, b)), (4, (0, c))], [(1, 275)], w101)) 1 rfl ?_
        refine e_Ok.getf (z := R + 1) rfl (el_o rfl) rfl rfl (by rw [← hw101]; exact e_up_eq _ _ _ _) (by omega) ?_
        refine e_Ok.run (t' := (115, [(0, (1, 275)), (1, (0, x)), (2, (0, a)), (3, (0, b)), (4, (0, c))], [(0, 100), (0, R + 1)], w101)) 1 rfl ?_
        refine e_Ok.remn (fun z105 hz105 => ?_) rfl (by omega) (by omega)
        replace hz105 : z105 = (R + 1) % 100 := hz105
        have z105r : 0 ≤ z105 ∧ z105 ≤ 99 := by omega
        refine e_Ok.if1 rfl (fun h106 => ?_) (fun h106 => ?_)
        · replace h106 : (z105 : Int) ≠ 0 := h106
          refine e_Ok.rets rfl rfl ?_
          have e5 : w101 355 R = w80 355 R := (by rw [← hw101]; exact (e_up_ne _ _ (Or.inl (by omega))).trans (by rw [← hw93]; exact (e_up_ne _ _ (Or.inl (by omega))).trans (by rw [← hw90]; exact (e_up_ne _ _ (Or.inl (by omega))).trans (by rw [← hw87]; exact (e_up_ne _ _ (Or.inl (by omega))).trans (by rw [← hw84]; exact (e_up_ne _ _ (Or.inl (by omega))).trans rfl)))))
          have e6 : w101 356 R = w80 356 R := (by rw [← hw101]; exact (e_up_ne _ _ (Or.inl (by omega))).trans (by rw [← hw93]; exact (e_up_ne _ _ (Or.inl (by omega))).trans (by rw [← hw90]; exact (e_up_ne _ _ (Or.inl (by omega))).trans (by rw [← hw87]; exact (e_up_ne _ _ (Or.inl (by omega))).trans (by rw [← hw84]; exact (e_up_ne _ _ (Or.inl (by omega))).trans rfl)))))
          exact ⟨rfl, (by rw [← hw101]; exact e_up_eq _ _ _ _), ⟨(by rw [← hw101]; exact (e_up_ne _ _ (Or.inl (by omega))).trans (by rw [← hw93]; exact (e_up_ne _ _ (Or.inr (by omega))).trans (by rw [← hw90]; exact (e_up_ne _ _ (Or.inr (by omega))).trans (by rw [← hw87]; exact (e_up_ne _ _ (Or.inr (by omega))).trans (by rw [← hw84]; exact e_up_eq _ _ _ _))))), (by rw [← hw101]; exact (e_up_ne _ _ (Or.inl (by omega))).trans (by rw [← hw93]; exact (e_up_ne _ _ (Or.inr (by omega))).trans (by rw [← hw90]; exact (e_up_ne _ _ (Or.inr (by omega))).trans (by rw [← hw87]; exact e_up_eq _ _ _ _)))), (by rw [← hw101]; exact (e_up_ne _ _ (Or.inl (by omega))).trans (by rw [← hw93]; exact (e_up_ne _ _ (Or.inr (by omega))).trans (by rw [← hw90]; exact e_up_eq _ _ _ _))), (by rw [← hw101]; exact (e_up_ne _ _ (Or.inl (by omega))).trans (by rw [← hw93]; exact e_up_eq _ _ _ _))⟩, f103, Or.inl ⟨by omega, q82k.elim (fun h => Or.inl ⟨h.2.1, e5.trans h.2.2.1, e6.trans h.2.2.2.1, (fun j g1 g2 => Eq.trans (by rw [← hw101]; exact (e_up_ne _ _ (Or.inl (by omega))).trans (by rw [← hw93]; exact (e_up_ne _ _ (Or.inl (by omega))).trans (by rw [← hw90]; exact (e_up_ne _ _ (Or.inl (by omega))).trans (by rw [← hw87]; exact (e_up_ne _ _ (Or.inl (by omega))).trans (by rw [← hw84]; exact (e_up_ne _ _ (Or.inl (by omega))).trans rfl))))) (h.2.2.2.2 j g1 g2))⟩) (fun h => Or.inr ⟨h.1.resolve_left (fun h => h rfl), e5.trans h.2.1, e6.trans h.2.2⟩)⟩, (fun e => by exfalso; omega)⟩
        · replace h106 : (z105 : Int) = 0 := by have q : ¬ ((z105 : Int) ≠ 0) := h106; omega
          refine e_Ok.run (t' := (122, [(0, (1, 275)), (1, (0, x)), (2, (0, a)), (3, (0, b)), (4, (0, c))], [(1, 275), (0, 33060)], w101)) 2 rfl ?_
          refine e_Ok.getf (z := R + 1) rfl (el_o rfl) rfl rfl (by rw [← hw101]; exact e_up_eq _ _ _ _) (by omega) ?_
          refine e_Ok.run (t' := (127, [(0, (1, 275)), (1, (0, x)), (2, (0, a)), (3, (0, b)), (4, (0, c))], [(0, 100), (0, R + 1), (0, 33060)], w101)) 1 rfl ?_
          refine e_Ok.divn (fun z107 hz107 => ?_) rfl (by omega) (by omega)
          replace hz107 : z107 = (R + 1) / 100 := hz107
          have z107r : 0 ≤ z107 ∧ z107 ≤ 20 := by omega
          refine e_Ok.run (t' := (129, [(0, (1, 275)), (1, (0, x)), (2, (0, a)), (3, (0, b)), (4, (0, c))], [(0, 1), (0, z107), (0, 33060)], w101)) 1 rfl ?_
          refine e_Ok.sub' (z := z107 - 1) rfl (by omega) (by omega) ?_
          refine e_Ok.mul (z := 33060 * z107 - 33060) rfl (by omega) (by omega) ?_
          refine e_Ok.run (t' := (136, [(6, (0, 0)), (5, (0, 33060 * z107 - 33060)), (0, (1, 275)), (1, (0, x)), (2, (0, a)), (3, (0, b)), (4, (0, c))], [], w101)) 3 rfl ?_
          have hL108 : ∀ (nn : Nat) (y6 : Int) (v1 : eW), e_fr (mWr R E) w v1 ∧ e_Has mTy v1 ∧ (0 ≤ y6 ∧ y6 ≤ 33060) ∧ e_fr (mSo R) w101 v1 ∧ (∀ j, 0 ≤ j → j < y6 → v1 278 (33060 * ((R + 1) / 100) - 33060 + j) = w 276 j) → 33061 - y6 < nn → e_Ok 20 elay ecode eI (d + 1) 423 (136, [(0, (1, 275)), (5, (0, 33060 * z107 - 33060)), (6, (0, y6))], [], v1) (fun r w' => r = [] ∧ wrR w w' R E x a b c) := by
            intro nn
            induction nn with
            | zero => intro y6 v1 hj hm; obtain ⟨j110, j111, j112, j113, j114⟩ := hj; exfalso; omega
            | succ nn ih109 =>
              intro y6 v1 hj hm
              obtain ⟨j110, j111, j112, j113, j114⟩ := hj
              refine e_Ok.run (t' := (140, [(0, (1, 275)), (5, (0, 33060 * z107 - 33060)), (6, (0, y6))], [(0, 33060), (0, y6)], v1)) 2 rfl ?_
              refine e_Ok.if2 rfl (fun h115 => ?_) (fun h115 => ?_)
              · replace h115 : (y6 : Int) ≥ 33060 := h115
                refine e_Ok.rets rfl rfl ?_
                have e5 : v1 355 R = w80 355 R := ((j113 355 R (by first | exact no_97_1 | (unfold mSo; omega))).trans (by rw [← hw101]; exact (e_up_ne _ _ (Or.inl (by omega))).trans (by rw [← hw93]; exact (e_up_ne _ _ (Or.inl (by omega))).trans (by rw [← hw90]; exact (e_up_ne _ _ (Or.inl (by omega))).trans (by rw [← hw87]; exact (e_up_ne _ _ (Or.inl (by omega))).trans (by rw [← hw84]; exact (e_up_ne _ _ (Or.inl (by omega))).trans rfl))))))
                have e6 : v1 356 R = w80 356 R := ((j113 356 R (by first | exact no_97_2 | (unfold mSo; omega))).trans (by rw [← hw101]; exact (e_up_ne _ _ (Or.inl (by omega))).trans (by rw [← hw93]; exact (e_up_ne _ _ (Or.inl (by omega))).trans (by rw [← hw90]; exact (e_up_ne _ _ (Or.inl (by omega))).trans (by rw [← hw87]; exact (e_up_ne _ _ (Or.inl (by omega))).trans (by rw [← hw84]; exact (e_up_ne _ _ (Or.inl (by omega))).trans rfl))))))
                exact ⟨rfl, ((j113 275 5 (by first | exact no_97_3 | (unfold mSo; omega))).trans (by rw [← hw101]; exact e_up_eq _ _ _ _)), ⟨((j113 279 (4 * R) (by first | exact no_97_4 | (unfold mSo; omega))).trans (by rw [← hw101]; exact (e_up_ne _ _ (Or.inl (by omega))).trans (by rw [← hw93]; exact (e_up_ne _ _ (Or.inr (by omega))).trans (by rw [← hw90]; exact (e_up_ne _ _ (Or.inr (by omega))).trans (by rw [← hw87]; exact (e_up_ne _ _ (Or.inr (by omega))).trans (by rw [← hw84]; exact e_up_eq _ _ _ _)))))), ((j113 279 (4 * R + 1) (by first | exact no_97_4 | (unfold mSo; omega))).trans (by rw [← hw101]; exact (e_up_ne _ _ (Or.inl (by omega))).trans (by rw [← hw93]; exact (e_up_ne _ _ (Or.inr (by omega))).trans (by rw [← hw90]; exact (e_up_ne _ _ (Or.inr (by omega))).trans (by rw [← hw87]; exact e_up_eq _ _ _ _))))), ((j113 279 (4 * R + 2) (by first | exact no_97_4 | (unfold mSo; omega))).trans (by rw [← hw101]; exact (e_up_ne _ _ (Or.inl (by omega))).trans (by rw [← hw93]; exact (e_up_ne _ _ (Or.inr (by omega))).trans (by rw [← hw90]; exact e_up_eq _ _ _ _)))), ((j113 279 (4 * R + 3) (by first | exact no_97_4 | (unfold mSo; omega))).trans (by rw [← hw101]; exact (e_up_ne _ _ (Or.inl (by omega))).trans (by rw [← hw93]; exact e_up_eq _ _ _ _)))⟩, j110, Or.inl ⟨by omega, q82k.elim (fun h => Or.inl ⟨h.2.1, e5.trans h.2.2.1, e6.trans h.2.2.2.1, (fun j g1 g2 => Eq.trans ((j113 354 (E + j) (by first | exact no_97_7 | (unfold mSo; omega))).trans (by rw [← hw101]; exact (e_up_ne _ _ (Or.inl (by omega))).trans (by rw [← hw93]; exact (e_up_ne _ _ (Or.inl (by omega))).trans (by rw [← hw90]; exact (e_up_ne _ _ (Or.inl (by omega))).trans (by rw [← hw87]; exact (e_up_ne _ _ (Or.inl (by omega))).trans (by rw [← hw84]; exact (e_up_ne _ _ (Or.inl (by omega))).trans rfl)))))) (h.2.2.2.2 j g1 g2))⟩) (fun h => Or.inr ⟨h.1.resolve_left (fun h => h rfl), e5.trans h.2.1, e6.trans h.2.2⟩)⟩, (fun _ k g1 g2 => j114 k g1 (by omega))⟩
              · replace h115 : (y6 : Int) < 33060 := by have q : ¬ ((y6 : Int) ≥ 33060) := h115; omega
                refine e_Ok.run (t' := (144, [(0, (1, 275)), (5, (0, 33060 * z107 - 33060)), (6, (0, y6))], [(1, 275)], v1)) 1 rfl ?_
                refine e_Ok.getr (z := 278) rfl (el_o rfl) rfl rfl ((j113 275 2 (by first | exact no_97_3 | (unfold mSo; omega))).trans (by rw [← hw101]; exact (e_up_ne _ _ (Or.inr (by omega))).trans (by rw [← hw93]; exact (e_up_ne _ _ (Or.inl (by omega))).trans (by rw [← hw90]; exact (e_up_ne _ _ (Or.inl (by omega))).trans (by rw [← hw87]; exact (e_up_ne _ _ (Or.inl (by omega))).trans (by rw [← hw84]; exact (e_up_ne _ _ (Or.inl (by omega))).trans ((q82 275 2 (by first | exact no_97_0 | (unfold mKw; omega))).trans (e_Has.eq hT rfl)))))))) (by omega) ?_
                refine e_Ok.run (t' := (151, [(0, (1, 275)), (5, (0, 33060 * z107 - 33060)), (6, (0, y6))], [(0, y6), (0, 33060 * z107 - 33060), (1, 278)], v1)) 2 rfl ?_
                refine e_Ok.add (z := 33060 * z107 + y6 - 33060) rfl (by omega) (by omega) ?_
                refine e_Ok.run (t' := (153, [(0, (1, 275)), (5, (0, 33060 * z107 - 33060)), (6, (0, y6))], [(1, 275), (0, 33060 * z107 + y6 - 33060), (1, 278)], v1)) 1 rfl ?_
                refine e_Ok.getr (z := 276) rfl (el_o rfl) rfl rfl ((j113 275 0 (by first | exact no_97_3 | (unfold mSo; omega))).trans (by rw [← hw101]; exact (e_up_ne _ _ (Or.inr (by omega))).trans (by rw [← hw93]; exact (e_up_ne _ _ (Or.inl (by omega))).trans (by rw [← hw90]; exact (e_up_ne _ _ (Or.inl (by omega))).trans (by rw [← hw87]; exact (e_up_ne _ _ (Or.inl (by omega))).trans (by rw [← hw84]; exact (e_up_ne _ _ (Or.inl (by omega))).trans ((q82 275 0 (by first | exact no_97_0 | (unfold mKw; omega))).trans (e_Has.eq hT rfl)))))))) (by omega) ?_
                refine e_Ok.run (t' := (158, [(0, (1, 275)), (5, (0, 33060 * z107 - 33060)), (6, (0, y6))], [(0, y6), (1, 276), (0, 33060 * z107 + y6 - 33060), (1, 278)], v1)) 1 rfl ?_
                have h116 := (hk276 y6 (by omega) (by omega))
                refine e_Ok.ald (z := w 276 y6) rfl (el_o rfl) rfl (by omega) ((j113 276 y6 (by first | exact no_97_5 | (unfold mSo; omega))).trans (by rw [← hw101]; exact (e_up_ne _ _ (Or.inl (by omega))).trans (by rw [← hw93]; exact (e_up_ne _ _ (Or.inl (by omega))).trans (by rw [← hw90]; exact (e_up_ne _ _ (Or.inl (by omega))).trans (by rw [← hw87]; exact (e_up_ne _ _ (Or.inl (by omega))).trans (by rw [← hw84]; exact (e_up_ne _ _ (Or.inl (by omega))).trans ((q82 276 y6 (by first | exact no_97_6 | (unfold mKw; omega))).trans rfl))))))) (by omega) ?_
                refine e_Ok.ast rfl (el_o rfl) rfl rfl (by omega) ?_
                generalize hw117 : e_up v1 278 (33060 * z107 + y6 - 33060) (w 276 y6) = w117
                have f118 : e_fr (mWr R E) w w117 := e_fr.up j110 hw117 (by unfold mWr mKw mSo; omega)
                have hT119 : e_Has mTy w117 := e_Has.ups j111 hw117 rfl
                refine e_Ok.inc (z := y6 + 1) rfl rfl (by omega) (by omega) ?_
                show e_Ok 20 elay ecode eI (d + 1) 423 (163, [(6, (0, y6 + 1)), (0, (1, 275)), (5, (0, 33060 * z107 - 33060))], [], w117) _
                refine e_Ok.run (t' := (136, [(6, (0, y6 + 1)), (0, (1, 275)), (5, (0, 33060 * z107 - 33060))], [], w117)) 1 rfl ?_
                refine e_Ok.sub eAlk (e_sub_of rfl ?_) (ih109 (y6 + 1) w117 ⟨f118, hT119, by omega, (e_fr.up j113 hw117 (by unfold mSo; omega)), (fun j g1 g2 => Decidable.byCases (p := j = y6) (fun e => by rw [e, show 33060 * ((R + 1) / 100) - 33060 + y6 = 33060 * z107 + y6 - 33060 by omega, ← hw117]; exact e_up_eq _ _ _ _) (fun e => Eq.trans (show w117 278 (33060 * ((R + 1) / 100) - 33060 + j) = v1 278 (33060 * ((R + 1) / 100) - 33060 + j) from by rw [← hw117]; exact e_up_ne _ _ (Or.inr (by omega))) (j114 j g1 (by omega))))⟩ (by omega))
                exact ⟨rfl, rfl, rfl, trivial⟩
          refine e_Ok.sub eAlk (e_sub_of rfl ?_) (hL108 (33061 + 1 : Int).toNat 0 w101 ⟨f103, hT104, by omega, (e_fr.refl w101), (fun j g1 g2 => by omega)⟩ (by omega))
          exact ⟨rfl, rfl, rfl, trivial⟩
  · replace h1 : (0 : Int) ≠ 0 := by have q : ¬ ((0 : Int) = 0) := h1; omega
    exfalso; omega
theorem c_423_a {d : Nat} (hd : 22 ≤ d) {w : eW} (hT : e_Has mTy w) {x a b c : Int} (hAg : w 275 6 = 1) : e_Ok 20 elay ecode eI d 423 (0, [(0, (1, 275)), (1, (0, x)), (2, (0, a)), (3, (0, b)), (4, (0, c))], [], w) (fun r w' => r = [] ∧ w = w') := by
  obtain ⟨d, rfl⟩ : ∃ e, d = e + 1 := ⟨d - 1, by omega⟩
  refine e_Ok.run (t' := (1, [(0, (1, 275)), (1, (0, x)), (2, (0, a)), (3, (0, b)), (4, (0, c))], [(1, 275)], w)) 1 rfl ?_
  refine e_Ok.getf (z := 1) rfl (el_o rfl) rfl rfl hAg (by omega) ?_
  refine e_Ok.if1 rfl (fun h1 => ?_) (fun h1 => ?_)
  · replace h1 : (1 : Int) = 0 := h1
    exfalso; omega
  · replace h1 : (1 : Int) ≠ 0 := by have q : ¬ ((1 : Int) = 0) := h1; omega
    refine e_Ok.rets rfl rfl ?_
    exact ⟨rfl, rfl⟩
end
