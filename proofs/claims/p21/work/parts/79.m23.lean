noncomputable section
def mCo (p b c k : Int) : Prop := c = 276 ∧ ((33 * b + 20704 ≤ k ∧ k ≤ 33 * b + 20736) ∨ k = 4 * p + 20576 ∨ k = 4 * p + 20579)
theorem orK_co {p b k : Int} (hp : 0 ≤ p ∧ p ≤ 31) (q : orK k) (q2 : ¬ (33 * b + 20704 ≤ k ∧ k ≤ 33 * b + 20736)) (q3 : k ≠ 4 * p + 20576) : ¬ mCo p b 276 k := by unfold orK at q; unfold mCo; omega
theorem orK_pa {p k : Int} (hp : 0 ≤ p ∧ p ≤ 31) (q : orK k) (q3 : k ≠ 4 * p + 20576) : ¬ mPa p 276 k := by unfold orK at q; unfold mPa; omega
def mPr (c k : Int) : Prop := c = 309 ∨ (c = 275 ∧ k = 40) ∨ (c = 276 ∧ 20576 ≤ k ∧ k < 20836)
theorem no_79_0 {p : Int} {b : Int} {k : Int} : ¬ mCo p b 275 k := by unfold mCo; omega
set_option maxHeartbeats 4000000 in
theorem c_393 {d : Nat} (hd : 21 ≤ d) {w : eW} (hT : e_Has mTy w) {p b x m m' : Int} (hOr : mOr w m) (hm' : m' ≤ 32) (hmm : (m' = m ∧ p < m) ∨ (m' = m + 1 ∧ p = m)) (hp : 0 ≤ p ∧ p ≤ 31) (hb : 0 ≤ b ∧ b ≤ 3) (hx : -2147483648 ≤ x ∧ x ≤ 2147483647) (hw : p < m → 4 ≤ w 276 (4 * p + 20576)) (hh : ∀ a, 0 ≤ a → a ≤ 3 → w 276 (36 * a + 17) ≠ p) : e_Ok 20 elay ecode eI d 393 (0, [(0, (1, 275)), (1, (0, p)), (2, (0, b)), (3, (0, x))], [], w) (fun r w' => r = [] ∧ e_fr (mCo p b) w w' ∧ e_Has mTy w' ∧ mOr w' m') := by
  obtain ⟨d, rfl⟩ : ∃ e, d = e + 1 := ⟨d - 1, by omega⟩
  have hrm := mOr.room hOr (by omega) hp hb hw
  have hnb := e_Has.get hT (nR_ORDER (b := b) hb) (by decide)
  refine e_Ok.run (t' := (6, [(0, (1, 275)), (1, (0, p)), (2, (0, b)), (3, (0, x))], [(0, b), (0, 33), (0, 20704)], w)) 3 rfl ?_
  refine e_Ok.mul (z := 33 * b) rfl (by omega) (by omega) ?_
  refine e_Ok.add (z := 33 * b + 20704) rfl (by omega) (by omega) ?_
  refine e_Ok.run (t' := (11, [(4, (0, 33 * b + 20704)), (0, (1, 275)), (1, (0, p)), (2, (0, b)), (3, (0, x))], [(1, 275)], w)) 2 rfl ?_
  refine e_Ok.getr (z := 276) rfl (el_o rfl) rfl rfl (e_Has.eq hT rfl) (by omega) ?_
  refine e_Ok.run (t' := (16, [(4, (0, 33 * b + 20704)), (0, (1, 275)), (1, (0, p)), (2, (0, b)), (3, (0, x))], [(0, 33 * b + 20704), (1, 276)], w)) 1 rfl ?_
  refine e_Ok.ald (z := w 276 (33 * b + 20704)) rfl (el_o rfl) rfl (by omega) rfl (by omega) ?_
  refine e_Ok.run (t' := (23, [(6, (0, w 276 (33 * b + 20704))), (5, (0, w 276 (33 * b + 20704))), (4, (0, 33 * b + 20704)), (0, (1, 275)), (1, (0, p)), (2, (0, b)), (3, (0, x))], [], w)) 3 rfl ?_
  have hL1 : ∀ (nn : Nat) (y6 : Int) (v1 : eW), e_fr (mCo p b) w v1 ∧ e_Has mTy v1 ∧ (0 ≤ y6 ∧ y6 ≤ w 276 (33 * b + 20704)) ∧ (∀ i, 1 ≤ i → i ≤ y6 → v1 276 (33 * b + i + 20704) = w 276 (33 * b + i + 20704)) ∧ (∀ i, y6 + 2 ≤ i → i ≤ w 276 (33 * b + 20704) + 1 → v1 276 (33 * b + i + 20704) = w 276 (33 * b + i + 20703)) → y6 + 1 < nn → e_Ok 20 elay ecode eI (d + 1) 393 (23, [(0, (1, 275)), (1, (0, p)), (2, (0, b)), (3, (0, x)), (4, (0, 33 * b + 20704)), (5, (0, w 276 (33 * b + 20704))), (6, (0, y6))], [], v1) (fun r w' => r = [] ∧ e_fr (mCo p b) w w' ∧ e_Has mTy w' ∧ mOr w' m') := by
    intro nn
    induction nn with
    | zero => intro y6 v1 hj hm; obtain ⟨j3, j4, j5, j6, j7⟩ := hj; exfalso; omega
    | succ nn ih2 =>
      intro y6 v1 hj hm
      obtain ⟨j3, j4, j5, j6, j7⟩ := hj
      refine e_Ok.run (t' := (25, [(0, (1, 275)), (1, (0, p)), (2, (0, b)), (3, (0, x)), (4, (0, 33 * b + 20704)), (5, (0, w 276 (33 * b + 20704))), (6, (0, y6))], [(0, y6)], v1)) 1 rfl ?_
      refine e_Ok.if1 rfl (fun h8 => ?_) (fun h8 => ?_)
      · replace h8 : (y6 : Int) ≤ 0 := h8
        refine e_Ok.run (t' := (81, [(0, (1, 275)), (1, (0, p)), (2, (0, b)), (3, (0, x)), (4, (0, 33 * b + 20704)), (5, (0, w 276 (33 * b + 20704))), (6, (0, y6))], [(1, 275)], v1)) 1 rfl ?_
        refine e_Ok.getr (z := 276) rfl (el_o rfl) rfl rfl ((j3 275 0 (by first | exact no_79_0 | (unfold mCo; omega))).trans (e_Has.eq hT rfl)) (by omega) ?_
        refine e_Ok.run (t' := (88, [(0, (1, 275)), (1, (0, p)), (2, (0, b)), (3, (0, x)), (4, (0, 33 * b + 20704)), (5, (0, w 276 (33 * b + 20704))), (6, (0, y6))], [(0, y6), (0, 33 * b + 20704), (1, 276)], v1)) 2 rfl ?_
        refine e_Ok.add (z := 33 * b + y6 + 20704) rfl (by omega) (by omega) ?_
        refine e_Ok.run (t' := (90, [(0, (1, 275)), (1, (0, p)), (2, (0, b)), (3, (0, x)), (4, (0, 33 * b + 20704)), (5, (0, w 276 (33 * b + 20704))), (6, (0, y6))], [(0, 1), (0, 33 * b + y6 + 20704), (1, 276)], v1)) 1 rfl ?_
        refine e_Ok.add (z := 33 * b + y6 + 20705) rfl (by omega) (by omega) ?_
        refine e_Ok.run (t' := (92, [(0, (1, 275)), (1, (0, p)), (2, (0, b)), (3, (0, x)), (4, (0, 33 * b + 20704)), (5, (0, w 276 (33 * b + 20704))), (6, (0, y6))], [(0, p), (0, 33 * b + y6 + 20705), (1, 276)], v1)) 1 rfl ?_
        refine e_Ok.ast rfl (el_o rfl) rfl rfl (by omega) ?_
        generalize hw9 : e_up v1 276 (33 * b + y6 + 20705) p = w9
        have f10 : e_fr (mCo p b) w w9 := e_fr.up j3 hw9 (by unfold mCo; omega)
        have hT11 : e_Has mTy w9 := e_Has.upr j4 hw9 (nR_ORD b (by omega) (by omega)) (by omega)
        refine e_Ok.run (t' := (94, [(0, (1, 275)), (1, (0, p)), (2, (0, b)), (3, (0, x)), (4, (0, 33 * b + 20704)), (5, (0, w 276 (33 * b + 20704))), (6, (0, y6))], [(1, 275)], w9)) 1 rfl ?_
        refine e_Ok.getr (z := 276) rfl (el_o rfl) rfl rfl (by rw [← hw9]; exact (e_up_ne _ _ (Or.inl (by omega))).trans ((j3 275 0 (by first | exact no_79_0 | (unfold mCo; omega))).trans (e_Has.eq hT rfl))) (by omega) ?_
        refine e_Ok.run (t' := (102, [(0, (1, 275)), (1, (0, p)), (2, (0, b)), (3, (0, x)), (4, (0, 33 * b + 20704)), (5, (0, w 276 (33 * b + 20704))), (6, (0, y6))], [(0, 1), (0, w 276 (33 * b + 20704)), (0, 33 * b + 20704), (1, 276)], w9)) 3 rfl ?_
        refine e_Ok.add (z := w 276 (33 * b + 20704) + 1) rfl (by omega) (by omega) ?_
        refine e_Ok.ast rfl (el_o rfl) rfl rfl (by omega) ?_
        generalize hw12 : e_up w9 276 (33 * b + 20704) (w 276 (33 * b + 20704) + 1) = w12
        have f13 : e_fr (mCo p b) w w12 := e_fr.up f10 hw12 (by unfold mCo; omega)
        have hT14 : e_Has mTy w12 := e_Has.upr hT11 hw12 (nR_ORDER (b := b) (by omega)) (by omega)
        refine e_Ok.run (t' := (105, [(0, (1, 275)), (1, (0, p)), (2, (0, b)), (3, (0, x)), (4, (0, 33 * b + 20704)), (5, (0, w 276 (33 * b + 20704))), (6, (0, y6))], [(1, 275)], w12)) 1 rfl ?_
        refine e_Ok.getr (z := 276) rfl (el_o rfl) rfl rfl (by rw [← hw12]; exact (e_up_ne _ _ (Or.inl (by omega))).trans (by rw [← hw9]; exact (e_up_ne _ _ (Or.inl (by omega))).trans ((j3 275 0 (by first | exact no_79_0 | (unfold mCo; omega))).trans (e_Has.eq hT rfl)))) (by omega) ?_
        refine e_Ok.run (t' := (109, [(0, (1, 275)), (1, (0, p)), (2, (0, b)), (3, (0, x)), (4, (0, 33 * b + 20704)), (5, (0, w 276 (33 * b + 20704))), (6, (0, y6))], [(0, p), (1, 276)], w12)) 1 rfl ?_
        refine e_Ok.callS rfl (by omega) rfl rfl (c_392 (by omega)) (fun r15 w16 h17 => ?_)
        obtain ⟨rfl, rfl⟩ := h17
        show e_Ok 20 elay ecode eI (d + 1) 393 (112, [(0, (1, 275)), (1, (0, p)), (2, (0, b)), (3, (0, x)), (4, (0, 33 * b + 20704)), (5, (0, w 276 (33 * b + 20704))), (6, (0, y6))], [(0, 4 * p + 20576), (1, 276)], w12) _
        refine e_Ok.run (t' := (113, [(0, (1, 275)), (1, (0, p)), (2, (0, b)), (3, (0, x)), (4, (0, 33 * b + 20704)), (5, (0, w 276 (33 * b + 20704))), (6, (0, y6))], [(0, b), (0, 4 * p + 20576), (1, 276)], w12)) 1 rfl ?_
        refine e_Ok.ast rfl (el_o rfl) rfl rfl (by omega) ?_
        generalize hw18 : e_up w12 276 (4 * p + 20576) b = w18
        have f19 : e_fr (mCo p b) w w18 := e_fr.up f13 hw18 (by unfold mCo; omega)
        have hT20 : e_Has mTy w18 := e_Has.upr hT14 hw18 (nR_WHERE (p := p) (by omega)) (by omega)
        refine e_Ok.run (t' := (115, [(0, (1, 275)), (1, (0, p)), (2, (0, b)), (3, (0, x)), (4, (0, 33 * b + 20704)), (5, (0, w 276 (33 * b + 20704))), (6, (0, y6))], [(1, 275)], w18)) 1 rfl ?_
        refine e_Ok.getr (z := 276) rfl (el_o rfl) rfl rfl (by rw [← hw18]; exact (e_up_ne _ _ (Or.inl (by omega))).trans (by rw [← hw12]; exact (e_up_ne _ _ (Or.inl (by omega))).trans (by rw [← hw9]; exact (e_up_ne _ _ (Or.inl (by omega))).trans ((j3 275 0 (by first | exact no_79_0 | (unfold mCo; omega))).trans (e_Has.eq hT rfl))))) (by omega) ?_
        refine e_Ok.run (t' := (119, [(0, (1, 275)), (1, (0, p)), (2, (0, b)), (3, (0, x)), (4, (0, 33 * b + 20704)), (5, (0, w 276 (33 * b + 20704))), (6, (0, y6))], [(0, p), (1, 276)], w18)) 1 rfl ?_
        refine e_Ok.callS rfl (by omega) rfl rfl (c_392 (by omega)) (fun r21 w22 h23 => ?_)
        obtain ⟨rfl, rfl⟩ := h23
        show e_Ok 20 elay ecode eI (d + 1) 393 (122, [(0, (1, 275)), (1, (0, p)), (2, (0, b)), (3, (0, x)), (4, (0, 33 * b + 20704)), (5, (0, w 276 (33 * b + 20704))), (6, (0, y6))], [(0, 4 * p + 20576), (1, 276)], w18) _
        refine e_Ok.run (t' := (123, [(0, (1, 275)), (1, (0, p)), (2, (0, b)), (3, (0, x)), (4, (0, 33 * b + 20704)), (5, (0, w 276 (33 * b + 20704))), (6, (0, y6))], [(0, 3), (0, 4 * p + 20576), (1, 276)], w18)) 1 rfl ?_
        refine e_Ok.add (z := 4 * p + 20579) rfl (by omega) (by omega) ?_
        refine e_Ok.run (t' := (125, [(0, (1, 275)), (1, (0, p)), (2, (0, b)), (3, (0, x)), (4, (0, 33 * b + 20704)), (5, (0, w 276 (33 * b + 20704))), (6, (0, y6))], [(0, x), (0, 4 * p + 20579), (1, 276)], w18)) 1 rfl ?_
        refine e_Ok.ast rfl (el_o rfl) rfl rfl (by omega) ?_
        generalize hw24 : e_up w18 276 (4 * p + 20579) x = w24
        have f25 : e_fr (mCo p b) w w24 := e_fr.up f19 hw24 (by unfold mCo; omega)
        have hT26 : e_Has mTy w24 := e_Has.upr hT20 hw24 (nR_PART3 (p := p) (by omega)) (by omega)
        refine e_Ok.rets rfl rfl ?_
        exact ⟨rfl, f25, hT26, mOr.comes (k := y6) hOr hm' hmm (e_Has.orn hT) (e_Has.orw hT (by omega)) hp hb hw hh (by omega) (fun i g1 g2 => Eq.trans (by rw [← hw24]; exact (e_up_ne _ _ (Or.inr (by omega))).trans (by rw [← hw18]; exact (e_up_ne _ _ (Or.inr (by omega))).trans (by rw [← hw12]; exact (e_up_ne _ _ (Or.inr (by omega))).trans (by rw [← hw9]; exact (e_up_ne _ _ (Or.inr (by omega))).trans rfl)))) (j6 i g1 g2)) (by rw [← hw24]; exact (e_up_ne _ _ (Or.inr (by omega))).trans (by rw [← hw18]; exact (e_up_ne _ _ (Or.inr (by omega))).trans (by rw [← hw12]; exact (e_up_ne _ _ (Or.inr (by omega))).trans (by rw [← hw9]; exact e_up_eq _ _ _ _)))) (fun i g1 g2 => Eq.trans (by rw [← hw24]; exact (e_up_ne _ _ (Or.inr (by omega))).trans (by rw [← hw18]; exact (e_up_ne _ _ (Or.inr (by omega))).trans (by rw [← hw12]; exact (e_up_ne _ _ (Or.inr (by omega))).trans (by rw [← hw9]; exact (e_up_ne _ _ (Or.inr (by omega))).trans rfl)))) (j7 i g1 g2)) (by rw [← hw24]; exact (e_up_ne _ _ (Or.inr (by omega))).trans (by rw [← hw18]; exact (e_up_ne _ _ (Or.inr (by omega))).trans (by rw [← hw12]; exact e_up_eq _ _ _ _))) (by rw [← hw24]; exact (e_up_ne _ _ (Or.inr (by omega))).trans (by rw [← hw18]; exact e_up_eq _ _ _ _)) (fun k q1 q2 q3 => f25 276 k (orK_co hp q1 q2 q3))⟩
      · replace h8 : (y6 : Int) > 0 := by have q : ¬ ((y6 : Int) ≤ 0) := h8; omega
        refine e_Ok.run (t' := (29, [(0, (1, 275)), (1, (0, p)), (2, (0, b)), (3, (0, x)), (4, (0, 33 * b + 20704)), (5, (0, w 276 (33 * b + 20704))), (6, (0, y6))], [(1, 275)], v1)) 1 rfl ?_
        refine e_Ok.getr (z := 276) rfl (el_o rfl) rfl rfl ((j3 275 0 (by first | exact no_79_0 | (unfold mCo; omega))).trans (e_Has.eq hT rfl)) (by omega) ?_
        refine e_Ok.run (t' := (33, [(0, (1, 275)), (1, (0, p)), (2, (0, b)), (3, (0, x)), (4, (0, 33 * b + 20704)), (5, (0, w 276 (33 * b + 20704))), (6, (0, y6))], [(1, 275), (1, 276)], v1)) 1 rfl ?_
        refine e_Ok.getr (z := 276) rfl (el_o rfl) rfl rfl ((j3 275 0 (by first | exact no_79_0 | (unfold mCo; omega))).trans (e_Has.eq hT rfl)) (by omega) ?_
        refine e_Ok.run (t' := (40, [(0, (1, 275)), (1, (0, p)), (2, (0, b)), (3, (0, x)), (4, (0, 33 * b + 20704)), (5, (0, w 276 (33 * b + 20704))), (6, (0, y6))], [(0, y6), (0, 33 * b + 20704), (1, 276), (1, 276)], v1)) 2 rfl ?_
        refine e_Ok.add (z := 33 * b + y6 + 20704) rfl (by omega) (by omega) ?_
        have h27 := (e_Has.get j4 (c := 276) (k := 33 * b + y6 + 20704) (lo := 0) (hi := 31) (nR_ORD b (by omega) (by omega)) (by decide))
        refine e_Ok.ald (z := v1 276 (33 * b + y6 + 20704)) rfl (el_o rfl) rfl (by omega) rfl (by omega) ?_
        refine e_Ok.callS rfl (by omega) rfl rfl (c_392 (by omega)) (fun r28 w29 h30 => ?_)
        obtain ⟨rfl, rfl⟩ := h30
        show e_Ok 20 elay ecode eI (d + 1) 393 (45, [(0, (1, 275)), (1, (0, p)), (2, (0, b)), (3, (0, x)), (4, (0, 33 * b + 20704)), (5, (0, w 276 (33 * b + 20704))), (6, (0, y6))], [(0, 4 * v1 276 (33 * b + y6 + 20704) + 20576), (1, 276)], v1) _
        refine e_Ok.run (t' := (46, [(0, (1, 275)), (1, (0, p)), (2, (0, b)), (3, (0, x)), (4, (0, 33 * b + 20704)), (5, (0, w 276 (33 * b + 20704))), (6, (0, y6))], [(0, 3), (0, 4 * v1 276 (33 * b + y6 + 20704) + 20576), (1, 276)], v1)) 1 rfl ?_
        refine e_Ok.add (z := 4 * v1 276 (33 * b + y6 + 20704) + 20579) rfl (by omega) (by omega) ?_
        have h31 := (e_Has.get j4 (c := 276) (k := 4 * v1 276 (33 * b + y6 + 20704) + 20579) (lo := (-2147483648)) (hi := 2147483647) (nR_PART3 (p := v1 276 (33 * b + y6 + 20704)) (by omega)) (by decide))
        refine e_Ok.ald (z := v1 276 (4 * v1 276 (33 * b + y6 + 20704) + 20579)) rfl rfl rfl (by omega) rfl (by omega) ?_
        refine e_Ok.run (t' := (49, [(0, (1, 275)), (1, (0, p)), (2, (0, b)), (3, (0, x)), (4, (0, 33 * b + 20704)), (5, (0, w 276 (33 * b + 20704))), (6, (0, y6))], [(0, x), (0, v1 276 (4 * v1 276 (33 * b + y6 + 20704) + 20579))], v1)) 1 rfl ?_
        refine e_Ok.if2 rfl (fun h32 => ?_) (fun h32 => ?_)
        · replace h32 : (v1 276 (4 * v1 276 (33 * b + y6 + 20704) + 20579) : Int) ≥ x := h32
          refine e_Ok.run (t' := (81, [(0, (1, 275)), (1, (0, p)), (2, (0, b)), (3, (0, x)), (4, (0, 33 * b + 20704)), (5, (0, w 276 (33 * b + 20704))), (6, (0, y6))], [(1, 275)], v1)) 1 rfl ?_
          refine e_Ok.getr (z := 276) rfl (el_o rfl) rfl rfl ((j3 275 0 (by first | exact no_79_0 | (unfold mCo; omega))).trans (e_Has.eq hT rfl)) (by omega) ?_
          refine e_Ok.run (t' := (88, [(0, (1, 275)), (1, (0, p)), (2, (0, b)), (3, (0, x)), (4, (0, 33 * b + 20704)), (5, (0, w 276 (33 * b + 20704))), (6, (0, y6))], [(0, y6), (0, 33 * b + 20704), (1, 276)], v1)) 2 rfl ?_
          refine e_Ok.add (z := 33 * b + y6 + 20704) rfl (by omega) (by omega) ?_
          refine e_Ok.run (t' := (90, [(0, (1, 275)), (1, (0, p)), (2, (0, b)), (3, (0, x)), (4, (0, 33 * b + 20704)), (5, (0, w 276 (33 * b + 20704))), (6, (0, y6))], [(0, 1), (0, 33 * b + y6 + 20704), (1, 276)], v1)) 1 rfl ?_
          refine e_Ok.add (z := 33 * b + y6 + 20705) rfl (by omega) (by omega) ?_
          refine e_Ok.run (t' := (92, [(0, (1, 275)), (1, (0, p)), (2, (0, b)), (3, (0, x)), (4, (0, 33 * b + 20704)), (5, (0, w 276 (33 * b + 20704))), (6, (0, y6))], [(0, p), (0, 33 * b + y6 + 20705), (1, 276)], v1)) 1 rfl ?_
          refine e_Ok.ast rfl (el_o rfl) rfl rfl (by omega) ?_
          generalize hw33 : e_up v1 276 (33 * b + y6 + 20705) p = w33
          have f34 : e_fr (mCo p b) w w33 := e_fr.up j3 hw33 (by unfold mCo; omega)
          have hT35 : e_Has mTy w33 := e_Has.upr j4 hw33 (nR_ORD b (by omega) (by omega)) (by omega)
          refine e_Ok.run (t' := (94, [(0, (1, 275)), (1, (0, p)), (2, (0, b)), (3, (0, x)), (4, (0, 33 * b + 20704)), (5, (0, w 276 (33 * b + 20704))), (6, (0, y6))], [(1, 275)], w33)) 1 rfl ?_
          refine e_Ok.getr (z := 276) rfl (el_o rfl) rfl rfl (by rw [← hw33]; exact (e_up_ne _ _ (Or.inl (by omega))).trans ((j3 275 0 (by first | exact no_79_0 | (unfold mCo; omega))).trans (e_Has.eq hT rfl))) (by omega) ?_
          refine e_Ok.run (t' := (102, [(0, (1, 275)), (1, (0, p)), (2, (0, b)), (3, (0, x)), (4, (0, 33 * b + 20704)), (5, (0, w 276 (33 * b + 20704))), (6, (0, y6))], [(0, 1), (0, w 276 (33 * b + 20704)), (0, 33 * b + 20704), (1, 276)], w33)) 3 rfl ?_
          refine e_Ok.add (z := w 276 (33 * b + 20704) + 1) rfl (by omega) (by omega) ?_
          refine e_Ok.ast rfl (el_o rfl) rfl rfl (by omega) ?_
          generalize hw36 : e_up w33 276 (33 * b + 20704) (w 276 (33 * b + 20704) + 1) = w36
          have f37 : e_fr (mCo p b) w w36 := e_fr.up f34 hw36 (by unfold mCo; omega)
          have hT38 : e_Has mTy w36 := e_Has.upr hT35 hw36 (nR_ORDER (b := b) (by omega)) (by omega)
          refine e_Ok.run (t' := (105, [(0, (1, 275)), (1, (0, p)), (2, (0, b)), (3, (0, x)), (4, (0, 33 * b + 20704)), (5, (0, w 276 (33 * b + 20704))), (6, (0, y6))], [(1, 275)], w36)) 1 rfl ?_
          refine e_Ok.getr (z := 276) rfl (el_o rfl) rfl rfl (by rw [← hw36]; exact (e_up_ne _ _ (Or.inl (by omega))).trans (by rw [← hw33]; exact (e_up_ne _ _ (Or.inl (by omega))).trans ((j3 275 0 (by first | exact no_79_0 | (unfold mCo; omega))).trans (e_Has.eq hT rfl)))) (by omega) ?_
          refine e_Ok.run (t' := (109, [(0, (1, 275)), (1, (0, p)), (2, (0, b)), (3, (0, x)), (4, (0, 33 * b + 20704)), (5, (0, w 276 (33 * b + 20704))), (6, (0, y6))], [(0, p), (1, 276)], w36)) 1 rfl ?_
          refine e_Ok.callS rfl (by omega) rfl rfl (c_392 (by omega)) (fun r40 w41 h42 => ?_)
          obtain ⟨rfl, rfl⟩ := h42
          show e_Ok 20 elay ecode eI (d + 1) 393 (112, [(0, (1, 275)), (1, (0, p)), (2, (0, b)), (3, (0, x)), (4, (0, 33 * b + 20704)), (5, (0, w 276 (33 * b + 20704))), (6, (0, y6))], [(0, 4 * p + 20576), (1, 276)], w36) _
          refine e_Ok.run (t' := (113, [(0, (1, 275)), (1, (0, p)), (2, (0, b)), (3, (0, x)), (4, (0, 33 * b + 20704)), (5, (0, w 276 (33 * b + 20704))), (6, (0, y6))], [(0, b), (0, 4 * p + 20576), (1, 276)], w36)) 1 rfl ?_
          refine e_Ok.ast rfl (el_o rfl) rfl rfl (by omega) ?_
          generalize hw43 : e_up w36 276 (4 * p + 20576) b = w43
          have f44 : e_fr (mCo p b) w w43 := e_fr.up f37 hw43 (by unfold mCo; omega)
          have hT45 : e_Has mTy w43 := e_Has.upr hT38 hw43 (nR_WHERE (p := p) (by omega)) (by omega)
          refine e_Ok.run (t' := (115, [(0, (1, 275)), (1, (0, p)), (2, (0, b)), (3, (0, x)), (4, (0, 33 * b + 20704)), (5, (0, w 276 (33 * b + 20704))), (6, (0, y6))], [(1, 275)], w43)) 1 rfl ?_
          refine e_Ok.getr (z := 276) rfl (el_o rfl) rfl rfl (by rw [← hw43]; exact (e_up_ne _ _ (Or.inl (by omega))).trans (by rw [← hw36]; exact (e_up_ne _ _ (Or.inl (by omega))).trans (by rw [← hw33]; exact (e_up_ne _ _ (Or.inl (by omega))).trans ((j3 275 0 (by first | exact no_79_0 | (unfold mCo; omega))).trans (e_Has.eq hT rfl))))) (by omega) ?_
          refine e_Ok.run (t' := (119, [(0, (1, 275)), (1, (0, p)), (2, (0, b)), (3, (0, x)), (4, (0, 33 * b + 20704)), (5, (0, w 276 (33 * b + 20704))), (6, (0, y6))], [(0, p), (1, 276)], w43)) 1 rfl ?_
          refine e_Ok.callS rfl (by omega) rfl rfl (c_392 (by omega)) (fun r46 w47 h48 => ?_)
          obtain ⟨rfl, rfl⟩ := h48
          show e_Ok 20 elay ecode eI (d + 1) 393 (122, [(0, (1, 275)), (1, (0, p)), (2, (0, b)), (3, (0, x)), (4, (0, 33 * b + 20704)), (5, (0, w 276 (33 * b + 20704))), (6, (0, y6))], [(0, 4 * p + 20576), (1, 276)], w43) _
          refine e_Ok.run (t' := (123, [(0, (1, 275)), (1, (0, p)), (2, (0, b)), (3, (0, x)), (4, (0, 33 * b + 20704)), (5, (0, w 276 (33 * b + 20704))), (6, (0, y6))], [(0, 3), (0, 4 * p + 20576), (1, 276)], w43)) 1 rfl ?_
          refine e_Ok.add (z := 4 * p + 20579) rfl (by omega) (by omega) ?_
          refine e_Ok.run (t' := (125, [(0, (1, 275)), (1, (0, p)), (2, (0, b)), (3, (0, x)), (4, (0, 33 * b + 20704)), (5, (0, w 276 (33 * b + 20704))), (6, (0, y6))], [(0, x), (0, 4 * p + 20579), (1, 276)], w43)) 1 rfl ?_
          refine e_Ok.ast rfl (el_o rfl) rfl rfl (by omega) ?_
          generalize hw49 : e_up w43 276 (4 * p + 20579) x = w49
          have f50 : e_fr (mCo p b) w w49 := e_fr.up f44 hw49 (by unfold mCo; omega)
          have hT51 : e_Has mTy w49 := e_Has.upr hT45 hw49 (nR_PART3 (p := p) (by omega)) (by omega)
          refine e_Ok.rets rfl rfl ?_
          exact ⟨rfl, f50, hT51, mOr.comes (k := y6) hOr hm' hmm (e_Has.orn hT) (e_Has.orw hT (by omega)) hp hb hw hh (by omega) (fun i g1 g2 => Eq.trans (by rw [← hw49]; exact (e_up_ne _ _ (Or.inr (by omega))).trans (by rw [← hw43]; exact (e_up_ne _ _ (Or.inr (by omega))).trans (by rw [← hw36]; exact (e_up_ne _ _ (Or.inr (by omega))).trans (by rw [← hw33]; exact (e_up_ne _ _ (Or.inr (by omega))).trans rfl)))) (j6 i g1 g2)) (by rw [← hw49]; exact (e_up_ne _ _ (Or.inr (by omega))).trans (by rw [← hw43]; exact (e_up_ne _ _ (Or.inr (by omega))).trans (by rw [← hw36]; exact (e_up_ne _ _ (Or.inr (by omega))).trans (by rw [← hw33]; exact e_up_eq _ _ _ _)))) (fun i g1 g2 => Eq.trans (by rw [← hw49]; exact (e_up_ne _ _ (Or.inr (by omega))).trans (by rw [← hw43]; exact (e_up_ne _ _ (Or.inr (by omega))).trans (by rw [← hw36]; exact (e_up_ne _ _ (Or.inr (by omega))).trans (by rw [← hw33]; exact (e_up_ne _ _ (Or.inr (by omega))).trans rfl)))) (j7 i g1 g2)) (by rw [← hw49]; exact (e_up_ne _ _ (Or.inr (by omega))).trans (by rw [← hw43]; exact (e_up_ne _ _ (Or.inr (by omega))).trans (by rw [← hw36]; exact e_up_eq _ _ _ _))) (by rw [← hw49]; exact (e_up_ne _ _ (Or.inr (by omega))).trans (by rw [← hw43]; exact e_up_eq _ _ _ _)) (fun k q1 q2 q3 => f50 276 k (orK_co hp q1 q2 q3))⟩
        · replace h32 : (v1 276 (4 * v1 276 (33 * b + y6 + 20704) + 20579) : Int) < x := by have q : ¬ ((v1 276 (4 * v1 276 (33 * b + y6 + 20704) + 20579) : Int) ≥ x) := h32; omega
          refine e_Ok.run (t' := (53, [(0, (1, 275)), (1, (0, p)), (2, (0, b)), (3, (0, x)), (4, (0, 33 * b + 20704)), (5, (0, w 276 (33 * b + 20704))), (6, (0, y6))], [(1, 275)], v1)) 1 rfl ?_
          refine e_Ok.getr (z := 276) rfl (el_o rfl) rfl rfl ((j3 275 0 (by first | exact no_79_0 | (unfold mCo; omega))).trans (e_Has.eq hT rfl)) (by omega) ?_
          refine e_Ok.run (t' := (60, [(0, (1, 275)), (1, (0, p)), (2, (0, b)), (3, (0, x)), (4, (0, 33 * b + 20704)), (5, (0, w 276 (33 * b + 20704))), (6, (0, y6))], [(0, y6), (0, 33 * b + 20704), (1, 276)], v1)) 2 rfl ?_
          refine e_Ok.add (z := 33 * b + y6 + 20704) rfl (by omega) (by omega) ?_
          refine e_Ok.run (t' := (62, [(0, (1, 275)), (1, (0, p)), (2, (0, b)), (3, (0, x)), (4, (0, 33 * b + 20704)), (5, (0, w 276 (33 * b + 20704))), (6, (0, y6))], [(0, 1), (0, 33 * b + y6 + 20704), (1, 276)], v1)) 1 rfl ?_
          refine e_Ok.add (z := 33 * b + y6 + 20705) rfl (by omega) (by omega) ?_
          refine e_Ok.run (t' := (64, [(0, (1, 275)), (1, (0, p)), (2, (0, b)), (3, (0, x)), (4, (0, 33 * b + 20704)), (5, (0, w 276 (33 * b + 20704))), (6, (0, y6))], [(1, 275), (0, 33 * b + y6 + 20705), (1, 276)], v1)) 1 rfl ?_
          refine e_Ok.getr (z := 276) rfl (el_o rfl) rfl rfl ((j3 275 0 (by first | exact no_79_0 | (unfold mCo; omega))).trans (e_Has.eq hT rfl)) (by omega) ?_
          refine e_Ok.run (t' := (71, [(0, (1, 275)), (1, (0, p)), (2, (0, b)), (3, (0, x)), (4, (0, 33 * b + 20704)), (5, (0, w 276 (33 * b + 20704))), (6, (0, y6))], [(0, y6), (0, 33 * b + 20704), (1, 276), (0, 33 * b + y6 + 20705), (1, 276)], v1)) 2 rfl ?_
          refine e_Ok.add (z := 33 * b + y6 + 20704) rfl (by omega) (by omega) ?_
          refine e_Ok.ald (z := v1 276 (33 * b + y6 + 20704)) rfl (el_o rfl) rfl (by omega) rfl (by omega) ?_
          refine e_Ok.ast rfl (el_o rfl) rfl rfl (by omega) ?_
          generalize hw52 : e_up v1 276 (33 * b + y6 + 20705) (v1 276 (33 * b + y6 + 20704)) = w52
          have f53 : e_fr (mCo p b) w w52 := e_fr.up j3 hw52 (by unfold mCo; omega)
          have hT54 : e_Has mTy w52 := e_Has.upr j4 hw52 (nR_ORD b (by omega) (by omega)) (by omega)
          refine e_Ok.inc (z := y6 - 1) rfl rfl (by omega) (by omega) ?_
          show e_Ok 20 elay ecode eI (d + 1) 393 (77, [(6, (0, y6 - 1)), (0, (1, 275)), (1, (0, p)), (2, (0, b)), (3, (0, x)), (4, (0, 33 * b + 20704)), (5, (0, w 276 (33 * b + 20704)))], [], w52) _
          refine e_Ok.run (t' := (23, [(6, (0, y6 - 1)), (0, (1, 275)), (1, (0, p)), (2, (0, b)), (3, (0, x)), (4, (0, 33 * b + 20704)), (5, (0, w 276 (33 * b + 20704)))], [], w52)) 1 rfl ?_
          refine e_Ok.sub eAlk (e_sub_of rfl ?_) (ih2 (y6 - 1) w52 ⟨f53, hT54, by omega, (fun i g1 g2 => Eq.trans (by rw [← hw52]; exact (e_up_ne _ _ (Or.inr (by omega))).trans rfl) (j6 i g1 (by omega))), (fun i g1 g2 => Decidable.byCases (p := i = y6 + 1) (fun e => by rw [e, show 33 * b + (y6 + 1) + 20704 = 33 * b + y6 + 20705 by omega, show 33 * b + (y6 + 1) + 20703 = 33 * b + y6 + 20704 by omega]; exact Eq.trans (by rw [← hw52]; exact e_up_eq _ _ _ _) (j6 y6 (by omega) (by omega))) (fun e => Eq.trans (by rw [← hw52]; exact (e_up_ne _ _ (Or.inr (by omega))).trans rfl) (j7 i (by omega) g2)))⟩ (by omega))
          exact ⟨rfl, rfl, rfl, rfl, rfl, rfl, rfl, trivial⟩
  refine e_Ok.sub eAlk (e_sub_of rfl ?_) (hL1 (32 + 1 : Int).toNat (w 276 (33 * b + 20704)) w ⟨(e_fr.refl w), hT, by omega, (fun i g1 g2 => rfl), (fun i g1 g2 => by omega)⟩ (by omega))
  exact ⟨rfl, rfl, rfl, rfl, rfl, rfl, rfl, trivial⟩
set_option maxHeartbeats 4000000 in
theorem c_289 {d : Nat} (hd : 24 ≤ d) {w : eW} (hT : e_Has mTy w) {p1 p2 p3 : Int} (g1 : -2147483648 ≤ p1 ∧ p1 ≤ 2147483647) (g2 : -2147483648 ≤ p2 ∧ p2 ≤ 2147483647) (g3 : -2147483648 ≤ p3 ∧ p3 ≤ 2147483647) (hOr : mOr w (w 275 40)) : e_Ok 20 elay ecode eI d 289 (0, [(0, (1, 275)), (1, (0, p1)), (2, (0, p2)), (3, (0, p3))], [], w) (fun r w' => ∃ z : Int, r = [(0, z)] ∧ (w = w' ∨ (w 275 3 = 0 ∧ e_fr mPr w w' ∧ e_Has mTy w' ∧ w' 275 40 = w 275 40 + 1 ∧ mOr w' (w' 275 40)))) := by
  obtain ⟨d, rfl⟩ : ∃ e, d = e + 1 := ⟨d - 1, by omega⟩
  have hpp := e_Has.get hT (c := 275) (k := 40) (lo := 0) (hi := 32) rfl (by decide)
  refine e_Ok.run (t' := (4, [(0, (1, 275)), (1, (0, p1)), (2, (0, p2)), (3, (0, p3))], [(1, 275), (4, 0), (4, p1)], w)) 4 rfl ?_
  have h1 := (e_Has.get hT (c := 275) (k := 30) (lo := 0) (hi := 4) rfl (by decide))
  refine e_Ok.getf (z := w 275 30) rfl (el_o rfl) rfl rfl rfl (by omega) ?_
  refine e_Ok.run (t' := (8, [(0, (1, 275)), (1, (0, p1)), (2, (0, p2)), (3, (0, p3))], [(0, 1), (0, w 275 30), (4, 0), (4, p1)], w)) 1 rfl ?_
  refine e_Ok.sub' (z := w 275 30 - 1) rfl (by omega) (by omega) ?_
  refine e_Ok.run (t' := (10, [(0, (1, 275)), (1, (0, p1)), (2, (0, p2)), (3, (0, p3))], [(4, w 275 30 - 1), (4, 0), (4, p1)], w)) 1 rfl ?_
  refine e_Ok.callS rfl (by omega) rfl rfl (c_266) (fun r2 w3 h4 => ?_)
  obtain ⟨z5, rfl, rfl, q6⟩ := h4
  obtain ⟨rfl, q6⟩ | ⟨rfl, q6⟩ := q6
  · show e_Ok 20 elay ecode eI (d + 1) 289 (13, [(0, (1, 275)), (1, (0, p1)), (2, (0, p2)), (3, (0, p3))], [(0, 1)], w) _
    refine e_Ok.if1 rfl (fun h7 => ?_) (fun h7 => ?_)
    · replace h7 : (1 : Int) = 0 := h7
      exfalso; omega
    · replace h7 : (1 : Int) ≠ 0 := by have q : ¬ ((1 : Int) = 0) := h7; omega
      refine e_Ok.run (t' := (20, [(0, (1, 275)), (1, (0, p1)), (2, (0, p2)), (3, (0, p3))], [(1, 275), (4, 0), (4, p2)], w)) 4 rfl ?_
      refine e_Ok.getr (z := 303) rfl (el_o rfl) rfl rfl (e_Has.eq hT rfl) (by omega) ?_
      refine e_Ok.run (t' := (24, [(0, (1, 275)), (1, (0, p1)), (2, (0, p2)), (3, (0, p3))], [(0, p1), (1, 303), (4, 0), (4, p2)], w)) 1 rfl ?_
      have h8 := (e_Has.get hT (c := 303) (k := p1) (lo := 0) (hi := 16000) rfl (by decide))
      refine e_Ok.ald (z := w 303 p1) rfl (el_o rfl) rfl (by omega) rfl (by omega) ?_
      refine e_Ok.run (t' := (26, [(0, (1, 275)), (1, (0, p1)), (2, (0, p2)), (3, (0, p3))], [(4, w 303 p1), (4, 0), (4, p2)], w)) 1 rfl ?_
      refine e_Ok.callS rfl (by omega) rfl rfl (c_266) (fun r9 w10 h11 => ?_)
      obtain ⟨z12, rfl, rfl, q13⟩ := h11
      obtain ⟨rfl, q13⟩ | ⟨rfl, q13⟩ := q13
      · show e_Ok 20 elay ecode eI (d + 1) 289 (29, [(0, (1, 275)), (1, (0, p1)), (2, (0, p2)), (3, (0, p3))], [(0, 1)], w) _
        refine e_Ok.if1 rfl (fun h14 => ?_) (fun h14 => ?_)
        · replace h14 : (1 : Int) = 0 := h14
          exfalso; omega
        · replace h14 : (1 : Int) ≠ 0 := by have q : ¬ ((1 : Int) = 0) := h14; omega
          refine e_Ok.run (t' := (38, [(0, (1, 275)), (1, (0, p1)), (2, (0, p2)), (3, (0, p3))], [(4, 800), (4, 0), (4, p3)], w)) 4 rfl ?_
          refine e_Ok.callS rfl (by omega) rfl rfl (c_266) (fun r15 w16 h17 => ?_)
          obtain ⟨z18, rfl, rfl, q19⟩ := h17
          obtain ⟨rfl, q19⟩ | ⟨rfl, q19⟩ := q19
          · show e_Ok 20 elay ecode eI (d + 1) 289 (41, [(0, (1, 275)), (1, (0, p1)), (2, (0, p2)), (3, (0, p3))], [(0, 1)], w) _
            refine e_Ok.if1 rfl (fun h20 => ?_) (fun h20 => ?_)
            · replace h20 : (1 : Int) ≠ 0 := h20
              refine e_Ok.run (t' := (47, [(0, (1, 275)), (1, (0, p1)), (2, (0, p2)), (3, (0, p3))], [(1, 275)], w)) 1 rfl ?_
              have h21 := (e_Has.get hT (c := 275) (k := 3) (lo := 0) (hi := 1) rfl (by decide))
              refine e_Ok.getf (z := w 275 3) rfl (el_o rfl) rfl rfl rfl (by omega) ?_
              refine e_Ok.if1 rfl (fun h22 => ?_) (fun h22 => ?_)
              · replace h22 : (w 275 3 : Int) = 0 := h22
                refine e_Ok.run (t' := (57, [(0, (1, 275)), (1, (0, p1)), (2, (0, p2)), (3, (0, p3))], [(1, 275)], w)) 1 rfl ?_
                refine e_Ok.getf (z := w 275 40) rfl (el_o rfl) rfl rfl rfl (by omega) ?_
                refine e_Ok.run (t' := (62, [(0, (1, 275)), (1, (0, p1)), (2, (0, p2)), (3, (0, p3))], [(0, 32), (0, w 275 40)], w)) 1 rfl ?_
                refine e_Ok.if2 rfl (fun h23 => ?_) (fun h23 => ?_)
                · replace h23 : (w 275 40 : Int) ≠ 32 := h23
                  refine e_Ok.run (t' := (69, [(0, (1, 275)), (1, (0, p1)), (2, (0, p2)), (3, (0, p3))], [(1, 275)], w)) 1 rfl ?_
                  refine e_Ok.getr (z := 309) rfl (el_o rfl) rfl rfl (e_Has.eq hT rfl) (by omega) ?_
                  refine e_Ok.run (t' := (73, [(0, (1, 275)), (1, (0, p1)), (2, (0, p2)), (3, (0, p3))], [(1, 275), (1, 309)], w)) 1 rfl ?_
                  refine e_Ok.getf (z := w 275 40) rfl (el_o rfl) rfl rfl rfl (by omega) ?_
                  refine e_Ok.run (t' := (77, [(0, (1, 275)), (1, (0, p1)), (2, (0, p2)), (3, (0, p3))], [(0, p3), (0, w 275 40), (1, 309)], w)) 1 rfl ?_
                  refine e_Ok.ast rfl (el_o rfl) rfl rfl (by omega) ?_
                  generalize hw24 : e_up w 309 (w 275 40) p3 = w24
                  have f25 : e_fr mPr w w24 := e_fr.up (e_fr.refl w) hw24 (by unfold mPr; omega)
                  have hT26 : e_Has mTy w24 := e_Has.upr hT hw24 rfl (by omega)
                  refine e_Ok.run (t' := (80, [(0, (1, 275)), (1, (0, p1)), (2, (0, p2)), (3, (0, p3))], [(1, 275), (1, 275)], w24)) 2 rfl ?_
                  refine e_Ok.getf (z := w 275 40) rfl (el_o rfl) rfl rfl (by rw [← hw24]; exact (e_up_ne _ _ (Or.inl (by omega))).trans rfl) (by omega) ?_
                  refine e_Ok.run (t' := (85, [(0, (1, 275)), (1, (0, p1)), (2, (0, p2)), (3, (0, p3))], [(0, p2), (0, p1), (0, w 275 40), (1, 275)], w24)) 2 rfl ?_
                  refine e_Ok.callV rfl (by omega) rfl rfl rfl rfl (c_393 (by omega) hT26 (m := w 275 40) (m' := w 275 40 + 1) (mOr.fr hOr (by omega) (e_Has.orn hT) (e_Has.orw hT (by omega)) (fun k q => (by rw [← hw24]; exact (e_up_ne _ _ (Or.inl (by omega))).trans rfl))) (by omega) (Or.inr ⟨rfl, rfl⟩) (by omega) (by omega) (by omega) (fun e => by omega) (fun x g1 g2 e => by have e0 : w24 276 (36 * x + 17) = w 276 (36 * x + 17) := (by rw [← hw24]; exact (e_up_ne _ _ (Or.inl (by omega))).trans rfl); have := (hOr.2.2.2 x g1 g2 (by omega)).1; omega)) (fun r27 w28 h29 => ?_)
                  obtain ⟨rfl, q30, q30T, q30o⟩ := h29
                  have f31 : e_fr mPr w w28 := e_fr.trans f25 (e_fr.mono q30 (fun c k q => by unfold mCo at q; unfold mPr; omega))
                  show e_Ok 20 elay ecode eI (d + 1) 289 (88, [(0, (1, 275)), (1, (0, p1)), (2, (0, p2)), (3, (0, p3))], [], w28) _
                  refine e_Ok.run (t' := (90, [(0, (1, 275)), (1, (0, p1)), (2, (0, p2)), (3, (0, p3))], [(1, 275), (1, 275)], w28)) 2 rfl ?_
                  refine e_Ok.getf (z := w 275 40) rfl (el_o rfl) rfl rfl ((q30 275 40 (by first | exact no_79_0 | (unfold mCo; omega))).trans (by rw [← hw24]; exact (e_up_ne _ _ (Or.inl (by omega))).trans rfl)) (by omega) ?_
                  refine e_Ok.run (t' := (94, [(0, (1, 275)), (1, (0, p1)), (2, (0, p2)), (3, (0, p3))], [(0, 1), (0, w 275 40), (1, 275)], w28)) 1 rfl ?_
                  refine e_Ok.add (z := w 275 40 + 1) rfl (by omega) (by omega) ?_
                  refine e_Ok.putf rfl (el_o rfl) rfl rfl ?_
                  generalize hw32 : e_up w28 275 40 (w 275 40 + 1) = w32
                  have f33 : e_fr mPr w w32 := e_fr.up f31 hw32 (by unfold mPr; omega)
                  have hT34 : e_Has mTy w32 := e_Has.upr q30T hw32 rfl (by omega)
                  refine e_Ok.run (t' := (99, [(0, (1, 275)), (1, (0, p1)), (2, (0, p2)), (3, (0, p3))], [(1, 275)], w32)) 1 rfl ?_
                  refine e_Ok.getf (z := w 275 40 + 1) rfl (el_o rfl) rfl rfl (by rw [← hw32]; exact e_up_eq _ _ _ _) (by omega) ?_
                  refine e_Ok.run (t' := (103, [(0, (1, 275)), (1, (0, p1)), (2, (0, p2)), (3, (0, p3))], [(0, 1), (0, w 275 40 + 1)], w32)) 1 rfl ?_
                  refine e_Ok.sub' (z := w 275 40) rfl (by omega) (by omega) ?_
                  refine e_Ok.rets rfl rfl ?_
                  exact ⟨_, rfl, Or.inr ⟨by omega, f33, hT34, (by rw [← hw32]; exact e_up_eq _ _ _ _), by rw [show w32 275 40 = w 275 40 + 1 from (by rw [← hw32]; exact e_up_eq _ _ _ _)]; exact mOr.fr q30o (by omega) (e_Has.orn q30T) (e_Has.orw q30T (by omega)) (fun k q => (by rw [← hw32]; exact (e_up_ne _ _ (Or.inl (by omega))).trans rfl))⟩⟩
                · replace h23 : (w 275 40 : Int) = 32 := by have q : ¬ ((w 275 40 : Int) ≠ 32) := h23; omega
                  refine e_Ok.run (t' := (67, [(0, (1, 275)), (1, (0, p1)), (2, (0, p2)), (3, (0, p3))], [(0, (-3))], w)) 1 rfl ?_
                  refine e_Ok.rets rfl rfl ?_
                  exact ⟨_, rfl, Or.inl rfl⟩
              · replace h22 : (w 275 3 : Int) ≠ 0 := by have q : ¬ ((w 275 3 : Int) = 0) := h22; omega
                refine e_Ok.run (t' := (55, [(0, (1, 275)), (1, (0, p1)), (2, (0, p2)), (3, (0, p3))], [(0, (-2))], w)) 1 rfl ?_
                refine e_Ok.rets rfl rfl ?_
                exact ⟨_, rfl, Or.inl rfl⟩
            · replace h20 : (1 : Int) = 0 := by have q : ¬ ((1 : Int) ≠ 0) := h20; omega
              exfalso; omega
          · show e_Ok 20 elay ecode eI (d + 1) 289 (41, [(0, (1, 275)), (1, (0, p1)), (2, (0, p2)), (3, (0, p3))], [(0, 0)], w) _
            refine e_Ok.if1 rfl (fun h35 => ?_) (fun h35 => ?_)
            · replace h35 : (0 : Int) ≠ 0 := h35
              exfalso; omega
            · replace h35 : (0 : Int) = 0 := by have q : ¬ ((0 : Int) ≠ 0) := h35; omega
              refine e_Ok.run (t' := (45, [(0, (1, 275)), (1, (0, p1)), (2, (0, p2)), (3, (0, p3))], [(0, (-1))], w)) 1 rfl ?_
              refine e_Ok.rets rfl rfl ?_
              exact ⟨_, rfl, Or.inl rfl⟩
      · show e_Ok 20 elay ecode eI (d + 1) 289 (29, [(0, (1, 275)), (1, (0, p1)), (2, (0, p2)), (3, (0, p3))], [(0, 0)], w) _
        refine e_Ok.if1 rfl (fun h36 => ?_) (fun h36 => ?_)
        · replace h36 : (0 : Int) = 0 := h36
          refine e_Ok.run (t' := (45, [(0, (1, 275)), (1, (0, p1)), (2, (0, p2)), (3, (0, p3))], [(0, (-1))], w)) 1 rfl ?_
          refine e_Ok.rets rfl rfl ?_
          exact ⟨_, rfl, Or.inl rfl⟩
        · replace h36 : (0 : Int) ≠ 0 := by have q : ¬ ((0 : Int) = 0) := h36; omega
          exfalso; omega
  · show e_Ok 20 elay ecode eI (d + 1) 289 (13, [(0, (1, 275)), (1, (0, p1)), (2, (0, p2)), (3, (0, p3))], [(0, 0)], w) _
    refine e_Ok.if1 rfl (fun h37 => ?_) (fun h37 => ?_)
    · replace h37 : (0 : Int) = 0 := h37
      refine e_Ok.run (t' := (45, [(0, (1, 275)), (1, (0, p1)), (2, (0, p2)), (3, (0, p3))], [(0, (-1))], w)) 1 rfl ?_
      refine e_Ok.rets rfl rfl ?_
      exact ⟨_, rfl, Or.inl rfl⟩
    · replace h37 : (0 : Int) ≠ 0 := by have q : ¬ ((0 : Int) = 0) := h37; omega
      exfalso; omega
theorem no_79_1 {p : Int} {k : Int} : ¬ mPa p 275 k := by unfold mPa; omega
set_option maxHeartbeats 4000000 in
theorem c_290 {d : Nat} (hd : 24 ≤ d) {w : eW} (hT : e_Has mTy w) {p1 p2 p3 : Int} (g1 : -2147483648 ≤ p1 ∧ p1 ≤ 2147483647) (g2 : -2147483648 ≤ p2 ∧ p2 ≤ 2147483647) (g3 : -2147483648 ≤ p3 ∧ p3 ≤ 2147483647) (hOr : mOr w (w 275 40)) : e_Ok 20 elay ecode eI d 290 (0, [(0, (1, 275)), (1, (0, p1)), (2, (0, p2)), (3, (0, p3))], [], w) (fun r w' => ∃ z : Int, r = [(0, z)] ∧ (w = w' ∨ (w 275 3 = 0 ∧ e_fr mPr w w' ∧ e_Has mTy w' ∧ w' 275 40 = w 275 40 + 1 ∧ mOr w' (w' 275 40)))) := by
  obtain ⟨d, rfl⟩ : ∃ e, d = e + 1 := ⟨d - 1, by omega⟩
  have hpp := e_Has.get hT (c := 275) (k := 40) (lo := 0) (hi := 32) rfl (by decide)
  refine e_Ok.run (t' := (2, [(0, (1, 275)), (1, (0, p1)), (2, (0, p2)), (3, (0, p3))], [(0, p2), (0, p1)], w)) 2 rfl ?_
  refine e_Ok.callS rfl (by omega) rfl rfl (c_272 (by omega)) (fun r1 w2 h3 => ?_)
  obtain ⟨z4, rfl, rfl, q5⟩ := h3
  obtain ⟨rfl, q5⟩ | ⟨rfl, q5⟩ := q5
  · show e_Ok 20 elay ecode eI (d + 1) 290 (5, [(0, (1, 275)), (1, (0, p1)), (2, (0, p2)), (3, (0, p3))], [(0, 1)], w) _
    refine e_Ok.if1 rfl (fun h6 => ?_) (fun h6 => ?_)
    · replace h6 : (1 : Int) = 0 := h6
      exfalso; omega
    · replace h6 : (1 : Int) ≠ 0 := by have q : ¬ ((1 : Int) = 0) := h6; omega
      refine e_Ok.run (t' := (14, [(0, (1, 275)), (1, (0, p1)), (2, (0, p2)), (3, (0, p3))], [(4, 800), (4, 0), (4, p3)], w)) 4 rfl ?_
      refine e_Ok.callS rfl (by omega) rfl rfl (c_266) (fun r7 w8 h9 => ?_)
      obtain ⟨z10, rfl, rfl, q11⟩ := h9
      obtain ⟨rfl, q11⟩ | ⟨rfl, q11⟩ := q11
      · show e_Ok 20 elay ecode eI (d + 1) 290 (17, [(0, (1, 275)), (1, (0, p1)), (2, (0, p2)), (3, (0, p3))], [(0, 1)], w) _
        refine e_Ok.if1 rfl (fun h12 => ?_) (fun h12 => ?_)
        · replace h12 : (1 : Int) ≠ 0 := h12
          refine e_Ok.run (t' := (23, [(0, (1, 275)), (1, (0, p1)), (2, (0, p2)), (3, (0, p3))], [(1, 275)], w)) 1 rfl ?_
          have h13 := (e_Has.get hT (c := 275) (k := 3) (lo := 0) (hi := 1) rfl (by decide))
          refine e_Ok.getf (z := w 275 3) rfl (el_o rfl) rfl rfl rfl (by omega) ?_
          refine e_Ok.if1 rfl (fun h14 => ?_) (fun h14 => ?_)
          · replace h14 : (w 275 3 : Int) = 0 := h14
            refine e_Ok.run (t' := (33, [(0, (1, 275)), (1, (0, p1)), (2, (0, p2)), (3, (0, p3))], [(1, 275)], w)) 1 rfl ?_
            refine e_Ok.getf (z := w 275 40) rfl (el_o rfl) rfl rfl rfl (by omega) ?_
            refine e_Ok.run (t' := (38, [(0, (1, 275)), (1, (0, p1)), (2, (0, p2)), (3, (0, p3))], [(0, 32), (0, w 275 40)], w)) 1 rfl ?_
            refine e_Ok.if2 rfl (fun h15 => ?_) (fun h15 => ?_)
            · replace h15 : (w 275 40 : Int) ≠ 32 := h15
              refine e_Ok.run (t' := (45, [(0, (1, 275)), (1, (0, p1)), (2, (0, p2)), (3, (0, p3))], [(1, 275)], w)) 1 rfl ?_
              refine e_Ok.getr (z := 309) rfl (el_o rfl) rfl rfl (e_Has.eq hT rfl) (by omega) ?_
              refine e_Ok.run (t' := (49, [(0, (1, 275)), (1, (0, p1)), (2, (0, p2)), (3, (0, p3))], [(1, 275), (1, 309)], w)) 1 rfl ?_
              refine e_Ok.getf (z := w 275 40) rfl (el_o rfl) rfl rfl rfl (by omega) ?_
              refine e_Ok.run (t' := (53, [(0, (1, 275)), (1, (0, p1)), (2, (0, p2)), (3, (0, p3))], [(0, p3), (0, w 275 40), (1, 309)], w)) 1 rfl ?_
              refine e_Ok.ast rfl (el_o rfl) rfl rfl (by omega) ?_
              generalize hw16 : e_up w 309 (w 275 40) p3 = w16
              have f17 : e_fr mPr w w16 := e_fr.up (e_fr.refl w) hw16 (by unfold mPr; omega)
              have hT18 : e_Has mTy w16 := e_Has.upr hT hw16 rfl (by omega)
              refine e_Ok.run (t' := (56, [(0, (1, 275)), (1, (0, p1)), (2, (0, p2)), (3, (0, p3))], [(1, 275), (1, 275)], w16)) 2 rfl ?_
              refine e_Ok.getf (z := w 275 40) rfl (el_o rfl) rfl rfl (by rw [← hw16]; exact (e_up_ne _ _ (Or.inl (by omega))).trans rfl) (by omega) ?_
              refine e_Ok.run (t' := (61, [(0, (1, 275)), (1, (0, p1)), (2, (0, p2)), (3, (0, p3))], [(0, p2), (0, p1), (0, w 275 40), (1, 275)], w16)) 2 rfl ?_
              refine e_Ok.callV rfl (by omega) rfl rfl rfl rfl (c_394 (by omega) hT18 (by omega) (by omega) (by omega)) (fun r19 w20 h21 => ?_)
              obtain ⟨rfl, q22, q22T, q22w⟩ := h21
              have f23 : e_fr mPr w w20 := e_fr.trans f17 (e_fr.mono q22 (fun c k q => by unfold mPa at q; unfold mPr; omega))
              show e_Ok 20 elay ecode eI (d + 1) 290 (64, [(0, (1, 275)), (1, (0, p1)), (2, (0, p2)), (3, (0, p3))], [], w20) _
              refine e_Ok.run (t' := (66, [(0, (1, 275)), (1, (0, p1)), (2, (0, p2)), (3, (0, p3))], [(1, 275), (1, 275)], w20)) 2 rfl ?_
              refine e_Ok.getf (z := w 275 40) rfl (el_o rfl) rfl rfl ((q22 275 40 (by first | exact no_79_1 | (unfold mPa; omega))).trans (by rw [← hw16]; exact (e_up_ne _ _ (Or.inl (by omega))).trans rfl)) (by omega) ?_
              refine e_Ok.run (t' := (70, [(0, (1, 275)), (1, (0, p1)), (2, (0, p2)), (3, (0, p3))], [(0, 1), (0, w 275 40), (1, 275)], w20)) 1 rfl ?_
              refine e_Ok.add (z := w 275 40 + 1) rfl (by omega) (by omega) ?_
              refine e_Ok.putf rfl (el_o rfl) rfl rfl ?_
              generalize hw24 : e_up w20 275 40 (w 275 40 + 1) = w24
              have f25 : e_fr mPr w w24 := e_fr.up f23 hw24 (by unfold mPr; omega)
              have hT26 : e_Has mTy w24 := e_Has.upr q22T hw24 rfl (by omega)
              refine e_Ok.run (t' := (75, [(0, (1, 275)), (1, (0, p1)), (2, (0, p2)), (3, (0, p3))], [(1, 275)], w24)) 1 rfl ?_
              refine e_Ok.getf (z := w 275 40 + 1) rfl (el_o rfl) rfl rfl (by rw [← hw24]; exact e_up_eq _ _ _ _) (by omega) ?_
              refine e_Ok.run (t' := (79, [(0, (1, 275)), (1, (0, p1)), (2, (0, p2)), (3, (0, p3))], [(0, 1), (0, w 275 40 + 1)], w24)) 1 rfl ?_
              refine e_Ok.sub' (z := w 275 40) rfl (by omega) (by omega) ?_
              refine e_Ok.rets rfl rfl ?_
              exact ⟨_, rfl, Or.inr ⟨by omega, f25, hT26, (by rw [← hw24]; exact e_up_eq _ _ _ _), by rw [show w24 275 40 = w 275 40 + 1 from (by rw [← hw24]; exact e_up_eq _ _ _ _)]; exact mOr.fr (mOr.lies (m' := w 275 40 + 1) (p := w 275 40) (mOr.fr hOr (by omega) (e_Has.orn hT) (e_Has.orw hT (by omega)) (fun k q => (by rw [← hw16]; exact (e_up_ne _ _ (Or.inl (by omega))).trans rfl))) (by omega) (Or.inr ⟨rfl, rfl⟩) (e_Has.orn hT18) (e_Has.orw hT18 (by omega)) (by omega) (fun e => by omega) (fun x g1 g2 e => by have e0 : w16 276 (36 * x + 17) = w 276 (36 * x + 17) := (by rw [← hw16]; exact (e_up_ne _ _ (Or.inl (by omega))).trans rfl); have := (hOr.2.2.2 x g1 g2 (by omega)).1; omega) q22w (fun k q1 q2 => q22 276 k (orK_pa (by omega) q1 q2))) (by omega) (e_Has.orn q22T) (e_Has.orw q22T (by omega)) (fun k q => (by rw [← hw24]; exact (e_up_ne _ _ (Or.inl (by omega))).trans rfl))⟩⟩
            · replace h15 : (w 275 40 : Int) = 32 := by have q : ¬ ((w 275 40 : Int) ≠ 32) := h15; omega
              refine e_Ok.run (t' := (43, [(0, (1, 275)), (1, (0, p1)), (2, (0, p2)), (3, (0, p3))], [(0, (-3))], w)) 1 rfl ?_
              refine e_Ok.rets rfl rfl ?_
              exact ⟨_, rfl, Or.inl rfl⟩
          · replace h14 : (w 275 3 : Int) ≠ 0 := by have q : ¬ ((w 275 3 : Int) = 0) := h14; omega
            refine e_Ok.run (t' := (31, [(0, (1, 275)), (1, (0, p1)), (2, (0, p2)), (3, (0, p3))], [(0, (-2))], w)) 1 rfl ?_
            refine e_Ok.rets rfl rfl ?_
            exact ⟨_, rfl, Or.inl rfl⟩
        · replace h12 : (1 : Int) = 0 := by have q : ¬ ((1 : Int) ≠ 0) := h12; omega
          exfalso; omega
      · show e_Ok 20 elay ecode eI (d + 1) 290 (17, [(0, (1, 275)), (1, (0, p1)), (2, (0, p2)), (3, (0, p3))], [(0, 0)], w) _
        refine e_Ok.if1 rfl (fun h27 => ?_) (fun h27 => ?_)
        · replace h27 : (0 : Int) ≠ 0 := h27
          exfalso; omega
        · replace h27 : (0 : Int) = 0 := by have q : ¬ ((0 : Int) ≠ 0) := h27; omega
          refine e_Ok.run (t' := (21, [(0, (1, 275)), (1, (0, p1)), (2, (0, p2)), (3, (0, p3))], [(0, (-1))], w)) 1 rfl ?_
          refine e_Ok.rets rfl rfl ?_
          exact ⟨_, rfl, Or.inl rfl⟩
  · show e_Ok 20 elay ecode eI (d + 1) 290 (5, [(0, (1, 275)), (1, (0, p1)), (2, (0, p2)), (3, (0, p3))], [(0, 0)], w) _
    refine e_Ok.if1 rfl (fun h28 => ?_) (fun h28 => ?_)
    · replace h28 : (0 : Int) = 0 := h28
      refine e_Ok.run (t' := (21, [(0, (1, 275)), (1, (0, p1)), (2, (0, p2)), (3, (0, p3))], [(0, (-1))], w)) 1 rfl ?_
      refine e_Ok.rets rfl rfl ?_
      exact ⟨_, rfl, Or.inl rfl⟩
    · replace h28 : (0 : Int) ≠ 0 := by have q : ¬ ((0 : Int) = 0) := h28; omega
      exfalso; omega
end
