noncomputable section
def mLk (c k : Int) : Prop := c = 276 ∧ 20868 ≤ k ∧ k ≤ 20875
theorem no_56_0 {k : Int} : ¬ mTr 275 k := by unfold mTr; omega
theorem no_56_1 {k : Int} : ¬ mBM 275 k := by unfold mBM; omega
theorem no_56_2 {b : Int} (hb : 0 ≤ b ∧ b ≤ 3) : ¬ mBM 276 (36 * b + 16) := by unfold mBM; omega
theorem no_56_3 {b : Int} {j : Int} (hb : 0 ≤ b ∧ b ≤ 3) (hj : 0 ≤ j ∧ j ≤ 5) : ¬ mBM 276 (36 * b + j + 38) := by unfold mBM; omega
theorem no_56_4 : ¬ mBM 276 1 := by unfold mBM; omega
theorem no_56_5 : ¬ mE 276 1 := by unfold mE; omega
theorem no_56_6 {b : Int} (hb : 0 ≤ b ∧ b ≤ 3) : ¬ mE 276 (36 * b + 16) := by unfold mE; omega
theorem no_56_7 {b : Int} (hb : 0 ≤ b ∧ b ≤ 3) : ¬ mE 276 (36 * b + 22) := by unfold mE; omega
theorem su_56_9 {c k : Int} (q : mE c k) : mTr c k := by
  unfold mE at q
  rcases q with ⟨q, (q | q)⟩
  · exact ⟨(by omega), Or.inl ⟨(by omega), (by omega)⟩⟩
  · exact ⟨(by omega), Or.inr (Or.inl (by omega))⟩
theorem su_56_10 {c k : Int} (q : mBM c k) : mTr c k := by
  unfold mBM at q
  rcases q with ⟨q, (q | q | ⟨q, (⟨q, (q | q)⟩)⟩ | ⟨q, ⟨q, q⟩⟩)⟩
  · exact ⟨(by omega), Or.inl ⟨(by omega), (by omega)⟩⟩
  · exact ⟨(by omega), Or.inr (Or.inl (by omega))⟩
  · exact ⟨(by omega), Or.inr (Or.inr (Or.inl ⟨(by omega), ⟨(by omega), Or.inl (by omega)⟩⟩))⟩
  · unfold mTr; omega
  · exact ⟨(by omega), Or.inr (Or.inr (Or.inr ⟨(by omega), ⟨(by omega), (by omega)⟩⟩))⟩
set_option maxHeartbeats 4000000 in
theorem c_385 {d : Nat} (hd : 22 ≤ d) {w : eW} (hT : e_Has mTy w) {a n : Int} (ha : 0 ≤ a ∧ a ≤ 4) (hn : -2147483648 ≤ n ∧ n ≤ 2147483647) (hE : w 276 5 ≤ 2147483600) : e_Ok 20 elay ecode eI d 385 (0, [(0, (1, 275)), (1, (0, a)), (2, (0, n))], [], w) (fun r w' => r = [] ∧ e_fr mTr w w' ∧ e_Has mTy w' ∧ (w 276 5 ≤ w' 276 5 ∧ w' 276 5 ≤ w 276 5 + 5) ∧ w' 276 1 = 0 ∧ (∀ b, 0 ≤ b → b < w 275 10 → w' 276 (36 * b + 16) = 0 ∧ ∀ j, 0 ≤ j → j ≤ 5 → w' 276 (36 * b + j + 38) = 0) ∧ (∀ b, 0 ≤ b → b < w 275 10 → (w 276 (36 * b + 16) = 1 ∨ w 276 (36 * b + 22) = 0) → w' 276 (36 * b + 22) = 0) ∧ (∀ b, w 275 10 ≤ b → b ≤ 3 → w' 276 (36 * b + 16) = w 276 (36 * b + 16) ∧ w' 276 (36 * b + 22) = w 276 (36 * b + 22))) := by
  obtain ⟨d, rfl⟩ : ∃ e, d = e + 1 := ⟨d - 1, by omega⟩
  have har := e_Has.get hT (c := 275) (k := 10) (lo := 0) (hi := 4) rfl (by decide)
  refine e_Ok.run (t' := (1, [(0, (1, 275)), (1, (0, a)), (2, (0, n))], [(1, 275)], w)) 1 rfl ?_
  refine e_Ok.getr (z := 276) rfl (el_o rfl) rfl rfl (e_Has.eq hT rfl) (by omega) ?_
  refine e_Ok.run (t' := (6, [(0, (1, 275)), (1, (0, a)), (2, (0, n))], [(0, 0), (0, 1), (1, 276)], w)) 2 rfl ?_
  refine e_Ok.ast rfl (el_o rfl) rfl rfl (by omega) ?_
  generalize hw1 : e_up w 276 1 0 = w1
  have f2 : e_fr mTr w w1 := e_fr.up (e_fr.refl w) hw1 (by unfold mTr; omega)
  have hT3 : e_Has mTy w1 := e_Has.upr hT hw1 rfl (by omega)
  refine e_Ok.run (t' := (8, [(0, (1, 275)), (1, (0, a)), (2, (0, n))], [(1, 275)], w1)) 1 rfl ?_
  refine e_Ok.getr (z := 276) rfl (el_o rfl) rfl rfl (by rw [← hw1]; exact (e_up_ne _ _ (Or.inl (by omega))).trans (e_Has.eq hT rfl)) (by omega) ?_
  refine e_Ok.run (t' := (13, [(0, (1, 275)), (1, (0, a)), (2, (0, n))], [(0, a), (0, 2), (1, 276)], w1)) 2 rfl ?_
  refine e_Ok.ast rfl (el_o rfl) rfl rfl (by omega) ?_
  generalize hw4 : e_up w1 276 2 a = w4
  have f5 : e_fr mTr w w4 := e_fr.up f2 hw4 (by unfold mTr; omega)
  have hT6 : e_Has mTy w4 := e_Has.upr hT3 hw4 rfl (by omega)
  refine e_Ok.run (t' := (15, [(0, (1, 275)), (1, (0, a)), (2, (0, n))], [(1, 275)], w4)) 1 rfl ?_
  refine e_Ok.getr (z := 276) rfl (el_o rfl) rfl rfl (by rw [← hw4]; exact (e_up_ne _ _ (Or.inl (by omega))).trans (by rw [← hw1]; exact (e_up_ne _ _ (Or.inl (by omega))).trans (e_Has.eq hT rfl))) (by omega) ?_
  refine e_Ok.run (t' := (20, [(0, (1, 275)), (1, (0, a)), (2, (0, n))], [(0, n), (0, 3), (1, 276)], w4)) 2 rfl ?_
  refine e_Ok.ast rfl (el_o rfl) rfl rfl (by omega) ?_
  generalize hw7 : e_up w4 276 3 n = w7
  have f8 : e_fr mTr w w7 := e_fr.up f5 hw7 (by unfold mTr; omega)
  have hT9 : e_Has mTy w7 := e_Has.upr hT6 hw7 rfl (by omega)
  refine e_Ok.run (t' := (22, [(0, (1, 275)), (1, (0, a)), (2, (0, n))], [(1, 275)], w7)) 1 rfl ?_
  refine e_Ok.getr (z := 276) rfl (el_o rfl) rfl rfl (by rw [← hw7]; exact (e_up_ne _ _ (Or.inl (by omega))).trans (by rw [← hw4]; exact (e_up_ne _ _ (Or.inl (by omega))).trans (by rw [← hw1]; exact (e_up_ne _ _ (Or.inl (by omega))).trans (e_Has.eq hT rfl)))) (by omega) ?_
  refine e_Ok.run (t' := (27, [(0, (1, 275)), (1, (0, a)), (2, (0, n))], [(1, 275), (0, 4), (1, 276)], w7)) 2 rfl ?_
  refine e_Ok.getr (z := 276) rfl (el_o rfl) rfl rfl (by rw [← hw7]; exact (e_up_ne _ _ (Or.inl (by omega))).trans (by rw [← hw4]; exact (e_up_ne _ _ (Or.inl (by omega))).trans (by rw [← hw1]; exact (e_up_ne _ _ (Or.inl (by omega))).trans (e_Has.eq hT rfl)))) (by omega) ?_
  refine e_Ok.run (t' := (31, [(0, (1, 275)), (1, (0, a)), (2, (0, n))], [(0, 0), (1, 276), (0, 4), (1, 276)], w7)) 1 rfl ?_
  have h10 := (e_Has.get hT (c := 276) (k := 0) (lo := 0) (hi := 6000) rfl (by decide))
  refine e_Ok.ald (z := w 276 0) rfl (el_o rfl) rfl (by omega) (by rw [← hw7]; exact (e_up_ne _ _ (Or.inr (by omega))).trans (by rw [← hw4]; exact (e_up_ne _ _ (Or.inr (by omega))).trans (by rw [← hw1]; exact (e_up_ne _ _ (Or.inr (by omega))).trans rfl))) (by omega) ?_
  refine e_Ok.ast rfl (el_o rfl) rfl rfl (by omega) ?_
  generalize hw11 : e_up w7 276 4 (w 276 0) = w11
  have f12 : e_fr mTr w w11 := e_fr.up f8 hw11 (by unfold mTr; omega)
  have hT13 : e_Has mTy w11 := e_Has.upr hT9 hw11 rfl (by omega)
  refine e_Ok.run (t' := (37, [(0, (1, 275)), (1, (0, a)), (2, (0, n))], [(0, n), (0, a), (0, 2), (1, 275)], w11)) 4 rfl ?_
  have e17 : w11 276 5 = w 276 5 := (by rw [← hw11]; exact (e_up_ne _ _ (Or.inr (by omega))).trans (by rw [← hw7]; exact (e_up_ne _ _ (Or.inr (by omega))).trans (by rw [← hw4]; exact (e_up_ne _ _ (Or.inr (by omega))).trans (by rw [← hw1]; exact (e_up_ne _ _ (Or.inr (by omega))).trans rfl))))
  refine e_Ok.callV rfl (by omega) rfl rfl rfl rfl (c_319 hT13 (by omega) (by omega) (by omega) (by omega)) (fun r14 w15 h16 => ?_)
  obtain ⟨rfl, q18, q18T, q18n⟩ := h16
  have f19 : e_fr mTr w w15 := e_fr.trans f12 (e_fr.mono q18 (fun c k q => su_56_9 q))
  show e_Ok 20 elay ecode eI (d + 1) 385 (40, [(0, (1, 275)), (1, (0, a)), (2, (0, n))], [], w15) _
  refine e_Ok.run (t' := (42, [(3, (0, 0)), (0, (1, 275)), (1, (0, a)), (2, (0, n))], [], w15)) 2 rfl ?_
  have hL20 : ∀ (nn : Nat) (y3 : Int) (v1 : eW), e_fr mTr w v1 ∧ e_Has mTy v1 ∧ (0 ≤ y3 ∧ y3 ≤ 4 ∧ y3 ≤ w 275 10) ∧ (∀ b, 0 ≤ b → b < y3 → v1 276 (36 * b + 16) = 0 ∧ ∀ j, 0 ≤ j → j ≤ 5 → v1 276 (36 * b + j + 38) = 0) ∧ (w 276 5 ≤ v1 276 5 ∧ v1 276 5 ≤ w 276 5 + 1 + y3) ∧ v1 276 1 = 0 ∧ (∀ b, 0 ≤ b → b < y3 → (w 276 (36 * b + 16) = 1 ∨ w 276 (36 * b + 22) = 0) → v1 276 (36 * b + 22) = 0) ∧ (∀ b, y3 ≤ b → b ≤ 3 → v1 276 (36 * b + 16) = w 276 (36 * b + 16) ∧ v1 276 (36 * b + 22) = w 276 (36 * b + 22)) → 5 - y3 < nn → e_Ok 20 elay ecode eI (d + 1) 385 (42, [(0, (1, 275)), (3, (0, y3))], [], v1) (fun r w' => r = [] ∧ e_fr mTr w w' ∧ e_Has mTy w' ∧ (w 276 5 ≤ w' 276 5 ∧ w' 276 5 ≤ w 276 5 + 5) ∧ w' 276 1 = 0 ∧ (∀ b, 0 ≤ b → b < w 275 10 → w' 276 (36 * b + 16) = 0 ∧ ∀ j, 0 ≤ j → j ≤ 5 → w' 276 (36 * b + j + 38) = 0) ∧ (∀ b, 0 ≤ b → b < w 275 10 → (w 276 (36 * b + 16) = 1 ∨ w 276 (36 * b + 22) = 0) → w' 276 (36 * b + 22) = 0) ∧ (∀ b, w 275 10 ≤ b → b ≤ 3 → w' 276 (36 * b + 16) = w 276 (36 * b + 16) ∧ w' 276 (36 * b + 22) = w 276 (36 * b + 22))) := by
    intro nn
    induction nn with
    | zero => intro y3 v1 hj hm; obtain ⟨j22, j23, j24, j25, j26, j27, j28, j29⟩ := hj; exfalso; omega
    | succ nn ih21 =>
      intro y3 v1 hj hm
      obtain ⟨j22, j23, j24, j25, j26, j27, j28, j29⟩ := hj
      refine e_Ok.run (t' := (44, [(0, (1, 275)), (3, (0, y3))], [(1, 275), (0, y3)], v1)) 2 rfl ?_
      refine e_Ok.getf (z := w 275 10) rfl (el_o rfl) rfl rfl ((j22 275 10 no_56_0).trans rfl) (by omega) ?_
      refine e_Ok.if2 rfl (fun h30 => ?_) (fun h30 => ?_)
      · replace h30 : (y3 : Int) ≥ w 275 10 := h30
        refine e_Ok.rets rfl rfl ?_
        exact ⟨rfl, j22, j23, by omega, j27, fun b g1 g2 => j25 b g1 (by omega), fun b g1 g2 => j28 b g1 (by omega), fun b g1 g2 => j29 b (by omega) g2⟩
      · replace h30 : (y3 : Int) < w 275 10 := by have q : ¬ ((y3 : Int) ≥ w 275 10) := h30; omega
        refine e_Ok.run (t' := (51, [(0, (1, 275)), (3, (0, y3))], [(0, y3)], v1)) 1 rfl ?_
        refine e_Ok.callS rfl (by omega) rfl rfl (c_268 (by omega)) (fun r31 w32 h33 => ?_)
        obtain ⟨rfl, rfl⟩ := h33
        show e_Ok 20 elay ecode eI (d + 1) 385 (54, [(0, (1, 275)), (3, (0, y3))], [(0, 36 * y3 + 16)], v1) _
        refine e_Ok.run (t' := (58, [(4, (0, 36 * y3 + 16)), (0, (1, 275)), (3, (0, y3))], [(0, y3), (1, 275)], v1)) 3 rfl ?_
        refine e_Ok.callV rfl (by omega) rfl rfl rfl rfl (c_383 (by omega) j23 (by omega) (by omega)) (fun r34 w35 h36 => ?_)
        obtain ⟨rfl, q37, q37T, q37n, q37m, q37a, q37b⟩ := h36
        have f38 : e_fr mTr w w35 := e_fr.trans j22 (e_fr.mono q37 (fun c k q => su_56_10 q))
        show e_Ok 20 elay ecode eI (d + 1) 385 (61, [(4, (0, 36 * y3 + 16)), (0, (1, 275)), (3, (0, y3))], [], w35) _
        refine e_Ok.run (t' := (62, [(4, (0, 36 * y3 + 16)), (0, (1, 275)), (3, (0, y3))], [(1, 275)], w35)) 1 rfl ?_
        refine e_Ok.getr (z := 276) rfl (el_o rfl) rfl rfl ((q37 275 0 no_56_1).trans ((j22 275 0 no_56_0).trans (e_Has.eq hT rfl))) (by omega) ?_
        refine e_Ok.run (t' := (68, [(4, (0, 36 * y3 + 16)), (0, (1, 275)), (3, (0, y3))], [(0, 0), (0, 36 * y3 + 16), (1, 276)], w35)) 2 rfl ?_
        refine e_Ok.add (z := 36 * y3 + 16) rfl (by omega) (by omega) ?_
        refine e_Ok.run (t' := (70, [(4, (0, 36 * y3 + 16)), (0, (1, 275)), (3, (0, y3))], [(0, 0), (0, 36 * y3 + 16), (1, 276)], w35)) 1 rfl ?_
        refine e_Ok.ast rfl (el_o rfl) rfl rfl (by omega) ?_
        generalize hw39 : e_up w35 276 (36 * y3 + 16) 0 = w39
        have f40 : e_fr mTr w w39 := e_fr.up f38 hw39 (by unfold mTr; omega)
        have hT41 : e_Has mTy w39 := e_Has.upr q37T hw39 (nR_STATE (a := y3) (by omega)) (by omega)
        refine e_Ok.run (t' := (74, [(5, (0, 0)), (4, (0, 36 * y3 + 16)), (0, (1, 275)), (3, (0, y3))], [], w39)) 2 rfl ?_
        have hL42 : ∀ (nn : Nat) (y5 : Int) (v2 : eW), e_fr mTr w v2 ∧ e_Has mTy v2 ∧ (0 ≤ y5 ∧ y5 ≤ 6) ∧ (∀ b, 0 ≤ b → b < y3 → v2 276 (36 * b + 16) = 0 ∧ ∀ j, 0 ≤ j → j ≤ 5 → v2 276 (36 * b + j + 38) = 0) ∧ v2 276 (36 * y3 + 16) = 0 ∧ (∀ j, 0 ≤ j → j < y5 → v2 276 (36 * y3 + j + 38) = 0) ∧ (w 276 5 ≤ v2 276 5 ∧ v2 276 5 ≤ w 276 5 + 2 + y3) ∧ v2 276 1 = 0 ∧ (∀ b, 0 ≤ b → b < y3 + 1 → (w 276 (36 * b + 16) = 1 ∨ w 276 (36 * b + 22) = 0) → v2 276 (36 * b + 22) = 0) ∧ (∀ b, y3 + 1 ≤ b → b ≤ 3 → v2 276 (36 * b + 16) = w 276 (36 * b + 16) ∧ v2 276 (36 * b + 22) = w 276 (36 * b + 22)) → 6 - y5 < nn → e_Ok 20 elay ecode eI (d + 1) 385 (74, [(0, (1, 275)), (3, (0, y3)), (4, (0, 36 * y3 + 16)), (5, (0, y5))], [], v2) (fun r w' => r = [] ∧ e_fr mTr w w' ∧ e_Has mTy w' ∧ (w 276 5 ≤ w' 276 5 ∧ w' 276 5 ≤ w 276 5 + 5) ∧ w' 276 1 = 0 ∧ (∀ b, 0 ≤ b → b < w 275 10 → w' 276 (36 * b + 16) = 0 ∧ ∀ j, 0 ≤ j → j ≤ 5 → w' 276 (36 * b + j + 38) = 0) ∧ (∀ b, 0 ≤ b → b < w 275 10 → (w 276 (36 * b + 16) = 1 ∨ w 276 (36 * b + 22) = 0) → w' 276 (36 * b + 22) = 0) ∧ (∀ b, w 275 10 ≤ b → b ≤ 3 → w' 276 (36 * b + 16) = w 276 (36 * b + 16) ∧ w' 276 (36 * b + 22) = w 276 (36 * b + 22))) := by
          intro nn
          induction nn with
          | zero => intro y5 v2 hj hm; obtain ⟨j44, j45, j46, j47, j48, j49, j50, j51, j52, j53⟩ := hj; exfalso; omega
          | succ nn ih43 =>
            intro y5 v2 hj hm
            obtain ⟨j44, j45, j46, j47, j48, j49, j50, j51, j52, j53⟩ := hj
            refine e_Ok.run (t' := (78, [(0, (1, 275)), (3, (0, y3)), (4, (0, 36 * y3 + 16)), (5, (0, y5))], [(0, 6), (0, y5)], v2)) 2 rfl ?_
            refine e_Ok.if2 rfl (fun h54 => ?_) (fun h54 => ?_)
            · replace h54 : (y5 : Int) ≥ 6 := h54
              refine e_Ok.inc (z := y3 + 1) rfl rfl (by omega) (by omega) ?_
              show e_Ok 20 elay ecode eI (d + 1) 385 (104, [(3, (0, y3 + 1)), (0, (1, 275)), (4, (0, 36 * y3 + 16)), (5, (0, y5))], [], v2) _
              refine e_Ok.run (t' := (42, [(3, (0, y3 + 1)), (0, (1, 275)), (4, (0, 36 * y3 + 16)), (5, (0, y5))], [], v2)) 1 rfl ?_
              refine e_Ok.sub eAlk (e_sub_of rfl ?_) (ih21 (y3 + 1) v2 ⟨j44, j45, by omega, (fun b g1 g2 => Decidable.byCases (p := b = y3) (fun e => by subst e; exact ⟨j48, fun j g3 g4 => j49 j g3 (by omega)⟩) (fun e => j47 b g1 (by omega))), by omega, j51, j52, j53⟩ (by omega))
              exact ⟨rfl, rfl, trivial⟩
            · replace h54 : (y5 : Int) < 6 := by have q : ¬ ((y5 : Int) ≥ 6) := h54; omega
              refine e_Ok.run (t' := (82, [(0, (1, 275)), (3, (0, y3)), (4, (0, 36 * y3 + 16)), (5, (0, y5))], [(1, 275)], v2)) 1 rfl ?_
              refine e_Ok.getr (z := 276) rfl (el_o rfl) rfl rfl ((j44 275 0 no_56_0).trans (e_Has.eq hT rfl)) (by omega) ?_
              refine e_Ok.run (t' := (89, [(0, (1, 275)), (3, (0, y3)), (4, (0, 36 * y3 + 16)), (5, (0, y5))], [(0, 22), (0, 36 * y3 + 16), (1, 276)], v2)) 2 rfl ?_
              refine e_Ok.add (z := 36 * y3 + 38) rfl (by omega) (by omega) ?_
              refine e_Ok.run (t' := (92, [(0, (1, 275)), (3, (0, y3)), (4, (0, 36 * y3 + 16)), (5, (0, y5))], [(0, y5), (0, 36 * y3 + 38), (1, 276)], v2)) 1 rfl ?_
              refine e_Ok.add (z := 36 * y3 + y5 + 38) rfl (by omega) (by omega) ?_
              refine e_Ok.run (t' := (94, [(0, (1, 275)), (3, (0, y3)), (4, (0, 36 * y3 + 16)), (5, (0, y5))], [(0, 0), (0, 36 * y3 + y5 + 38), (1, 276)], v2)) 1 rfl ?_
              refine e_Ok.ast rfl (el_o rfl) rfl rfl (by omega) ?_
              generalize hw55 : e_up v2 276 (36 * y3 + y5 + 38) 0 = w55
              have f56 : e_fr mTr w w55 := e_fr.up j44 hw55 (by unfold mTr; omega)
              have hT57 : e_Has mTy w55 := e_Has.upr j45 hw55 (nR_STEP (a := y3) (j := y5) (by omega) (by omega)) (by omega)
              refine e_Ok.inc (z := y5 + 1) rfl rfl (by omega) (by omega) ?_
              show e_Ok 20 elay ecode eI (d + 1) 385 (98, [(5, (0, y5 + 1)), (0, (1, 275)), (3, (0, y3)), (4, (0, 36 * y3 + 16))], [], w55) _
              refine e_Ok.run (t' := (74, [(5, (0, y5 + 1)), (0, (1, 275)), (3, (0, y3)), (4, (0, 36 * y3 + 16))], [], w55)) 1 rfl ?_
              refine e_Ok.sub eAlk (e_sub_of rfl ?_) (ih43 (y5 + 1) w55 ⟨f56, hT57, by omega, (fun b g1 g2 => ⟨Eq.trans (by rw [← hw55]; exact (e_up_ne _ _ (Or.inr (by omega))).trans rfl) (j47 b g1 g2).1, fun j g3 g4 => Eq.trans (by rw [← hw55]; exact (e_up_ne _ _ (Or.inr (by omega))).trans rfl) ((j47 b g1 g2).2 j g3 g4)⟩), (Eq.trans (by rw [← hw55]; exact (e_up_ne _ _ (Or.inr (by omega))).trans rfl) j48), (fun j g3 g4 => Decidable.byCases (p := j = y5) (fun e => by rw [e, ← hw55]; exact e_up_eq _ _ _ _) (fun e => Eq.trans (by rw [← hw55]; exact (e_up_ne _ _ (Or.inr (by omega))).trans rfl) (j49 j g3 (by omega)))), by have := (show w55 276 5 = v2 276 5 from (by rw [← hw55]; exact (e_up_ne _ _ (Or.inr (by omega))).trans rfl)); omega, (Eq.trans (by rw [← hw55]; exact (e_up_ne _ _ (Or.inr (by omega))).trans rfl) j51), (fun b g1 g2 g3 => Eq.trans (by rw [← hw55]; exact (e_up_ne _ _ (Or.inr (by omega))).trans rfl) (j52 b g1 g2 g3)), (fun b g1 g2 => ⟨Eq.trans (by rw [← hw55]; exact (e_up_ne _ _ (Or.inr (by omega))).trans rfl) (j53 b g1 g2).1, Eq.trans (by rw [← hw55]; exact (e_up_ne _ _ (Or.inr (by omega))).trans rfl) (j53 b g1 g2).2⟩)⟩ (by omega))
              exact ⟨rfl, rfl, rfl, rfl, trivial⟩
        refine e_Ok.sub eAlk (e_sub_of rfl ?_) (hL42 (6 + 1 : Int).toNat 0 w39 ⟨f40, hT41, by omega, (fun b g1 g2 => ⟨Eq.trans (by rw [← hw39]; exact (e_up_ne _ _ (Or.inr (by omega))).trans ((q37 276 (36 * b + 16) (by first | exact no_56_2 (by omega) | (unfold mBM; omega))).trans rfl)) (j25 b g1 g2).1, fun j g3 g4 => Eq.trans (by rw [← hw39]; exact (e_up_ne _ _ (Or.inr (by omega))).trans ((q37 276 (36 * b + j + 38) (by first | exact no_56_3 (by omega) (by omega) | (unfold mBM; omega))).trans rfl)) ((j25 b g1 g2).2 j g3 g4)⟩), (by rw [← hw39]; exact e_up_eq _ _ _ _), (fun j g3 g4 => by omega), by have := (show w39 276 5 = w35 276 5 from (by rw [← hw39]; exact (e_up_ne _ _ (Or.inr (by omega))).trans rfl)); omega, (Eq.trans (by rw [← hw39]; exact (e_up_ne _ _ (Or.inr (by omega))).trans ((q37 276 1 no_56_4).trans rfl)) j27), (fun b g1 g2 g3 => Eq.trans (by rw [← hw39]; exact (e_up_ne _ _ (Or.inr (by omega))).trans rfl) (Decidable.byCases (p := b = y3) (fun e => by have e1 := q37a; have e2 := q37b b (by omega) (by omega); have e3 := j29 b (by omega) (by omega); rw [← e] at e1 e2; omega) (fun e => ((q37b b (by omega) (by omega) (Or.inr e)).trans (j28 b g1 (by omega) g3))))), (fun b g1 g2 => ⟨Eq.trans (by rw [← hw39]; exact (e_up_ne _ _ (Or.inr (by omega))).trans ((q37 276 (36 * b + 16) (by first | exact no_56_2 (by omega) | (unfold mBM; omega))).trans rfl)) (j29 b (by omega) g2).1, Eq.trans (by rw [← hw39]; exact (e_up_ne _ _ (Or.inr (by omega))).trans rfl) ((q37b b (by omega) g2 (Or.inr (by omega))).trans (j29 b (by omega) g2).2)⟩)⟩ (by omega))
        exact ⟨rfl, rfl, rfl, rfl, trivial⟩
  refine e_Ok.sub eAlk (e_sub_of rfl ?_) (hL20 (5 + 1 : Int).toNat 0 w15 ⟨f19, q18T, by omega, (fun b g1 g2 => by omega), by have := (show w15 276 5 = w15 276 5 from rfl); omega, ((q18 276 1 no_56_5).trans (by rw [← hw11]; exact (e_up_ne _ _ (Or.inr (by omega))).trans (by rw [← hw7]; exact (e_up_ne _ _ (Or.inr (by omega))).trans (by rw [← hw4]; exact (e_up_ne _ _ (Or.inr (by omega))).trans (by rw [← hw1]; exact e_up_eq _ _ _ _))))), (fun b g1 g2 => by omega), (fun b g1 g2 => ⟨((q18 276 (36 * b + 16) (by first | exact no_56_6 (by omega) | (unfold mE; omega))).trans (by rw [← hw11]; exact (e_up_ne _ _ (Or.inr (by omega))).trans (by rw [← hw7]; exact (e_up_ne _ _ (Or.inr (by omega))).trans (by rw [← hw4]; exact (e_up_ne _ _ (Or.inr (by omega))).trans (by rw [← hw1]; exact (e_up_ne _ _ (Or.inr (by omega))).trans rfl))))), ((q18 276 (36 * b + 22) (by first | exact no_56_7 (by omega) | (unfold mE; omega))).trans (by rw [← hw11]; exact (e_up_ne _ _ (Or.inr (by omega))).trans (by rw [← hw7]; exact (e_up_ne _ _ (Or.inr (by omega))).trans (by rw [← hw4]; exact (e_up_ne _ _ (Or.inr (by omega))).trans (by rw [← hw1]; exact (e_up_ne _ _ (Or.inr (by omega))).trans rfl)))))⟩)⟩ (by omega))
  exact ⟨rfl, rfl, trivial⟩
theorem c_360 {d : Nat} (hd : 21 ≤ d) {w : eW} (hT : e_Has mTy w) {l : Int} (hl : 0 ≤ l ∧ l ≤ 7) : e_Ok 20 elay ecode eI d 360 (0, [(0, (1, 275)), (1, (0, l))], [], w) (fun r w' => r = [] ∧ e_fr mLk w w' ∧ e_Has mTy w') := by
  obtain ⟨d, rfl⟩ : ∃ e, d = e + 1 := ⟨d - 1, by omega⟩
  refine e_Ok.run (t' := (4, [(3, (0, 0)), (2, (0, (-1))), (0, (1, 275)), (1, (0, l))], [], w)) 4 rfl ?_
  have hL1 : ∀ (nn : Nat) (y2 : Int) (y3 : Int), (-1 ≤ y2 ∧ y2 ≤ 15) ∧ (0 ≤ y3 ∧ y3 ≤ 16) → 17 - y3 < nn → e_Ok 20 elay ecode eI (d + 1) 360 (4, [(0, (1, 275)), (1, (0, l)), (2, (0, y2)), (3, (0, y3))], [], w) (fun r w' => r = [] ∧ e_fr mLk w w' ∧ e_Has mTy w') := by
    intro nn
    induction nn with
    | zero => intro y2 y3 hj hm; obtain ⟨j3, j4⟩ := hj; exfalso; omega
    | succ nn ih2 =>
      intro y2 y3 hj hm
      obtain ⟨j3, j4⟩ := hj
      refine e_Ok.run (t' := (7, [(0, (1, 275)), (1, (0, l)), (2, (0, y2)), (3, (0, y3))], [(0, 16), (0, y3)], w)) 2 rfl ?_
      refine e_Ok.if2 rfl (fun h5 => ?_) (fun h5 => ?_)
      · replace h5 : (y3 : Int) ≥ 16 := h5
        refine e_Ok.run (t' := (78, [(0, (1, 275)), (1, (0, l)), (2, (0, y2)), (3, (0, y3))], [(1, 275)], w)) 1 rfl ?_
        refine e_Ok.getr (z := 276) rfl (el_o rfl) rfl rfl (e_Has.eq hT rfl) (by omega) ?_
        refine e_Ok.run (t' := (85, [(0, (1, 275)), (1, (0, l)), (2, (0, y2)), (3, (0, y3))], [(0, l), (0, 20868), (1, 276)], w)) 2 rfl ?_
        refine e_Ok.add (z := l + 20868) rfl (by omega) (by omega) ?_
        refine e_Ok.run (t' := (87, [(0, (1, 275)), (1, (0, l)), (2, (0, y2)), (3, (0, y3))], [(0, y2), (0, l + 20868), (1, 276)], w)) 1 rfl ?_
        refine e_Ok.ast rfl (el_o rfl) rfl rfl (by omega) ?_
        generalize hw6 : e_up w 276 (l + 20868) y2 = w6
        have f7 : e_fr mLk w w6 := e_fr.up (e_fr.refl w) hw6 (by unfold mLk; omega)
        have hT8 : e_Has mTy w6 := e_Has.upr hT hw6 (nR_LOCK (l := l) (by omega)) (by omega)
        refine e_Ok.rets rfl rfl ?_
        exact ⟨rfl, f7, hT8⟩
      · replace h5 : (y3 : Int) < 16 := by have q : ¬ ((y3 : Int) ≥ 16) := h5; omega
        refine e_Ok.run (t' := (11, [(0, (1, 275)), (1, (0, l)), (2, (0, y2)), (3, (0, y3))], [(0, y3)], w)) 1 rfl ?_
        refine e_Ok.callS rfl (by omega) rfl rfl (c_269 (by omega)) (fun r9 w10 h11 => ?_)
        obtain ⟨rfl, rfl⟩ := h11
        show e_Ok 20 elay ecode eI (d + 1) 360 (14, [(0, (1, 275)), (1, (0, l)), (2, (0, y2)), (3, (0, y3))], [(0, 1260 * y3 + 416)], w) _
        refine e_Ok.run (t' := (17, [(4, (0, 1260 * y3 + 416)), (0, (1, 275)), (1, (0, l)), (2, (0, y2)), (3, (0, y3))], [(1, 275)], w)) 2 rfl ?_
        refine e_Ok.getr (z := 276) rfl (el_o rfl) rfl rfl (e_Has.eq hT rfl) (by omega) ?_
        refine e_Ok.run (t' := (22, [(4, (0, 1260 * y3 + 416)), (0, (1, 275)), (1, (0, l)), (2, (0, y2)), (3, (0, y3))], [(0, 1260 * y3 + 416), (1, 276)], w)) 1 rfl ?_
        have h12 := (e_Has.get hT (c := 276) (k := 1260 * y3 + 416) (lo := 0) (hi := 7) (nR_TSTATE (t := y3) (by omega)) (by decide))
        refine e_Ok.ald (z := w 276 (1260 * y3 + 416)) rfl (el_o rfl) rfl (by omega) rfl (by omega) ?_
        refine e_Ok.run (t' := (24, [(4, (0, 1260 * y3 + 416)), (0, (1, 275)), (1, (0, l)), (2, (0, y2)), (3, (0, y3))], [(0, 5), (0, w 276 (1260 * y3 + 416))], w)) 1 rfl ?_
        refine e_Ok.if2 rfl (fun h13 => ?_) (fun h13 => ?_)
        · replace h13 : (w 276 (1260 * y3 + 416) : Int) ≠ 5 := h13
          refine e_Ok.inc (z := y3 + 1) rfl rfl (by omega) (by omega) ?_
          show e_Ok 20 elay ecode eI (d + 1) 360 (74, [(3, (0, y3 + 1)), (4, (0, 1260 * y3 + 416)), (0, (1, 275)), (1, (0, l)), (2, (0, y2))], [], w) _
          refine e_Ok.run (t' := (4, [(3, (0, y3 + 1)), (4, (0, 1260 * y3 + 416)), (0, (1, 275)), (1, (0, l)), (2, (0, y2))], [], w)) 1 rfl ?_
          refine e_Ok.sub eAlk (e_sub_of rfl ?_) (ih2 y2 (y3 + 1) ⟨by omega, by omega⟩ (by omega))
          exact ⟨rfl, rfl, rfl, rfl, trivial⟩
        · replace h13 : (w 276 (1260 * y3 + 416) : Int) = 5 := by have q : ¬ ((w 276 (1260 * y3 + 416) : Int) ≠ 5) := h13; omega
          refine e_Ok.run (t' := (28, [(4, (0, 1260 * y3 + 416)), (0, (1, 275)), (1, (0, l)), (2, (0, y2)), (3, (0, y3))], [(1, 275)], w)) 1 rfl ?_
          refine e_Ok.getr (z := 276) rfl (el_o rfl) rfl rfl (e_Has.eq hT rfl) (by omega) ?_
          refine e_Ok.run (t' := (34, [(4, (0, 1260 * y3 + 416)), (0, (1, 275)), (1, (0, l)), (2, (0, y2)), (3, (0, y3))], [(0, 5), (0, 1260 * y3 + 416), (1, 276)], w)) 2 rfl ?_
          refine e_Ok.add (z := 1260 * y3 + 421) rfl (by omega) (by omega) ?_
          have h14 := (e_Has.get hT (c := 276) (k := 1260 * y3 + 421) (lo := 0) (hi := 7) (nR_WANT (t := y3) (by omega)) (by decide))
          refine e_Ok.ald (z := w 276 (1260 * y3 + 421)) rfl (el_o rfl) rfl (by omega) rfl (by omega) ?_
          refine e_Ok.run (t' := (37, [(4, (0, 1260 * y3 + 416)), (0, (1, 275)), (1, (0, l)), (2, (0, y2)), (3, (0, y3))], [(0, l), (0, w 276 (1260 * y3 + 421))], w)) 1 rfl ?_
          refine e_Ok.if2 rfl (fun h15 => ?_) (fun h15 => ?_)
          · replace h15 : (w 276 (1260 * y3 + 421) : Int) ≠ l := h15
            refine e_Ok.inc (z := y3 + 1) rfl rfl (by omega) (by omega) ?_
            show e_Ok 20 elay ecode eI (d + 1) 360 (74, [(3, (0, y3 + 1)), (4, (0, 1260 * y3 + 416)), (0, (1, 275)), (1, (0, l)), (2, (0, y2))], [], w) _
            refine e_Ok.run (t' := (4, [(3, (0, y3 + 1)), (4, (0, 1260 * y3 + 416)), (0, (1, 275)), (1, (0, l)), (2, (0, y2))], [], w)) 1 rfl ?_
            refine e_Ok.sub eAlk (e_sub_of rfl ?_) (ih2 y2 (y3 + 1) ⟨by omega, by omega⟩ (by omega))
            exact ⟨rfl, rfl, rfl, rfl, trivial⟩
          · replace h15 : (w 276 (1260 * y3 + 421) : Int) = l := by have q : ¬ ((w 276 (1260 * y3 + 421) : Int) ≠ l) := h15; omega
            refine e_Ok.run (t' := (41, [(4, (0, 1260 * y3 + 416)), (0, (1, 275)), (1, (0, l)), (2, (0, y2)), (3, (0, y3))], [(0, y2)], w)) 1 rfl ?_
            refine e_Ok.if1 rfl (fun h16 => ?_) (fun h16 => ?_)
            · replace h16 : (y2 : Int) < 0 := h16
              refine e_Ok.run (t' := (71, [(2, (0, y3)), (4, (0, 1260 * y3 + 416)), (0, (1, 275)), (1, (0, l)), (3, (0, y3))], [], w)) 2 rfl ?_
              refine e_Ok.inc (z := y3 + 1) rfl rfl (by omega) (by omega) ?_
              show e_Ok 20 elay ecode eI (d + 1) 360 (74, [(3, (0, y3 + 1)), (2, (0, y3)), (4, (0, 1260 * y3 + 416)), (0, (1, 275)), (1, (0, l))], [], w) _
              refine e_Ok.run (t' := (4, [(3, (0, y3 + 1)), (2, (0, y3)), (4, (0, 1260 * y3 + 416)), (0, (1, 275)), (1, (0, l))], [], w)) 1 rfl ?_
              refine e_Ok.sub eAlk (e_sub_of rfl ?_) (ih2 y3 (y3 + 1) ⟨by omega, by omega⟩ (by omega))
              exact ⟨rfl, rfl, rfl, rfl, trivial⟩
            · replace h16 : (y2 : Int) ≥ 0 := by have q : ¬ ((y2 : Int) < 0) := h16; omega
              refine e_Ok.run (t' := (45, [(4, (0, 1260 * y3 + 416)), (0, (1, 275)), (1, (0, l)), (2, (0, y2)), (3, (0, y3))], [(1, 275)], w)) 1 rfl ?_
              refine e_Ok.getr (z := 276) rfl (el_o rfl) rfl rfl (e_Has.eq hT rfl) (by omega) ?_
              refine e_Ok.run (t' := (52, [(4, (0, 1260 * y3 + 416)), (0, (1, 275)), (1, (0, l)), (2, (0, y2)), (3, (0, y3))], [(0, 6), (0, 1260 * y3 + 416), (1, 276)], w)) 2 rfl ?_
              refine e_Ok.add (z := 1260 * y3 + 422) rfl (by omega) (by omega) ?_
              have h17 := (e_Has.get hT (c := 276) (k := 1260 * y3 + 422) (lo := (-2147483648)) (hi := 2147483647) (nR_ORDER_IN (t := y3) (by omega)) (by decide))
              refine e_Ok.ald (z := w 276 (1260 * y3 + 422)) rfl (el_o rfl) rfl (by omega) rfl (by omega) ?_
              refine e_Ok.run (t' := (55, [(4, (0, 1260 * y3 + 416)), (0, (1, 275)), (1, (0, l)), (2, (0, y2)), (3, (0, y3))], [(1, 275), (0, w 276 (1260 * y3 + 422))], w)) 1 rfl ?_
              refine e_Ok.getr (z := 276) rfl (el_o rfl) rfl rfl (e_Has.eq hT rfl) (by omega) ?_
              refine e_Ok.run (t' := (59, [(4, (0, 1260 * y3 + 416)), (0, (1, 275)), (1, (0, l)), (2, (0, y2)), (3, (0, y3))], [(0, y2), (1, 276), (0, w 276 (1260 * y3 + 422))], w)) 1 rfl ?_
              refine e_Ok.callS rfl (by omega) rfl rfl (c_269 (by omega)) (fun r18 w19 h20 => ?_)
              obtain ⟨rfl, rfl⟩ := h20
              show e_Ok 20 elay ecode eI (d + 1) 360 (62, [(4, (0, 1260 * y3 + 416)), (0, (1, 275)), (1, (0, l)), (2, (0, y2)), (3, (0, y3))], [(0, 1260 * y2 + 416), (1, 276), (0, w 276 (1260 * y3 + 422))], w) _
              refine e_Ok.run (t' := (64, [(4, (0, 1260 * y3 + 416)), (0, (1, 275)), (1, (0, l)), (2, (0, y2)), (3, (0, y3))], [(0, 6), (0, 1260 * y2 + 416), (1, 276), (0, w 276 (1260 * y3 + 422))], w)) 1 rfl ?_
              refine e_Ok.add (z := 1260 * y2 + 422) rfl (by omega) (by omega) ?_
              have h21 := (e_Has.get hT (c := 276) (k := 1260 * y2 + 422) (lo := (-2147483648)) (hi := 2147483647) (nR_ORDER_IN (t := y2) (by omega)) (by decide))
              refine e_Ok.ald (z := w 276 (1260 * y2 + 422)) rfl (el_o rfl) rfl (by omega) rfl (by omega) ?_
              refine e_Ok.if2 rfl (fun h22 => ?_) (fun h22 => ?_)
              · replace h22 : (w 276 (1260 * y3 + 422) : Int) ≥ w 276 (1260 * y2 + 422) := h22
                refine e_Ok.inc (z := y3 + 1) rfl rfl (by omega) (by omega) ?_
                show e_Ok 20 elay ecode eI (d + 1) 360 (74, [(3, (0, y3 + 1)), (4, (0, 1260 * y3 + 416)), (0, (1, 275)), (1, (0, l)), (2, (0, y2))], [], w) _
                refine e_Ok.run (t' := (4, [(3, (0, y3 + 1)), (4, (0, 1260 * y3 + 416)), (0, (1, 275)), (1, (0, l)), (2, (0, y2))], [], w)) 1 rfl ?_
                refine e_Ok.sub eAlk (e_sub_of rfl ?_) (ih2 y2 (y3 + 1) ⟨by omega, by omega⟩ (by omega))
                exact ⟨rfl, rfl, rfl, rfl, trivial⟩
              · replace h22 : (w 276 (1260 * y3 + 422) : Int) < w 276 (1260 * y2 + 422) := by have q : ¬ ((w 276 (1260 * y3 + 422) : Int) ≥ w 276 (1260 * y2 + 422)) := h22; omega
                refine e_Ok.run (t' := (71, [(2, (0, y3)), (4, (0, 1260 * y3 + 416)), (0, (1, 275)), (1, (0, l)), (3, (0, y3))], [], w)) 2 rfl ?_
                refine e_Ok.inc (z := y3 + 1) rfl rfl (by omega) (by omega) ?_
                show e_Ok 20 elay ecode eI (d + 1) 360 (74, [(3, (0, y3 + 1)), (2, (0, y3)), (4, (0, 1260 * y3 + 416)), (0, (1, 275)), (1, (0, l))], [], w) _
                refine e_Ok.run (t' := (4, [(3, (0, y3 + 1)), (2, (0, y3)), (4, (0, 1260 * y3 + 416)), (0, (1, 275)), (1, (0, l))], [], w)) 1 rfl ?_
                refine e_Ok.sub eAlk (e_sub_of rfl ?_) (ih2 y3 (y3 + 1) ⟨by omega, by omega⟩ (by omega))
                exact ⟨rfl, rfl, rfl, rfl, trivial⟩
  refine e_Ok.sub eAlk (e_sub_of rfl ?_) (hL1 (17 + 1 : Int).toNat (-1) 0 ⟨by omega, by omega⟩ (by omega))
  exact ⟨rfl, rfl, rfl, rfl, trivial⟩
theorem no_56_8 {k : Int} : ¬ mLk 275 k := by unfold mLk; omega
theorem c_361 {d : Nat} (hd : 22 ≤ d) {w : eW} (hT : e_Has mTy w) {t : Int} : e_Ok 20 elay ecode eI d 361 (0, [(0, (1, 275)), (1, (0, t))], [], w) (fun r w' => r = [] ∧ e_fr mLk w w' ∧ e_Has mTy w') := by
  obtain ⟨d, rfl⟩ : ∃ e, d = e + 1 := ⟨d - 1, by omega⟩
  refine e_Ok.run (t' := (2, [(2, (0, 0)), (0, (1, 275)), (1, (0, t))], [], w)) 2 rfl ?_
  have hL1 : ∀ (nn : Nat) (y2 : Int) (v1 : eW), e_fr mLk w v1 ∧ e_Has mTy v1 ∧ (0 ≤ y2 ∧ y2 ≤ 8) → 9 - y2 < nn → e_Ok 20 elay ecode eI (d + 1) 361 (2, [(0, (1, 275)), (1, (0, t)), (2, (0, y2))], [], v1) (fun r w' => r = [] ∧ e_fr mLk w w' ∧ e_Has mTy w') := by
    intro nn
    induction nn with
    | zero => intro y2 v1 hj hm; obtain ⟨j3, j4, j5⟩ := hj; exfalso; omega
    | succ nn ih2 =>
      intro y2 v1 hj hm
      obtain ⟨j3, j4, j5⟩ := hj
      refine e_Ok.run (t' := (5, [(0, (1, 275)), (1, (0, t)), (2, (0, y2))], [(0, 8), (0, y2)], v1)) 2 rfl ?_
      refine e_Ok.if2 rfl (fun h6 => ?_) (fun h6 => ?_)
      · replace h6 : (y2 : Int) ≥ 8 := h6
        refine e_Ok.rets rfl rfl ?_
        exact ⟨rfl, j3, j4⟩
      · replace h6 : (y2 : Int) < 8 := by have q : ¬ ((y2 : Int) ≥ 8) := h6; omega
        refine e_Ok.run (t' := (9, [(0, (1, 275)), (1, (0, t)), (2, (0, y2))], [(1, 275)], v1)) 1 rfl ?_
        refine e_Ok.getr (z := 276) rfl (el_o rfl) rfl rfl ((j3 275 0 no_56_8).trans (e_Has.eq hT rfl)) (by omega) ?_
        refine e_Ok.run (t' := (16, [(0, (1, 275)), (1, (0, t)), (2, (0, y2))], [(0, y2), (0, 20868), (1, 276)], v1)) 2 rfl ?_
        refine e_Ok.add (z := y2 + 20868) rfl (by omega) (by omega) ?_
        have h7 := (e_Has.get j4 (c := 276) (k := y2 + 20868) (lo := (-1)) (hi := 15) (nR_LOCK (l := y2) (by omega)) (by decide))
        refine e_Ok.ald (z := v1 276 (y2 + 20868)) rfl (el_o rfl) rfl (by omega) rfl (by omega) ?_
        refine e_Ok.run (t' := (19, [(0, (1, 275)), (1, (0, t)), (2, (0, y2))], [(0, t), (0, v1 276 (y2 + 20868))], v1)) 1 rfl ?_
        refine e_Ok.if2 rfl (fun h8 => ?_) (fun h8 => ?_)
        · replace h8 : (v1 276 (y2 + 20868) : Int) ≠ t := h8
          refine e_Ok.inc (z := y2 + 1) rfl rfl (by omega) (by omega) ?_
          show e_Ok 20 elay ecode eI (d + 1) 361 (30, [(2, (0, y2 + 1)), (0, (1, 275)), (1, (0, t))], [], v1) _
          refine e_Ok.run (t' := (2, [(2, (0, y2 + 1)), (0, (1, 275)), (1, (0, t))], [], v1)) 1 rfl ?_
          refine e_Ok.sub eAlk (e_sub_of rfl ?_) (ih2 (y2 + 1) v1 ⟨j3, j4, by omega⟩ (by omega))
          exact ⟨rfl, rfl, rfl, trivial⟩
        · replace h8 : (v1 276 (y2 + 20868) : Int) = t := by have q : ¬ ((v1 276 (y2 + 20868) : Int) ≠ t) := h8; omega
          refine e_Ok.run (t' := (24, [(0, (1, 275)), (1, (0, t)), (2, (0, y2))], [(0, y2), (1, 275)], v1)) 2 rfl ?_
          refine e_Ok.callV rfl (by omega) rfl rfl rfl rfl (c_360 (by omega) j4 (by omega)) (fun r9 w10 h11 => ?_)
          obtain ⟨rfl, q12, q12T⟩ := h11
          have f13 : e_fr mLk w w10 := e_fr.trans j3 (e_fr.mono q12 (fun c k q => by exact q))
          show e_Ok 20 elay ecode eI (d + 1) 361 (27, [(0, (1, 275)), (1, (0, t)), (2, (0, y2))], [], w10) _
          refine e_Ok.inc (z := y2 + 1) rfl rfl (by omega) (by omega) ?_
          show e_Ok 20 elay ecode eI (d + 1) 361 (30, [(2, (0, y2 + 1)), (0, (1, 275)), (1, (0, t))], [], w10) _
          refine e_Ok.run (t' := (2, [(2, (0, y2 + 1)), (0, (1, 275)), (1, (0, t))], [], w10)) 1 rfl ?_
          refine e_Ok.sub eAlk (e_sub_of rfl ?_) (ih2 (y2 + 1) w10 ⟨f13, q12T, by omega⟩ (by omega))
          exact ⟨rfl, rfl, rfl, trivial⟩
  refine e_Ok.sub eAlk (e_sub_of rfl ?_) (hL1 (9 + 1 : Int).toNat 0 w ⟨(e_fr.refl w), hT, by omega⟩ (by omega))
  exact ⟨rfl, rfl, rfl, trivial⟩
end
